set_option maxRecDepth 20000 in
theorem ggX6_sink_X6_melted : GoodIn wsX6_sink wsX6_melted := goodIn_r _ [10, 3, 1, 2, 11, 12, 9, 13, 17, 18, 19, 20, 21, 22, 23, 24, 25, 26, 27, 28, 29, 30, 31, 32, 33, 34, 35, 36, 37, 38, 39, 40, 41, 42, 43, 44, 45, 46, 47, 48] (by decide +kernel) (by decide +kernel)
set_option maxRecDepth 20000 in
theorem gX6_sink_X6_melted : GoodIn wsX6_sink (wsV RX6 151 RX6 yX6_melted wsX6_melted) := goodIn_app (goodIn_of _ (by decide +kernel)) ggX6_sink_X6_melted
set_option maxRecDepth 20000 in
theorem ggX6_sink_X6_greater : GoodIn wsX6_sink wsX6_greater := goodIn_r _ [16] (by decide +kernel) (by decide +kernel)
set_option maxRecDepth 20000 in
theorem gX6_sink_X6_greater : GoodIn wsX6_sink (va_wsS RX6 145 yX6_greater wsX6_greater) := goodIn_app (goodIn_of _ (by decide +kernel)) ggX6_sink_X6_greater
theorem dX6_sink_0 : decode cX6_sink 0 = .ok (.iconst 0, 1) := by decide +kernel
theorem dX6_sink_1 : decode cX6_sink 1 = .ok (.aload_n 0, 1) := by decide +kernel
theorem dX6_sink_2 : decode cX6_sink 2 = .ok (.iload_n 1, 1) := by decide +kernel
theorem dX6_sink_3 : decode cX6_sink 3 = .ok (.invokevirtual 151, 3) := by decide +kernel
theorem dX6_sink_6 : decode cX6_sink 6 = .ok (.aload_n 0, 1) := by decide +kernel
theorem dX6_sink_7 : decode cX6_sink 7 = .ok (.getfield 28, 3) := by decide +kernel
theorem dX6_sink_10 : decode cX6_sink 10 = .ok (.iload_n 1, 1) := by decide +kernel
theorem dX6_sink_11 : decode cX6_sink 11 = .ok (.iaload, 1) := by decide +kernel
theorem dX6_sink_12 : decode cX6_sink 12 = .ok (.isub, 1) := by decide +kernel
theorem dX6_sink_13 : decode cX6_sink 13 = .ok (.invokestatic 145, 3) := by decide +kernel
theorem dX6_sink_16 : decode cX6_sink 16 = .ok (.istore_n 2, 1) := by decide +kernel
theorem dX6_sink_17 : decode cX6_sink 17 = .ok (.aload_n 0, 1) := by decide +kernel
theorem dX6_sink_18 : decode cX6_sink 18 = .ok (.getfield 31, 3) := by decide +kernel
theorem dX6_sink_21 : decode cX6_sink 21 = .ok (.iload_n 1, 1) := by decide +kernel
theorem dX6_sink_22 : decode cX6_sink 22 = .ok (.dup2, 1) := by decide +kernel
theorem dX6_sink_23 : decode cX6_sink 23 = .ok (.iaload, 1) := by decide +kernel
theorem dX6_sink_24 : decode cX6_sink 24 = .ok (.iload_n 2, 1) := by decide +kernel
theorem dX6_sink_25 : decode cX6_sink 25 = .ok (.isub, 1) := by decide +kernel
theorem dX6_sink_26 : decode cX6_sink 26 = .ok (.iastore, 1) := by decide +kernel
theorem dX6_sink_27 : decode cX6_sink 27 = .ok (.aload_n 0, 1) := by decide +kernel
theorem dX6_sink_28 : decode cX6_sink 28 = .ok (.getfield 34, 3) := by decide +kernel
theorem dX6_sink_31 : decode cX6_sink 31 = .ok (.iload_n 1, 1) := by decide +kernel
theorem dX6_sink_32 : decode cX6_sink 32 = .ok (.dup2, 1) := by decide +kernel
theorem dX6_sink_33 : decode cX6_sink 33 = .ok (.iaload, 1) := by decide +kernel
theorem dX6_sink_34 : decode cX6_sink 34 = .ok (.sipush 1000, 3) := by decide +kernel
theorem dX6_sink_37 : decode cX6_sink 37 = .ok (.iload_n 2, 1) := by decide +kernel
theorem dX6_sink_38 : decode cX6_sink 38 = .ok (.imul, 1) := by decide +kernel
theorem dX6_sink_39 : decode cX6_sink 39 = .ok (.isub, 1) := by decide +kernel
theorem dX6_sink_40 : decode cX6_sink 40 = .ok (.iastore, 1) := by decide +kernel
theorem dX6_sink_41 : decode cX6_sink 41 = .ok (.aload_n 0, 1) := by decide +kernel
theorem dX6_sink_42 : decode cX6_sink 42 = .ok (.getfield 7, 3) := by decide +kernel
theorem dX6_sink_45 : decode cX6_sink 45 = .ok (.iload_n 1, 1) := by decide +kernel
theorem dX6_sink_46 : decode cX6_sink 46 = .ok (.iconst 5, 1) := by decide +kernel
theorem dX6_sink_47 : decode cX6_sink 47 = .ok (.idiv, 1) := by decide +kernel
theorem dX6_sink_48 : decode cX6_sink 48 = .ok (.dup2, 1) := by decide +kernel
theorem dX6_sink_49 : decode cX6_sink 49 = .ok (.iaload, 1) := by decide +kernel
theorem dX6_sink_50 : decode cX6_sink 50 = .ok (.iload_n 2, 1) := by decide +kernel
theorem dX6_sink_51 : decode cX6_sink 51 = .ok (.isub, 1) := by decide +kernel
theorem dX6_sink_52 : decode cX6_sink 52 = .ok (.iastore, 1) := by decide +kernel
theorem dX6_sink_53 : decode cX6_sink 53 = .ok (.aload_n 0, 1) := by decide +kernel
theorem dX6_sink_54 : decode cX6_sink 54 = .ok (.getfield 13, 3) := by decide +kernel
theorem dX6_sink_57 : decode cX6_sink 57 = .ok (.iload_n 1, 1) := by decide +kernel
theorem dX6_sink_58 : decode cX6_sink 58 = .ok (.iconst 5, 1) := by decide +kernel
theorem dX6_sink_59 : decode cX6_sink 59 = .ok (.idiv, 1) := by decide +kernel
theorem dX6_sink_60 : decode cX6_sink 60 = .ok (.dup2, 1) := by decide +kernel
theorem dX6_sink_61 : decode cX6_sink 61 = .ok (.iaload, 1) := by decide +kernel
theorem dX6_sink_62 : decode cX6_sink 62 = .ok (.iload_n 2, 1) := by decide +kernel
theorem dX6_sink_63 : decode cX6_sink 63 = .ok (.iadd, 1) := by decide +kernel
theorem dX6_sink_64 : decode cX6_sink 64 = .ok (.iastore, 1) := by decide +kernel
theorem dX6_sink_65 : decode cX6_sink 65 = .ok (.return_, 1) := by decide +kernel
set_option maxRecDepth 20000 in
theorem ggX6_flow_X6_beside : GoodIn wsX6_flow wsX6_beside := goodIn_r _ [6] (by decide +kernel) (by decide +kernel)
set_option maxRecDepth 20000 in
theorem gX6_flow_X6_beside : GoodIn wsX6_flow (va_wsS RX6 154 yX6_beside wsX6_beside) := goodIn_app (goodIn_of _ (by decide +kernel)) ggX6_flow_X6_beside
set_option maxRecDepth 20000 in
theorem ggX6_flow_X6_lesser : GoodIn wsX6_flow wsX6_lesser := goodIn_r _ [9] (by decide +kernel) (by decide +kernel)
set_option maxRecDepth 20000 in
theorem gX6_flow_X6_lesser : GoodIn wsX6_flow (va_wsS RX6 98 yX6_lesser wsX6_lesser) := goodIn_app (goodIn_of _ (by decide +kernel)) ggX6_flow_X6_lesser
theorem dX6_flow_0 : decode cX6_flow 0 = .ok (.iconst (-1), 1) := by decide +kernel
theorem dX6_flow_1 : decode cX6_flow 1 = .ok (.istore_n 2, 1) := by decide +kernel
theorem dX6_flow_2 : decode cX6_flow 2 = .ok (.iconst 0, 1) := by decide +kernel
theorem dX6_flow_3 : decode cX6_flow 3 = .ok (.istore_n 3, 1) := by decide +kernel
theorem dX6_flow_4 : decode cX6_flow 4 = .ok (.iload_n 3, 1) := by decide +kernel
theorem dX6_flow_5 : decode cX6_flow 5 = .ok (.iconst 4, 1) := by decide +kernel
theorem dX6_flow_6 : decode cX6_flow 6 = .ok (.if_icmp .ge 77, 3) := by decide +kernel
theorem dX6_flow_9 : decode cX6_flow 9 = .ok (.iload_n 1, 1) := by decide +kernel
theorem dX6_flow_10 : decode cX6_flow 10 = .ok (.iload_n 3, 1) := by decide +kernel
theorem dX6_flow_11 : decode cX6_flow 11 = .ok (.invokestatic 154, 3) := by decide +kernel
theorem dX6_flow_14 : decode cX6_flow 14 = .ok (.istore 4, 2) := by decide +kernel
theorem dX6_flow_16 : decode cX6_flow 16 = .ok (.iload 4, 2) := by decide +kernel
theorem dX6_flow_18 : decode cX6_flow 18 = .ok (.iconst (-1), 1) := by decide +kernel
theorem dX6_flow_19 : decode cX6_flow 19 = .ok (.if_icmp .eq 43, 3) := by decide +kernel
theorem dX6_flow_22 : decode cX6_flow 22 = .ok (.iload_n 2, 1) := by decide +kernel
theorem dX6_flow_23 : decode cX6_flow 23 = .ok (.iconst (-1), 1) := by decide +kernel
theorem dX6_flow_24 : decode cX6_flow 24 = .ok (.if_icmp .eq 34, 3) := by decide +kernel
theorem dX6_flow_27 : decode cX6_flow 27 = .ok (.aload_n 0, 1) := by decide +kernel
theorem dX6_flow_28 : decode cX6_flow 28 = .ok (.getfield 7, 3) := by decide +kernel
theorem dX6_flow_31 : decode cX6_flow 31 = .ok (.iload 4, 2) := by decide +kernel
theorem dX6_flow_33 : decode cX6_flow 33 = .ok (.iaload, 1) := by decide +kernel
theorem dX6_flow_34 : decode cX6_flow 34 = .ok (.aload_n 0, 1) := by decide +kernel
theorem dX6_flow_35 : decode cX6_flow 35 = .ok (.getfield 13, 3) := by decide +kernel
theorem dX6_flow_38 : decode cX6_flow 38 = .ok (.iload 4, 2) := by decide +kernel
theorem dX6_flow_40 : decode cX6_flow 40 = .ok (.iaload, 1) := by decide +kernel
theorem dX6_flow_41 : decode cX6_flow 41 = .ok (.iadd, 1) := by decide +kernel
theorem dX6_flow_42 : decode cX6_flow 42 = .ok (.aload_n 0, 1) := by decide +kernel
theorem dX6_flow_43 : decode cX6_flow 43 = .ok (.getfield 7, 3) := by decide +kernel
theorem dX6_flow_46 : decode cX6_flow 46 = .ok (.iload_n 2, 1) := by decide +kernel
theorem dX6_flow_47 : decode cX6_flow 47 = .ok (.iaload, 1) := by decide +kernel
theorem dX6_flow_48 : decode cX6_flow 48 = .ok (.aload_n 0, 1) := by decide +kernel
theorem dX6_flow_49 : decode cX6_flow 49 = .ok (.getfield 13, 3) := by decide +kernel
theorem dX6_flow_52 : decode cX6_flow 52 = .ok (.iload_n 2, 1) := by decide +kernel
theorem dX6_flow_53 : decode cX6_flow 53 = .ok (.iaload, 1) := by decide +kernel
theorem dX6_flow_54 : decode cX6_flow 54 = .ok (.iadd, 1) := by decide +kernel
theorem dX6_flow_55 : decode cX6_flow 55 = .ok (.if_icmp .ge 7, 3) := by decide +kernel
theorem dX6_flow_58 : decode cX6_flow 58 = .ok (.iconst 1, 1) := by decide +kernel
theorem dX6_flow_59 : decode cX6_flow 59 = .ok (.goto 4, 3) := by decide +kernel
theorem dX6_flow_62 : decode cX6_flow 62 = .ok (.iconst 0, 1) := by decide +kernel
theorem dX6_flow_63 : decode cX6_flow 63 = .ok (.istore 5, 2) := by decide +kernel
theorem dX6_flow_65 : decode cX6_flow 65 = .ok (.iload 5, 2) := by decide +kernel
theorem dX6_flow_67 : decode cX6_flow 67 = .ok (.ifCond .eq 8, 3) := by decide +kernel
theorem dX6_flow_70 : decode cX6_flow 70 = .ok (.iload 4, 2) := by decide +kernel
theorem dX6_flow_72 : decode cX6_flow 72 = .ok (.goto 4, 3) := by decide +kernel
theorem dX6_flow_75 : decode cX6_flow 75 = .ok (.iload_n 2, 1) := by decide +kernel
theorem dX6_flow_76 : decode cX6_flow 76 = .ok (.istore_n 2, 1) := by decide +kernel
theorem dX6_flow_77 : decode cX6_flow 77 = .ok (.iinc 3 1, 3) := by decide +kernel
theorem dX6_flow_80 : decode cX6_flow 80 = .ok (.goto (-76), 3) := by decide +kernel
theorem dX6_flow_83 : decode cX6_flow 83 = .ok (.aload_n 0, 1) := by decide +kernel
theorem dX6_flow_84 : decode cX6_flow 84 = .ok (.getfield 7, 3) := by decide +kernel
theorem dX6_flow_87 : decode cX6_flow 87 = .ok (.iload_n 1, 1) := by decide +kernel
theorem dX6_flow_88 : decode cX6_flow 88 = .ok (.iaload, 1) := by decide +kernel
theorem dX6_flow_89 : decode cX6_flow 89 = .ok (.aload_n 0, 1) := by decide +kernel
theorem dX6_flow_90 : decode cX6_flow 90 = .ok (.getfield 13, 3) := by decide +kernel
theorem dX6_flow_93 : decode cX6_flow 93 = .ok (.iload_n 1, 1) := by decide +kernel
theorem dX6_flow_94 : decode cX6_flow 94 = .ok (.iaload, 1) := by decide +kernel
theorem dX6_flow_95 : decode cX6_flow 95 = .ok (.iadd, 1) := by decide +kernel
theorem dX6_flow_96 : decode cX6_flow 96 = .ok (.aload_n 0, 1) := by decide +kernel
theorem dX6_flow_97 : decode cX6_flow 97 = .ok (.getfield 7, 3) := by decide +kernel
theorem dX6_flow_100 : decode cX6_flow 100 = .ok (.iload_n 2, 1) := by decide +kernel
theorem dX6_flow_101 : decode cX6_flow 101 = .ok (.iaload, 1) := by decide +kernel
theorem dX6_flow_102 : decode cX6_flow 102 = .ok (.isub, 1) := by decide +kernel
theorem dX6_flow_103 : decode cX6_flow 103 = .ok (.aload_n 0, 1) := by decide +kernel
theorem dX6_flow_104 : decode cX6_flow 104 = .ok (.getfield 13, 3) := by decide +kernel
theorem dX6_flow_107 : decode cX6_flow 107 = .ok (.iload_n 2, 1) := by decide +kernel
theorem dX6_flow_108 : decode cX6_flow 108 = .ok (.iaload, 1) := by decide +kernel
theorem dX6_flow_109 : decode cX6_flow 109 = .ok (.isub, 1) := by decide +kernel
theorem dX6_flow_110 : decode cX6_flow 110 = .ok (.istore_n 3, 1) := by decide +kernel
theorem dX6_flow_111 : decode cX6_flow 111 = .ok (.iload_n 3, 1) := by decide +kernel
theorem dX6_flow_112 : decode cX6_flow 112 = .ok (.iconst 1, 1) := by decide +kernel
theorem dX6_flow_113 : decode cX6_flow 113 = .ok (.if_icmp .le 39, 3) := by decide +kernel
theorem dX6_flow_116 : decode cX6_flow 116 = .ok (.aload_n 0, 1) := by decide +kernel
theorem dX6_flow_117 : decode cX6_flow 117 = .ok (.getfield 13, 3) := by decide +kernel
theorem dX6_flow_120 : decode cX6_flow 120 = .ok (.iload_n 1, 1) := by decide +kernel
theorem dX6_flow_121 : decode cX6_flow 121 = .ok (.iaload, 1) := by decide +kernel
theorem dX6_flow_122 : decode cX6_flow 122 = .ok (.iload_n 3, 1) := by decide +kernel
theorem dX6_flow_123 : decode cX6_flow 123 = .ok (.iconst 2, 1) := by decide +kernel
theorem dX6_flow_124 : decode cX6_flow 124 = .ok (.idiv, 1) := by decide +kernel
theorem dX6_flow_125 : decode cX6_flow 125 = .ok (.invokestatic 98, 3) := by decide +kernel
theorem dX6_flow_128 : decode cX6_flow 128 = .ok (.istore 4, 2) := by decide +kernel
theorem dX6_flow_130 : decode cX6_flow 130 = .ok (.aload_n 0, 1) := by decide +kernel
theorem dX6_flow_131 : decode cX6_flow 131 = .ok (.getfield 13, 3) := by decide +kernel
theorem dX6_flow_134 : decode cX6_flow 134 = .ok (.iload_n 1, 1) := by decide +kernel
theorem dX6_flow_135 : decode cX6_flow 135 = .ok (.dup2, 1) := by decide +kernel
theorem dX6_flow_136 : decode cX6_flow 136 = .ok (.iaload, 1) := by decide +kernel
theorem dX6_flow_137 : decode cX6_flow 137 = .ok (.iload 4, 2) := by decide +kernel
theorem dX6_flow_139 : decode cX6_flow 139 = .ok (.isub, 1) := by decide +kernel
theorem dX6_flow_140 : decode cX6_flow 140 = .ok (.iastore, 1) := by decide +kernel
theorem dX6_flow_141 : decode cX6_flow 141 = .ok (.aload_n 0, 1) := by decide +kernel
theorem dX6_flow_142 : decode cX6_flow 142 = .ok (.getfield 13, 3) := by decide +kernel
theorem dX6_flow_145 : decode cX6_flow 145 = .ok (.iload_n 2, 1) := by decide +kernel
theorem dX6_flow_146 : decode cX6_flow 146 = .ok (.dup2, 1) := by decide +kernel
theorem dX6_flow_147 : decode cX6_flow 147 = .ok (.iaload, 1) := by decide +kernel
theorem dX6_flow_148 : decode cX6_flow 148 = .ok (.iload 4, 2) := by decide +kernel
theorem dX6_flow_150 : decode cX6_flow 150 = .ok (.iadd, 1) := by decide +kernel
theorem dX6_flow_151 : decode cX6_flow 151 = .ok (.iastore, 1) := by decide +kernel
theorem dX6_flow_152 : decode cX6_flow 152 = .ok (.return_, 1) := by decide +kernel
set_option maxRecDepth 20000 in
theorem ggX6_crack_X6_degreesOf : GoodIn wsX6_crack wsX6_degreesOf := goodIn_r _ [10, 11, 3, 5, 12, 13, 14, 15, 16, 17, 18, 19, 20, 21, 22, 23, 24, 25, 26, 27, 28, 29, 30, 31, 32, 33, 34, 35, 36, 37, 38, 39, 40, 41, 42, 43] (by decide +kernel) (by decide +kernel)
set_option maxRecDepth 20000 in
theorem gX6_crack_X6_degreesOf : GoodIn wsX6_crack (wsV RX6 138 RX6 yX6_degreesOf wsX6_degreesOf) := goodIn_app (goodIn_of _ (by decide +kernel)) ggX6_crack_X6_degreesOf
theorem dX6_crack_0 : decode cX6_crack 0 = .ok (.iconst 0, 1) := by decide +kernel
theorem dX6_crack_1 : decode cX6_crack 1 = .ok (.istore_n 1, 1) := by decide +kernel
theorem dX6_crack_2 : decode cX6_crack 2 = .ok (.iconst 1, 1) := by decide +kernel
theorem dX6_crack_3 : decode cX6_crack 3 = .ok (.istore_n 2, 1) := by decide +kernel
theorem dX6_crack_4 : decode cX6_crack 4 = .ok (.iload_n 2, 1) := by decide +kernel
theorem dX6_crack_5 : decode cX6_crack 5 = .ok (.bipush 25, 2) := by decide +kernel
theorem dX6_crack_7 : decode cX6_crack 7 = .ok (.if_icmp .ge 36, 3) := by decide +kernel
theorem dX6_crack_10 : decode cX6_crack 10 = .ok (.aload_n 0, 1) := by decide +kernel
theorem dX6_crack_11 : decode cX6_crack 11 = .ok (.iconst 5, 1) := by decide +kernel
theorem dX6_crack_12 : decode cX6_crack 12 = .ok (.iload_n 2, 1) := by decide +kernel
theorem dX6_crack_13 : decode cX6_crack 13 = .ok (.imul, 1) := by decide +kernel
theorem dX6_crack_14 : decode cX6_crack 14 = .ok (.iconst 1, 1) := by decide +kernel
theorem dX6_crack_15 : decode cX6_crack 15 = .ok (.iadd, 1) := by decide +kernel
theorem dX6_crack_16 : decode cX6_crack 16 = .ok (.invokevirtual 138, 3) := by decide +kernel
theorem dX6_crack_19 : decode cX6_crack 19 = .ok (.aload_n 0, 1) := by decide +kernel
theorem dX6_crack_20 : decode cX6_crack 20 = .ok (.iconst 5, 1) := by decide +kernel
theorem dX6_crack_21 : decode cX6_crack 21 = .ok (.iload_n 1, 1) := by decide +kernel
theorem dX6_crack_22 : decode cX6_crack 22 = .ok (.imul, 1) := by decide +kernel
theorem dX6_crack_23 : decode cX6_crack 23 = .ok (.iconst 1, 1) := by decide +kernel
theorem dX6_crack_24 : decode cX6_crack 24 = .ok (.iadd, 1) := by decide +kernel
theorem dX6_crack_25 : decode cX6_crack 25 = .ok (.invokevirtual 138, 3) := by decide +kernel
theorem dX6_crack_28 : decode cX6_crack 28 = .ok (.if_icmp .ge 7, 3) := by decide +kernel
theorem dX6_crack_31 : decode cX6_crack 31 = .ok (.iload_n 2, 1) := by decide +kernel
theorem dX6_crack_32 : decode cX6_crack 32 = .ok (.goto 4, 3) := by decide +kernel
theorem dX6_crack_35 : decode cX6_crack 35 = .ok (.iload_n 1, 1) := by decide +kernel
theorem dX6_crack_36 : decode cX6_crack 36 = .ok (.istore_n 1, 1) := by decide +kernel
theorem dX6_crack_37 : decode cX6_crack 37 = .ok (.iinc 2 1, 3) := by decide +kernel
theorem dX6_crack_40 : decode cX6_crack 40 = .ok (.goto (-36), 3) := by decide +kernel
theorem dX6_crack_43 : decode cX6_crack 43 = .ok (.iconst 5, 1) := by decide +kernel
theorem dX6_crack_44 : decode cX6_crack 44 = .ok (.iload_n 1, 1) := by decide +kernel
theorem dX6_crack_45 : decode cX6_crack 45 = .ok (.imul, 1) := by decide +kernel
theorem dX6_crack_46 : decode cX6_crack 46 = .ok (.iconst 1, 1) := by decide +kernel
theorem dX6_crack_47 : decode cX6_crack 47 = .ok (.iadd, 1) := by decide +kernel
theorem dX6_crack_48 : decode cX6_crack 48 = .ok (.istore_n 2, 1) := by decide +kernel
theorem dX6_crack_49 : decode cX6_crack 49 = .ok (.aload_n 0, 1) := by decide +kernel
theorem dX6_crack_50 : decode cX6_crack 50 = .ok (.iload_n 2, 1) := by decide +kernel
theorem dX6_crack_51 : decode cX6_crack 51 = .ok (.invokevirtual 138, 3) := by decide +kernel
theorem dX6_crack_54 : decode cX6_crack 54 = .ok (.bipush (-10), 2) := by decide +kernel
theorem dX6_crack_56 : decode cX6_crack 56 = .ok (.if_icmp .le 4, 3) := by decide +kernel
theorem dX6_crack_59 : decode cX6_crack 59 = .ok (.return_, 1) := by decide +kernel
theorem dX6_crack_60 : decode cX6_crack 60 = .ok (.aload_n 0, 1) := by decide +kernel
theorem dX6_crack_61 : decode cX6_crack 61 = .ok (.getfield 22, 3) := by decide +kernel
theorem dX6_crack_64 : decode cX6_crack 64 = .ok (.iload_n 1, 1) := by decide +kernel
theorem dX6_crack_65 : decode cX6_crack 65 = .ok (.dup2, 1) := by decide +kernel
theorem dX6_crack_66 : decode cX6_crack 66 = .ok (.iaload, 1) := by decide +kernel
theorem dX6_crack_67 : decode cX6_crack 67 = .ok (.iconst 1, 1) := by decide +kernel
theorem dX6_crack_68 : decode cX6_crack 68 = .ok (.iadd, 1) := by decide +kernel
theorem dX6_crack_69 : decode cX6_crack 69 = .ok (.iastore, 1) := by decide +kernel
theorem dX6_crack_70 : decode cX6_crack 70 = .ok (.aload_n 0, 1) := by decide +kernel
theorem dX6_crack_71 : decode cX6_crack 71 = .ok (.getfield 13, 3) := by decide +kernel
theorem dX6_crack_74 : decode cX6_crack 74 = .ok (.iload_n 1, 1) := by decide +kernel
theorem dX6_crack_75 : decode cX6_crack 75 = .ok (.iaload, 1) := by decide +kernel
theorem dX6_crack_76 : decode cX6_crack 76 = .ok (.ifCond .le 56, 3) := by decide +kernel
theorem dX6_crack_79 : decode cX6_crack 79 = .ok (.aload_n 0, 1) := by decide +kernel
theorem dX6_crack_80 : decode cX6_crack 80 = .ok (.getfield 31, 3) := by decide +kernel
theorem dX6_crack_83 : decode cX6_crack 83 = .ok (.iload_n 2, 1) := by decide +kernel
theorem dX6_crack_84 : decode cX6_crack 84 = .ok (.iaload, 1) := by decide +kernel
theorem dX6_crack_85 : decode cX6_crack 85 = .ok (.bipush 9, 2) := by decide +kernel
theorem dX6_crack_87 : decode cX6_crack 87 = .ok (.if_icmp .ge 45, 3) := by decide +kernel
theorem dX6_crack_90 : decode cX6_crack 90 = .ok (.aload_n 0, 1) := by decide +kernel
theorem dX6_crack_91 : decode cX6_crack 91 = .ok (.getfield 13, 3) := by decide +kernel
theorem dX6_crack_94 : decode cX6_crack 94 = .ok (.iload_n 1, 1) := by decide +kernel
theorem dX6_crack_95 : decode cX6_crack 95 = .ok (.dup2, 1) := by decide +kernel
theorem dX6_crack_96 : decode cX6_crack 96 = .ok (.iaload, 1) := by decide +kernel
theorem dX6_crack_97 : decode cX6_crack 97 = .ok (.iconst 1, 1) := by decide +kernel
theorem dX6_crack_98 : decode cX6_crack 98 = .ok (.isub, 1) := by decide +kernel
theorem dX6_crack_99 : decode cX6_crack 99 = .ok (.iastore, 1) := by decide +kernel
theorem dX6_crack_100 : decode cX6_crack 100 = .ok (.aload_n 0, 1) := by decide +kernel
theorem dX6_crack_101 : decode cX6_crack 101 = .ok (.getfield 31, 3) := by decide +kernel
theorem dX6_crack_104 : decode cX6_crack 104 = .ok (.iload_n 2, 1) := by decide +kernel
theorem dX6_crack_105 : decode cX6_crack 105 = .ok (.dup2, 1) := by decide +kernel
theorem dX6_crack_106 : decode cX6_crack 106 = .ok (.iaload, 1) := by decide +kernel
theorem dX6_crack_107 : decode cX6_crack 107 = .ok (.iconst 1, 1) := by decide +kernel
theorem dX6_crack_108 : decode cX6_crack 108 = .ok (.iadd, 1) := by decide +kernel
theorem dX6_crack_109 : decode cX6_crack 109 = .ok (.iastore, 1) := by decide +kernel
theorem dX6_crack_110 : decode cX6_crack 110 = .ok (.aload_n 0, 1) := by decide +kernel
theorem dX6_crack_111 : decode cX6_crack 111 = .ok (.getfield 7, 3) := by decide +kernel
theorem dX6_crack_114 : decode cX6_crack 114 = .ok (.iload_n 1, 1) := by decide +kernel
theorem dX6_crack_115 : decode cX6_crack 115 = .ok (.dup2, 1) := by decide +kernel
theorem dX6_crack_116 : decode cX6_crack 116 = .ok (.iaload, 1) := by decide +kernel
theorem dX6_crack_117 : decode cX6_crack 117 = .ok (.iconst 1, 1) := by decide +kernel
theorem dX6_crack_118 : decode cX6_crack 118 = .ok (.iadd, 1) := by decide +kernel
theorem dX6_crack_119 : decode cX6_crack 119 = .ok (.iastore, 1) := by decide +kernel
theorem dX6_crack_120 : decode cX6_crack 120 = .ok (.aload_n 0, 1) := by decide +kernel
theorem dX6_crack_121 : decode cX6_crack 121 = .ok (.getfield 34, 3) := by decide +kernel
theorem dX6_crack_124 : decode cX6_crack 124 = .ok (.iload_n 2, 1) := by decide +kernel
theorem dX6_crack_125 : decode cX6_crack 125 = .ok (.dup2, 1) := by decide +kernel
theorem dX6_crack_126 : decode cX6_crack 126 = .ok (.iaload, 1) := by decide +kernel
theorem dX6_crack_127 : decode cX6_crack 127 = .ok (.sipush 1000, 3) := by decide +kernel
theorem dX6_crack_130 : decode cX6_crack 130 = .ok (.iadd, 1) := by decide +kernel
theorem dX6_crack_131 : decode cX6_crack 131 = .ok (.iastore, 1) := by decide +kernel
theorem dX6_crack_132 : decode cX6_crack 132 = .ok (.return_, 1) := by decide +kernel
set_option maxRecDepth 20000 in
theorem ggX6_wake_X6_degreesOf : GoodIn wsX6_wake wsX6_degreesOf := goodIn_r _ [10, 11, 12, 13, 22, 23, 24, 25, 26, 27, 28, 29, 30, 31, 32, 33, 34, 35, 36, 37, 38, 39, 40, 41, 42, 43, 44, 45, 46, 47, 48, 49, 50, 51, 52, 53] (by decide +kernel) (by decide +kernel)
set_option maxRecDepth 20000 in
theorem gX6_wake_X6_degreesOf : GoodIn wsX6_wake (wsV RX6 138 RX6 yX6_degreesOf wsX6_degreesOf) := goodIn_app (goodIn_of _ (by decide +kernel)) ggX6_wake_X6_degreesOf
set_option maxRecDepth 20000 in
theorem ggX6_wake_X6_lesser : GoodIn wsX6_wake wsX6_lesser := goodIn_r _ [16] (by decide +kernel) (by decide +kernel)
set_option maxRecDepth 20000 in
theorem gX6_wake_X6_lesser : GoodIn wsX6_wake (va_wsS RX6 98 yX6_lesser wsX6_lesser) := goodIn_app (goodIn_of _ (by decide +kernel)) ggX6_wake_X6_lesser
set_option maxRecDepth 20000 in
theorem ggX6_wake_X6_isLake : GoodIn wsX6_wake wsX6_isLake := goodIn_r _ [20, 21, 22, 23, 24, 25, 26, 27, 28, 29, 30, 31, 32, 33, 34, 35, 36, 37, 38, 39, 40, 41, 42, 43, 44, 45, 46, 47, 48, 49, 50, 51, 52, 53] (by decide +kernel) (by decide +kernel)
set_option maxRecDepth 20000 in
theorem gX6_wake_X6_isLake : GoodIn wsX6_wake (wsV RX6 142 RX6 yX6_isLake wsX6_isLake) := goodIn_app (goodIn_of _ (by decide +kernel)) ggX6_wake_X6_isLake
theorem dX6_wake_0 : decode cX6_wake 0 = .ok (.iconst 5, 1) := by decide +kernel
theorem dX6_wake_1 : decode cX6_wake 1 = .ok (.iload_n 1, 1) := by decide +kernel
theorem dX6_wake_2 : decode cX6_wake 2 = .ok (.imul, 1) := by decide +kernel
theorem dX6_wake_3 : decode cX6_wake 3 = .ok (.istore_n 3, 1) := by decide +kernel
theorem dX6_wake_4 : decode cX6_wake 4 = .ok (.iload_n 3, 1) := by decide +kernel
theorem dX6_wake_5 : decode cX6_wake 5 = .ok (.iconst 5, 1) := by decide +kernel
theorem dX6_wake_6 : decode cX6_wake 6 = .ok (.iload_n 1, 1) := by decide +kernel
theorem dX6_wake_7 : decode cX6_wake 7 = .ok (.imul, 1) := by decide +kernel
theorem dX6_wake_8 : decode cX6_wake 8 = .ok (.iconst 5, 1) := by decide +kernel
theorem dX6_wake_9 : decode cX6_wake 9 = .ok (.iadd, 1) := by decide +kernel
theorem dX6_wake_10 : decode cX6_wake 10 = .ok (.if_icmp .ge 111, 3) := by decide +kernel
theorem dX6_wake_13 : decode cX6_wake 13 = .ok (.aload_n 0, 1) := by decide +kernel
theorem dX6_wake_14 : decode cX6_wake 14 = .ok (.iload_n 3, 1) := by decide +kernel
theorem dX6_wake_15 : decode cX6_wake 15 = .ok (.invokevirtual 138, 3) := by decide +kernel
theorem dX6_wake_18 : decode cX6_wake 18 = .ok (.istore 4, 2) := by decide +kernel
theorem dX6_wake_20 : decode cX6_wake 20 = .ok (.iload 4, 2) := by decide +kernel
theorem dX6_wake_22 : decode cX6_wake 22 = .ok (.ifCond .le 93, 3) := by decide +kernel
theorem dX6_wake_25 : decode cX6_wake 25 = .ok (.iload 4, 2) := by decide +kernel
theorem dX6_wake_27 : decode cX6_wake 27 = .ok (.i2l, 1) := by decide +kernel
theorem dX6_wake_28 : decode cX6_wake 28 = .ok (.aload_n 0, 1) := by decide +kernel
theorem dX6_wake_29 : decode cX6_wake 29 = .ok (.getfield 37, 3) := by decide +kernel
theorem dX6_wake_32 : decode cX6_wake 32 = .ok (.iload_n 3, 1) := by decide +kernel
theorem dX6_wake_33 : decode cX6_wake 33 = .ok (.iaload, 1) := by decide +kernel
theorem dX6_wake_34 : decode cX6_wake 34 = .ok (.i2l, 1) := by decide +kernel
theorem dX6_wake_35 : decode cX6_wake 35 = .ok (.lmul, 1) := by decide +kernel
theorem dX6_wake_36 : decode cX6_wake 36 = .ok (.ldc2_w 157, 3) := by decide +kernel
theorem dX6_wake_39 : decode cX6_wake 39 = .ok (.ldiv, 1) := by decide +kernel
theorem dX6_wake_40 : decode cX6_wake 40 = .ok (.l2i, 1) := by decide +kernel
theorem dX6_wake_41 : decode cX6_wake 41 = .ok (.istore 5, 2) := by decide +kernel
theorem dX6_wake_43 : decode cX6_wake 43 = .ok (.iload 5, 2) := by decide +kernel
theorem dX6_wake_45 : decode cX6_wake 45 = .ok (.aload_n 0, 1) := by decide +kernel
theorem dX6_wake_46 : decode cX6_wake 46 = .ok (.getfield 37, 3) := by decide +kernel
theorem dX6_wake_49 : decode cX6_wake 49 = .ok (.iload_n 3, 1) := by decide +kernel
theorem dX6_wake_50 : decode cX6_wake 50 = .ok (.iaload, 1) := by decide +kernel
theorem dX6_wake_51 : decode cX6_wake 51 = .ok (.invokestatic 98, 3) := by decide +kernel
theorem dX6_wake_54 : decode cX6_wake 54 = .ok (.istore 5, 2) := by decide +kernel
theorem dX6_wake_56 : decode cX6_wake 56 = .ok (.aload_n 0, 1) := by decide +kernel
theorem dX6_wake_57 : decode cX6_wake 57 = .ok (.getfield 37, 3) := by decide +kernel
theorem dX6_wake_60 : decode cX6_wake 60 = .ok (.iload_n 3, 1) := by decide +kernel
theorem dX6_wake_61 : decode cX6_wake 61 = .ok (.dup2, 1) := by decide +kernel
theorem dX6_wake_62 : decode cX6_wake 62 = .ok (.iaload, 1) := by decide +kernel
theorem dX6_wake_63 : decode cX6_wake 63 = .ok (.iload 5, 2) := by decide +kernel
theorem dX6_wake_65 : decode cX6_wake 65 = .ok (.isub, 1) := by decide +kernel
theorem dX6_wake_66 : decode cX6_wake 66 = .ok (.iastore, 1) := by decide +kernel
theorem dX6_wake_67 : decode cX6_wake 67 = .ok (.aload_n 0, 1) := by decide +kernel
theorem dX6_wake_68 : decode cX6_wake 68 = .ok (.dup, 1) := by decide +kernel
theorem dX6_wake_69 : decode cX6_wake 69 = .ok (.getfield 159, 3) := by decide +kernel
theorem dX6_wake_72 : decode cX6_wake 72 = .ok (.aload_n 0, 1) := by decide +kernel
theorem dX6_wake_73 : decode cX6_wake 73 = .ok (.iload_n 1, 1) := by decide +kernel
theorem dX6_wake_74 : decode cX6_wake 74 = .ok (.invokevirtual 142, 3) := by decide +kernel
theorem dX6_wake_77 : decode cX6_wake 77 = .ok (.ifCond .eq 9, 3) := by decide +kernel
theorem dX6_wake_80 : decode cX6_wake 80 = .ok (.iload 5, 2) := by decide +kernel
theorem dX6_wake_82 : decode cX6_wake 82 = .ok (.i2l, 1) := by decide +kernel
theorem dX6_wake_83 : decode cX6_wake 83 = .ok (.goto 4, 3) := by decide +kernel
theorem dX6_wake_86 : decode cX6_wake 86 = .ok (.lconst 0, 1) := by decide +kernel
theorem dX6_wake_87 : decode cX6_wake 87 = .ok (.ladd, 1) := by decide +kernel
theorem dX6_wake_88 : decode cX6_wake 88 = .ok (.putfield 159, 3) := by decide +kernel
theorem dX6_wake_91 : decode cX6_wake 91 = .ok (.aload_n 0, 1) := by decide +kernel
theorem dX6_wake_92 : decode cX6_wake 92 = .ok (.dup, 1) := by decide +kernel
theorem dX6_wake_93 : decode cX6_wake 93 = .ok (.getfield 162, 3) := by decide +kernel
theorem dX6_wake_96 : decode cX6_wake 96 = .ok (.aload_n 0, 1) := by decide +kernel
theorem dX6_wake_97 : decode cX6_wake 97 = .ok (.iload_n 1, 1) := by decide +kernel
theorem dX6_wake_98 : decode cX6_wake 98 = .ok (.invokevirtual 142, 3) := by decide +kernel
theorem dX6_wake_101 : decode cX6_wake 101 = .ok (.ifCond .eq 7, 3) := by decide +kernel
theorem dX6_wake_104 : decode cX6_wake 104 = .ok (.lconst 0, 1) := by decide +kernel
theorem dX6_wake_105 : decode cX6_wake 105 = .ok (.goto 6, 3) := by decide +kernel
theorem dX6_wake_108 : decode cX6_wake 108 = .ok (.iload 5, 2) := by decide +kernel
theorem dX6_wake_110 : decode cX6_wake 110 = .ok (.i2l, 1) := by decide +kernel
theorem dX6_wake_111 : decode cX6_wake 111 = .ok (.ladd, 1) := by decide +kernel
theorem dX6_wake_112 : decode cX6_wake 112 = .ok (.putfield 162, 3) := by decide +kernel
theorem dX6_wake_115 : decode cX6_wake 115 = .ok (.iinc 3 1, 3) := by decide +kernel
theorem dX6_wake_118 : decode cX6_wake 118 = .ok (.goto (-114), 3) := by decide +kernel
theorem dX6_wake_121 : decode cX6_wake 121 = .ok (.iload_n 2, 1) := by decide +kernel
theorem dX6_wake_122 : decode cX6_wake 122 = .ok (.ifCond .le 44, 3) := by decide +kernel
theorem dX6_wake_125 : decode cX6_wake 125 = .ok (.aload_n 0, 1) := by decide +kernel
theorem dX6_wake_126 : decode cX6_wake 126 = .ok (.iload_n 1, 1) := by decide +kernel
theorem dX6_wake_127 : decode cX6_wake 127 = .ok (.invokevirtual 142, 3) := by decide +kernel
theorem dX6_wake_130 : decode cX6_wake 130 = .ok (.ifCond .ne 36, 3) := by decide +kernel
theorem dX6_wake_133 : decode cX6_wake 133 = .ok (.aload_n 0, 1) := by decide +kernel
theorem dX6_wake_134 : decode cX6_wake 134 = .ok (.dup, 1) := by decide +kernel
theorem dX6_wake_135 : decode cX6_wake 135 = .ok (.getfield 162, 3) := by decide +kernel
theorem dX6_wake_138 : decode cX6_wake 138 = .ok (.aload_n 0, 1) := by decide +kernel
theorem dX6_wake_139 : decode cX6_wake 139 = .ok (.getfield 19, 3) := by decide +kernel
theorem dX6_wake_142 : decode cX6_wake 142 = .ok (.iload_n 1, 1) := by decide +kernel
theorem dX6_wake_143 : decode cX6_wake 143 = .ok (.iaload, 1) := by decide +kernel
theorem dX6_wake_144 : decode cX6_wake 144 = .ok (.i2l, 1) := by decide +kernel
theorem dX6_wake_145 : decode cX6_wake 145 = .ok (.lsub, 1) := by decide +kernel
theorem dX6_wake_146 : decode cX6_wake 146 = .ok (.putfield 162, 3) := by decide +kernel
theorem dX6_wake_149 : decode cX6_wake 149 = .ok (.aload_n 0, 1) := by decide +kernel
theorem dX6_wake_150 : decode cX6_wake 150 = .ok (.getfield 37, 3) := by decide +kernel
theorem dX6_wake_153 : decode cX6_wake 153 = .ok (.iconst 5, 1) := by decide +kernel
theorem dX6_wake_154 : decode cX6_wake 154 = .ok (.iload_n 1, 1) := by decide +kernel
theorem dX6_wake_155 : decode cX6_wake 155 = .ok (.imul, 1) := by decide +kernel
theorem dX6_wake_156 : decode cX6_wake 156 = .ok (.dup2, 1) := by decide +kernel
theorem dX6_wake_157 : decode cX6_wake 157 = .ok (.iaload, 1) := by decide +kernel
theorem dX6_wake_158 : decode cX6_wake 158 = .ok (.aload_n 0, 1) := by decide +kernel
theorem dX6_wake_159 : decode cX6_wake 159 = .ok (.getfield 19, 3) := by decide +kernel
theorem dX6_wake_162 : decode cX6_wake 162 = .ok (.iload_n 1, 1) := by decide +kernel
theorem dX6_wake_163 : decode cX6_wake 163 = .ok (.iaload, 1) := by decide +kernel
theorem dX6_wake_164 : decode cX6_wake 164 = .ok (.iadd, 1) := by decide +kernel
theorem dX6_wake_165 : decode cX6_wake 165 = .ok (.iastore, 1) := by decide +kernel
theorem dX6_wake_166 : decode cX6_wake 166 = .ok (.return_, 1) := by decide +kernel
set_option maxRecDepth 20000 in
theorem ggX6_fire_X6_isCell : GoodIn wsX6_fire wsX6_isCell := goodIn_r _ [8, 9, 10, 7, 11] (by decide +kernel) (by decide +kernel)
set_option maxRecDepth 20000 in
theorem gX6_fire_X6_isCell : GoodIn wsX6_fire (va_wsS RX6 102 yX6_isCell wsX6_isCell) := goodIn_app (goodIn_of _ (by decide +kernel)) ggX6_fire_X6_isCell
set_option maxRecDepth 20000 in
theorem ggX6_fire_X6_isLake : GoodIn wsX6_fire wsX6_isLake := goodIn_r _ [15, 16, 22, 23, 24, 25, 26, 27, 28, 29, 30, 31, 32, 33, 34, 35, 36, 37, 38, 39, 40, 41, 42, 43, 44, 45, 46, 47, 48, 49, 50, 51, 52, 53] (by decide +kernel) (by decide +kernel)
set_option maxRecDepth 20000 in
theorem gX6_fire_X6_isLake : GoodIn wsX6_fire (wsV RX6 142 RX6 yX6_isLake wsX6_isLake) := goodIn_app (goodIn_of _ (by decide +kernel)) ggX6_fire_X6_isLake
set_option maxRecDepth 20000 in
theorem ggX6_fire_X6_refused : GoodIn wsX6_fire wsX6_refused := goodIn_r _ [20, 21, 22, 23, 24, 25, 26, 27, 28, 29, 30, 31, 32, 33, 34, 35, 36, 37, 38, 39, 40, 41, 42, 43, 44, 45, 46, 47, 48, 49, 50, 51, 52, 53] (by decide +kernel) (by decide +kernel)
set_option maxRecDepth 20000 in
theorem gX6_fire_X6_refused : GoodIn wsX6_fire (wsV RX6 106 RX6 yX6_refused wsX6_refused) := goodIn_app (goodIn_of _ (by decide +kernel)) ggX6_fire_X6_refused
theorem dX6_fire_0 : decode cX6_fire 0 = .ok (.iload_n 1, 1) := by decide +kernel
theorem dX6_fire_1 : decode cX6_fire 1 = .ok (.invokestatic 102, 3) := by decide +kernel
theorem dX6_fire_4 : decode cX6_fire 4 = .ok (.istore_n 2, 1) := by decide +kernel
theorem dX6_fire_5 : decode cX6_fire 5 = .ok (.aload_n 0, 1) := by decide +kernel
theorem dX6_fire_6 : decode cX6_fire 6 = .ok (.iload_n 2, 1) := by decide +kernel
theorem dX6_fire_7 : decode cX6_fire 7 = .ok (.ifCond .ne 7, 3) := by decide +kernel
theorem dX6_fire_10 : decode cX6_fire 10 = .ok (.iconst 1, 1) := by decide +kernel
theorem dX6_fire_11 : decode cX6_fire 11 = .ok (.goto 25, 3) := by decide +kernel
theorem dX6_fire_14 : decode cX6_fire 14 = .ok (.aload_n 0, 1) := by decide +kernel
theorem dX6_fire_15 : decode cX6_fire 15 = .ok (.iload_n 1, 1) := by decide +kernel
theorem dX6_fire_16 : decode cX6_fire 16 = .ok (.invokevirtual 142, 3) := by decide +kernel
theorem dX6_fire_19 : decode cX6_fire 19 = .ok (.ifCond .ne 12, 3) := by decide +kernel
theorem dX6_fire_22 : decode cX6_fire 22 = .ok (.aload_n 0, 1) := by decide +kernel
theorem dX6_fire_23 : decode cX6_fire 23 = .ok (.getfield 16, 3) := by decide +kernel
theorem dX6_fire_26 : decode cX6_fire 26 = .ok (.iload_n 1, 1) := by decide +kernel
theorem dX6_fire_27 : decode cX6_fire 27 = .ok (.iaload, 1) := by decide +kernel
theorem dX6_fire_28 : decode cX6_fire 28 = .ok (.ifCond .le 7, 3) := by decide +kernel
theorem dX6_fire_31 : decode cX6_fire 31 = .ok (.iconst 2, 1) := by decide +kernel
theorem dX6_fire_32 : decode cX6_fire 32 = .ok (.goto 4, 3) := by decide +kernel
theorem dX6_fire_35 : decode cX6_fire 35 = .ok (.iconst 0, 1) := by decide +kernel
theorem dX6_fire_36 : decode cX6_fire 36 = .ok (.invokevirtual 106, 3) := by decide +kernel
theorem dX6_fire_39 : decode cX6_fire 39 = .ok (.ifCond .eq 5, 3) := by decide +kernel
theorem dX6_fire_42 : decode cX6_fire 42 = .ok (.iconst 0, 1) := by decide +kernel
theorem dX6_fire_43 : decode cX6_fire 43 = .ok (.ireturn, 1) := by decide +kernel
theorem dX6_fire_44 : decode cX6_fire 44 = .ok (.aload_n 0, 1) := by decide +kernel
theorem dX6_fire_45 : decode cX6_fire 45 = .ok (.getfield 37, 3) := by decide +kernel
theorem dX6_fire_48 : decode cX6_fire 48 = .ok (.iconst 5, 1) := by decide +kernel
theorem dX6_fire_49 : decode cX6_fire 49 = .ok (.iload_n 1, 1) := by decide +kernel
theorem dX6_fire_50 : decode cX6_fire 50 = .ok (.imul, 1) := by decide +kernel
theorem dX6_fire_51 : decode cX6_fire 51 = .ok (.iaload, 1) := by decide +kernel
theorem dX6_fire_52 : decode cX6_fire 52 = .ok (.iconst 2, 1) := by decide +kernel
theorem dX6_fire_53 : decode cX6_fire 53 = .ok (.idiv, 1) := by decide +kernel
theorem dX6_fire_54 : decode cX6_fire 54 = .ok (.istore_n 3, 1) := by decide +kernel
theorem dX6_fire_55 : decode cX6_fire 55 = .ok (.aload_n 0, 1) := by decide +kernel
theorem dX6_fire_56 : decode cX6_fire 56 = .ok (.getfield 19, 3) := by decide +kernel
theorem dX6_fire_59 : decode cX6_fire 59 = .ok (.iload_n 1, 1) := by decide +kernel
theorem dX6_fire_60 : decode cX6_fire 60 = .ok (.iconst 0, 1) := by decide +kernel
theorem dX6_fire_61 : decode cX6_fire 61 = .ok (.iastore, 1) := by decide +kernel
theorem dX6_fire_62 : decode cX6_fire 62 = .ok (.aload_n 0, 1) := by decide +kernel
theorem dX6_fire_63 : decode cX6_fire 63 = .ok (.getfield 37, 3) := by decide +kernel
theorem dX6_fire_66 : decode cX6_fire 66 = .ok (.iconst 5, 1) := by decide +kernel
theorem dX6_fire_67 : decode cX6_fire 67 = .ok (.iload_n 1, 1) := by decide +kernel
theorem dX6_fire_68 : decode cX6_fire 68 = .ok (.imul, 1) := by decide +kernel
theorem dX6_fire_69 : decode cX6_fire 69 = .ok (.dup2, 1) := by decide +kernel
theorem dX6_fire_70 : decode cX6_fire 70 = .ok (.iaload, 1) := by decide +kernel
theorem dX6_fire_71 : decode cX6_fire 71 = .ok (.iload_n 3, 1) := by decide +kernel
theorem dX6_fire_72 : decode cX6_fire 72 = .ok (.isub, 1) := by decide +kernel
theorem dX6_fire_73 : decode cX6_fire 73 = .ok (.iastore, 1) := by decide +kernel
theorem dX6_fire_74 : decode cX6_fire 74 = .ok (.aload_n 0, 1) := by decide +kernel
theorem dX6_fire_75 : decode cX6_fire 75 = .ok (.dup, 1) := by decide +kernel
theorem dX6_fire_76 : decode cX6_fire 76 = .ok (.getfield 162, 3) := by decide +kernel
theorem dX6_fire_79 : decode cX6_fire 79 = .ok (.iload_n 3, 1) := by decide +kernel
theorem dX6_fire_80 : decode cX6_fire 80 = .ok (.i2l, 1) := by decide +kernel
theorem dX6_fire_81 : decode cX6_fire 81 = .ok (.ladd, 1) := by decide +kernel
theorem dX6_fire_82 : decode cX6_fire 82 = .ok (.putfield 162, 3) := by decide +kernel
theorem dX6_fire_85 : decode cX6_fire 85 = .ok (.iload_n 3, 1) := by decide +kernel
theorem dX6_fire_86 : decode cX6_fire 86 = .ok (.ireturn, 1) := by decide +kernel
set_option maxRecDepth 20000 in
theorem ggX6_gather_X6_beside : GoodIn wsX6_gather wsX6_beside := goodIn_r _ [6] (by decide +kernel) (by decide +kernel)
set_option maxRecDepth 20000 in
theorem gX6_gather_X6_beside : GoodIn wsX6_gather (va_wsS RX6 154 yX6_beside wsX6_beside) := goodIn_app (goodIn_of _ (by decide +kernel)) ggX6_gather_X6_beside
theorem dX6_gather_0 : decode cX6_gather 0 = .ok (.iconst 0, 1) := by decide +kernel
theorem dX6_gather_1 : decode cX6_gather 1 = .ok (.istore_n 1, 1) := by decide +kernel
theorem dX6_gather_2 : decode cX6_gather 2 = .ok (.iload_n 1, 1) := by decide +kernel
theorem dX6_gather_3 : decode cX6_gather 3 = .ok (.bipush 25, 2) := by decide +kernel
theorem dX6_gather_5 : decode cX6_gather 5 = .ok (.if_icmp .ge 29, 3) := by decide +kernel
theorem dX6_gather_8 : decode cX6_gather 8 = .ok (.aload_n 0, 1) := by decide +kernel
theorem dX6_gather_9 : decode cX6_gather 9 = .ok (.getfield 25, 3) := by decide +kernel
theorem dX6_gather_12 : decode cX6_gather 12 = .ok (.iload_n 1, 1) := by decide +kernel
theorem dX6_gather_13 : decode cX6_gather 13 = .ok (.aload_n 0, 1) := by decide +kernel
theorem dX6_gather_14 : decode cX6_gather 14 = .ok (.getfield 13, 3) := by decide +kernel
theorem dX6_gather_17 : decode cX6_gather 17 = .ok (.iload_n 1, 1) := by decide +kernel
theorem dX6_gather_18 : decode cX6_gather 18 = .ok (.iaload, 1) := by decide +kernel
theorem dX6_gather_19 : decode cX6_gather 19 = .ok (.ifCond .le 7, 3) := by decide +kernel
theorem dX6_gather_22 : decode cX6_gather 22 = .ok (.iload_n 1, 1) := by decide +kernel
theorem dX6_gather_23 : decode cX6_gather 23 = .ok (.goto 4, 3) := by decide +kernel
theorem dX6_gather_26 : decode cX6_gather 26 = .ok (.iconst (-1), 1) := by decide +kernel
theorem dX6_gather_27 : decode cX6_gather 27 = .ok (.iastore, 1) := by decide +kernel
theorem dX6_gather_28 : decode cX6_gather 28 = .ok (.iinc 1 1, 3) := by decide +kernel
theorem dX6_gather_31 : decode cX6_gather 31 = .ok (.goto (-29), 3) := by decide +kernel
theorem dX6_gather_34 : decode cX6_gather 34 = .ok (.iconst 1, 1) := by decide +kernel
theorem dX6_gather_35 : decode cX6_gather 35 = .ok (.istore_n 1, 1) := by decide +kernel
theorem dX6_gather_36 : decode cX6_gather 36 = .ok (.iload_n 1, 1) := by decide +kernel
theorem dX6_gather_37 : decode cX6_gather 37 = .ok (.ifCond .eq 93, 3) := by decide +kernel
theorem dX6_gather_40 : decode cX6_gather 40 = .ok (.iconst 0, 1) := by decide +kernel
theorem dX6_gather_41 : decode cX6_gather 41 = .ok (.istore_n 1, 1) := by decide +kernel
theorem dX6_gather_42 : decode cX6_gather 42 = .ok (.iconst 0, 1) := by decide +kernel
theorem dX6_gather_43 : decode cX6_gather 43 = .ok (.istore_n 2, 1) := by decide +kernel
theorem dX6_gather_44 : decode cX6_gather 44 = .ok (.iload_n 2, 1) := by decide +kernel
theorem dX6_gather_45 : decode cX6_gather 45 = .ok (.bipush 100, 2) := by decide +kernel
theorem dX6_gather_47 : decode cX6_gather 47 = .ok (.if_icmp .ge 80, 3) := by decide +kernel
theorem dX6_gather_50 : decode cX6_gather 50 = .ok (.iload_n 2, 1) := by decide +kernel
theorem dX6_gather_51 : decode cX6_gather 51 = .ok (.iconst 4, 1) := by decide +kernel
theorem dX6_gather_52 : decode cX6_gather 52 = .ok (.idiv, 1) := by decide +kernel
theorem dX6_gather_53 : decode cX6_gather 53 = .ok (.istore_n 3, 1) := by decide +kernel
theorem dX6_gather_54 : decode cX6_gather 54 = .ok (.iload_n 3, 1) := by decide +kernel
theorem dX6_gather_55 : decode cX6_gather 55 = .ok (.iload_n 2, 1) := by decide +kernel
theorem dX6_gather_56 : decode cX6_gather 56 = .ok (.iconst 4, 1) := by decide +kernel
theorem dX6_gather_57 : decode cX6_gather 57 = .ok (.irem, 1) := by decide +kernel
theorem dX6_gather_58 : decode cX6_gather 58 = .ok (.invokestatic 154, 3) := by decide +kernel
theorem dX6_gather_61 : decode cX6_gather 61 = .ok (.istore 4, 2) := by decide +kernel
theorem dX6_gather_63 : decode cX6_gather 63 = .ok (.iload 4, 2) := by decide +kernel
theorem dX6_gather_65 : decode cX6_gather 65 = .ok (.iconst (-1), 1) := by decide +kernel
theorem dX6_gather_66 : decode cX6_gather 66 = .ok (.if_icmp .eq 55, 3) := by decide +kernel
theorem dX6_gather_69 : decode cX6_gather 69 = .ok (.aload_n 0, 1) := by decide +kernel
theorem dX6_gather_70 : decode cX6_gather 70 = .ok (.getfield 25, 3) := by decide +kernel
theorem dX6_gather_73 : decode cX6_gather 73 = .ok (.iload_n 3, 1) := by decide +kernel
theorem dX6_gather_74 : decode cX6_gather 74 = .ok (.iaload, 1) := by decide +kernel
theorem dX6_gather_75 : decode cX6_gather 75 = .ok (.iconst (-1), 1) := by decide +kernel
theorem dX6_gather_76 : decode cX6_gather 76 = .ok (.if_icmp .eq 45, 3) := by decide +kernel
theorem dX6_gather_79 : decode cX6_gather 79 = .ok (.aload_n 0, 1) := by decide +kernel
theorem dX6_gather_80 : decode cX6_gather 80 = .ok (.getfield 25, 3) := by decide +kernel
theorem dX6_gather_83 : decode cX6_gather 83 = .ok (.iload 4, 2) := by decide +kernel
theorem dX6_gather_85 : decode cX6_gather 85 = .ok (.iaload, 1) := by decide +kernel
theorem dX6_gather_86 : decode cX6_gather 86 = .ok (.iconst (-1), 1) := by decide +kernel
theorem dX6_gather_87 : decode cX6_gather 87 = .ok (.if_icmp .eq 34, 3) := by decide +kernel
theorem dX6_gather_90 : decode cX6_gather 90 = .ok (.aload_n 0, 1) := by decide +kernel
theorem dX6_gather_91 : decode cX6_gather 91 = .ok (.getfield 25, 3) := by decide +kernel
theorem dX6_gather_94 : decode cX6_gather 94 = .ok (.iload 4, 2) := by decide +kernel
theorem dX6_gather_96 : decode cX6_gather 96 = .ok (.iaload, 1) := by decide +kernel
theorem dX6_gather_97 : decode cX6_gather 97 = .ok (.aload_n 0, 1) := by decide +kernel
theorem dX6_gather_98 : decode cX6_gather 98 = .ok (.getfield 25, 3) := by decide +kernel
theorem dX6_gather_101 : decode cX6_gather 101 = .ok (.iload_n 3, 1) := by decide +kernel
theorem dX6_gather_102 : decode cX6_gather 102 = .ok (.iaload, 1) := by decide +kernel
theorem dX6_gather_103 : decode cX6_gather 103 = .ok (.if_icmp .ge 18, 3) := by decide +kernel
theorem dX6_gather_106 : decode cX6_gather 106 = .ok (.aload_n 0, 1) := by decide +kernel
theorem dX6_gather_107 : decode cX6_gather 107 = .ok (.getfield 25, 3) := by decide +kernel
theorem dX6_gather_110 : decode cX6_gather 110 = .ok (.iload_n 3, 1) := by decide +kernel
theorem dX6_gather_111 : decode cX6_gather 111 = .ok (.aload_n 0, 1) := by decide +kernel
theorem dX6_gather_112 : decode cX6_gather 112 = .ok (.getfield 25, 3) := by decide +kernel
theorem dX6_gather_115 : decode cX6_gather 115 = .ok (.iload 4, 2) := by decide +kernel
theorem dX6_gather_117 : decode cX6_gather 117 = .ok (.iaload, 1) := by decide +kernel
theorem dX6_gather_118 : decode cX6_gather 118 = .ok (.iastore, 1) := by decide +kernel
theorem dX6_gather_119 : decode cX6_gather 119 = .ok (.iconst 1, 1) := by decide +kernel
theorem dX6_gather_120 : decode cX6_gather 120 = .ok (.istore_n 1, 1) := by decide +kernel
theorem dX6_gather_121 : decode cX6_gather 121 = .ok (.iinc 2 1, 3) := by decide +kernel
theorem dX6_gather_124 : decode cX6_gather 124 = .ok (.goto (-80), 3) := by decide +kernel
theorem dX6_gather_127 : decode cX6_gather 127 = .ok (.goto (-91), 3) := by decide +kernel
theorem dX6_gather_130 : decode cX6_gather 130 = .ok (.return_, 1) := by decide +kernel
set_option maxRecDepth 20000 in
theorem ggX6_breach_X6_isCell : GoodIn wsX6_breach wsX6_isCell := goodIn_r _ [7, 8, 9, 6, 10] (by decide +kernel) (by decide +kernel)
set_option maxRecDepth 20000 in
theorem gX6_breach_X6_isCell : GoodIn wsX6_breach (va_wsS RX6 102 yX6_isCell wsX6_isCell) := goodIn_app (goodIn_of _ (by decide +kernel)) ggX6_breach_X6_isCell
set_option maxRecDepth 20000 in
theorem ggX6_breach_X6_refused : GoodIn wsX6_breach wsX6_refused := goodIn_r _ [14, 15, 23, 24, 25, 26, 27, 28, 29, 30, 31, 32, 33, 34, 35, 36, 37, 38, 39, 40, 41, 42, 43, 44, 45, 46, 47, 48, 49, 50, 51, 52, 53, 54] (by decide +kernel) (by decide +kernel)
set_option maxRecDepth 20000 in
theorem gX6_breach_X6_refused : GoodIn wsX6_breach (wsV RX6 106 RX6 yX6_refused wsX6_refused) := goodIn_app (goodIn_of _ (by decide +kernel)) ggX6_breach_X6_refused
set_option maxRecDepth 20000 in
theorem ggX6_breach_X6_gather : GoodIn wsX6_breach wsX6_gather := goodIn_r _ [19, 2, 1, 20, 21, 6, 22, 23, 24, 25, 26, 27, 28, 29, 30, 31, 32, 33, 34, 35, 36, 37, 38, 39, 40, 41, 42, 43, 44, 45, 46, 47, 48, 49, 50, 51, 52, 53, 54] (by decide +kernel) (by decide +kernel)
set_option maxRecDepth 20000 in
theorem gX6_breach_X6_gather : GoodIn wsX6_breach (wsV RX6 165 RX6 yX6_gather wsX6_gather) := goodIn_app (goodIn_of _ (by decide +kernel)) ggX6_breach_X6_gather
theorem dX6_breach_0 : decode cX6_breach 0 = .ok (.iload_n 1, 1) := by decide +kernel
theorem dX6_breach_1 : decode cX6_breach 1 = .ok (.invokestatic 102, 3) := by decide +kernel
theorem dX6_breach_4 : decode cX6_breach 4 = .ok (.istore_n 2, 1) := by decide +kernel
theorem dX6_breach_5 : decode cX6_breach 5 = .ok (.aload_n 0, 1) := by decide +kernel
theorem dX6_breach_6 : decode cX6_breach 6 = .ok (.iload_n 2, 1) := by decide +kernel
theorem dX6_breach_7 : decode cX6_breach 7 = .ok (.ifCond .ne 7, 3) := by decide +kernel
theorem dX6_breach_10 : decode cX6_breach 10 = .ok (.iconst 1, 1) := by decide +kernel
theorem dX6_breach_11 : decode cX6_breach 11 = .ok (.goto 17, 3) := by decide +kernel
theorem dX6_breach_14 : decode cX6_breach 14 = .ok (.aload_n 0, 1) := by decide +kernel
theorem dX6_breach_15 : decode cX6_breach 15 = .ok (.getfield 13, 3) := by decide +kernel
theorem dX6_breach_18 : decode cX6_breach 18 = .ok (.iload_n 1, 1) := by decide +kernel
theorem dX6_breach_19 : decode cX6_breach 19 = .ok (.iaload, 1) := by decide +kernel
theorem dX6_breach_20 : decode cX6_breach 20 = .ok (.ifCond .ne 7, 3) := by decide +kernel
theorem dX6_breach_23 : decode cX6_breach 23 = .ok (.iconst 2, 1) := by decide +kernel
theorem dX6_breach_24 : decode cX6_breach 24 = .ok (.goto 4, 3) := by decide +kernel
theorem dX6_breach_27 : decode cX6_breach 27 = .ok (.iconst 0, 1) := by decide +kernel
theorem dX6_breach_28 : decode cX6_breach 28 = .ok (.invokevirtual 106, 3) := by decide +kernel
theorem dX6_breach_31 : decode cX6_breach 31 = .ok (.ifCond .eq 5, 3) := by decide +kernel
theorem dX6_breach_34 : decode cX6_breach 34 = .ok (.iconst 0, 1) := by decide +kernel
theorem dX6_breach_35 : decode cX6_breach 35 = .ok (.ireturn, 1) := by decide +kernel
theorem dX6_breach_36 : decode cX6_breach 36 = .ok (.aload_n 0, 1) := by decide +kernel
theorem dX6_breach_37 : decode cX6_breach 37 = .ok (.invokevirtual 165, 3) := by decide +kernel
theorem dX6_breach_40 : decode cX6_breach 40 = .ok (.iconst 0, 1) := by decide +kernel
theorem dX6_breach_41 : decode cX6_breach 41 = .ok (.istore_n 3, 1) := by decide +kernel
theorem dX6_breach_42 : decode cX6_breach 42 = .ok (.iconst 0, 1) := by decide +kernel
theorem dX6_breach_43 : decode cX6_breach 43 = .ok (.istore 4, 2) := by decide +kernel
theorem dX6_breach_45 : decode cX6_breach 45 = .ok (.iload 4, 2) := by decide +kernel
theorem dX6_breach_47 : decode cX6_breach 47 = .ok (.bipush 25, 2) := by decide +kernel
theorem dX6_breach_49 : decode cX6_breach 49 = .ok (.if_icmp .ge 74, 3) := by decide +kernel
theorem dX6_breach_52 : decode cX6_breach 52 = .ok (.aload_n 0, 1) := by decide +kernel
theorem dX6_breach_53 : decode cX6_breach 53 = .ok (.getfield 25, 3) := by decide +kernel
theorem dX6_breach_56 : decode cX6_breach 56 = .ok (.iload 4, 2) := by decide +kernel
theorem dX6_breach_58 : decode cX6_breach 58 = .ok (.iaload, 1) := by decide +kernel
theorem dX6_breach_59 : decode cX6_breach 59 = .ok (.aload_n 0, 1) := by decide +kernel
theorem dX6_breach_60 : decode cX6_breach 60 = .ok (.getfield 25, 3) := by decide +kernel
theorem dX6_breach_63 : decode cX6_breach 63 = .ok (.iload_n 1, 1) := by decide +kernel
theorem dX6_breach_64 : decode cX6_breach 64 = .ok (.iaload, 1) := by decide +kernel
theorem dX6_breach_65 : decode cX6_breach 65 = .ok (.if_icmp .ne 7, 3) := by decide +kernel
theorem dX6_breach_68 : decode cX6_breach 68 = .ok (.iconst 1, 1) := by decide +kernel
theorem dX6_breach_69 : decode cX6_breach 69 = .ok (.goto 4, 3) := by decide +kernel
theorem dX6_breach_72 : decode cX6_breach 72 = .ok (.iconst 0, 1) := by decide +kernel
theorem dX6_breach_73 : decode cX6_breach 73 = .ok (.istore 5, 2) := by decide +kernel
theorem dX6_breach_75 : decode cX6_breach 75 = .ok (.iload_n 3, 1) := by decide +kernel
theorem dX6_breach_76 : decode cX6_breach 76 = .ok (.iload 5, 2) := by decide +kernel
theorem dX6_breach_78 : decode cX6_breach 78 = .ok (.ifCond .eq 13, 3) := by decide +kernel
theorem dX6_breach_81 : decode cX6_breach 81 = .ok (.aload_n 0, 1) := by decide +kernel
theorem dX6_breach_82 : decode cX6_breach 82 = .ok (.getfield 13, 3) := by decide +kernel
theorem dX6_breach_85 : decode cX6_breach 85 = .ok (.iload 4, 2) := by decide +kernel
theorem dX6_breach_87 : decode cX6_breach 87 = .ok (.iaload, 1) := by decide +kernel
theorem dX6_breach_88 : decode cX6_breach 88 = .ok (.goto 4, 3) := by decide +kernel
theorem dX6_breach_91 : decode cX6_breach 91 = .ok (.iconst 0, 1) := by decide +kernel
theorem dX6_breach_92 : decode cX6_breach 92 = .ok (.iadd, 1) := by decide +kernel
theorem dX6_breach_93 : decode cX6_breach 93 = .ok (.istore_n 3, 1) := by decide +kernel
theorem dX6_breach_94 : decode cX6_breach 94 = .ok (.aload_n 0, 1) := by decide +kernel
theorem dX6_breach_95 : decode cX6_breach 95 = .ok (.getfield 13, 3) := by decide +kernel
theorem dX6_breach_98 : decode cX6_breach 98 = .ok (.iload 4, 2) := by decide +kernel
theorem dX6_breach_100 : decode cX6_breach 100 = .ok (.iload 5, 2) := by decide +kernel
theorem dX6_breach_102 : decode cX6_breach 102 = .ok (.ifCond .eq 7, 3) := by decide +kernel
theorem dX6_breach_105 : decode cX6_breach 105 = .ok (.iconst 0, 1) := by decide +kernel
theorem dX6_breach_106 : decode cX6_breach 106 = .ok (.goto 10, 3) := by decide +kernel
theorem dX6_breach_109 : decode cX6_breach 109 = .ok (.aload_n 0, 1) := by decide +kernel
theorem dX6_breach_110 : decode cX6_breach 110 = .ok (.getfield 13, 3) := by decide +kernel
theorem dX6_breach_113 : decode cX6_breach 113 = .ok (.iload 4, 2) := by decide +kernel
theorem dX6_breach_115 : decode cX6_breach 115 = .ok (.iaload, 1) := by decide +kernel
theorem dX6_breach_116 : decode cX6_breach 116 = .ok (.iastore, 1) := by decide +kernel
theorem dX6_breach_117 : decode cX6_breach 117 = .ok (.iinc 4 1, 3) := by decide +kernel
theorem dX6_breach_120 : decode cX6_breach 120 = .ok (.goto (-75), 3) := by decide +kernel
theorem dX6_breach_123 : decode cX6_breach 123 = .ok (.aload_n 0, 1) := by decide +kernel
theorem dX6_breach_124 : decode cX6_breach 124 = .ok (.dup, 1) := by decide +kernel
theorem dX6_breach_125 : decode cX6_breach 125 = .ok (.getfield 168, 3) := by decide +kernel
theorem dX6_breach_128 : decode cX6_breach 128 = .ok (.iload_n 3, 1) := by decide +kernel
theorem dX6_breach_129 : decode cX6_breach 129 = .ok (.i2l, 1) := by decide +kernel
theorem dX6_breach_130 : decode cX6_breach 130 = .ok (.ladd, 1) := by decide +kernel
theorem dX6_breach_131 : decode cX6_breach 131 = .ok (.putfield 168, 3) := by decide +kernel
theorem dX6_breach_134 : decode cX6_breach 134 = .ok (.iload_n 3, 1) := by decide +kernel
theorem dX6_breach_135 : decode cX6_breach 135 = .ok (.ireturn, 1) := by decide +kernel
theorem dX6_houseIn_0 : decode cX6_houseIn 0 = .ok (.iconst (-1), 1) := by decide +kernel
theorem dX6_houseIn_1 : decode cX6_houseIn 1 = .ok (.istore_n 2, 1) := by decide +kernel
theorem dX6_houseIn_2 : decode cX6_houseIn 2 = .ok (.iconst 0, 1) := by decide +kernel
theorem dX6_houseIn_3 : decode cX6_houseIn 3 = .ok (.istore_n 3, 1) := by decide +kernel
theorem dX6_houseIn_4 : decode cX6_houseIn 4 = .ok (.iload_n 3, 1) := by decide +kernel
theorem dX6_houseIn_5 : decode cX6_houseIn 5 = .ok (.aload_n 0, 1) := by decide +kernel
theorem dX6_houseIn_6 : decode cX6_houseIn 6 = .ok (.getfield 132, 3) := by decide +kernel
theorem dX6_houseIn_9 : decode cX6_houseIn 9 = .ok (.if_icmp .ge 25, 3) := by decide +kernel
theorem dX6_houseIn_12 : decode cX6_houseIn 12 = .ok (.aload_n 0, 1) := by decide +kernel
theorem dX6_houseIn_13 : decode cX6_houseIn 13 = .ok (.getfield 43, 3) := by decide +kernel
theorem dX6_houseIn_16 : decode cX6_houseIn 16 = .ok (.iload_n 3, 1) := by decide +kernel
theorem dX6_houseIn_17 : decode cX6_houseIn 17 = .ok (.iaload, 1) := by decide +kernel
theorem dX6_houseIn_18 : decode cX6_houseIn 18 = .ok (.iload_n 1, 1) := by decide +kernel
theorem dX6_houseIn_19 : decode cX6_houseIn 19 = .ok (.if_icmp .ne 7, 3) := by decide +kernel
theorem dX6_houseIn_22 : decode cX6_houseIn 22 = .ok (.iload_n 3, 1) := by decide +kernel
theorem dX6_houseIn_23 : decode cX6_houseIn 23 = .ok (.goto 4, 3) := by decide +kernel
theorem dX6_houseIn_26 : decode cX6_houseIn 26 = .ok (.iload_n 2, 1) := by decide +kernel
theorem dX6_houseIn_27 : decode cX6_houseIn 27 = .ok (.istore_n 2, 1) := by decide +kernel
theorem dX6_houseIn_28 : decode cX6_houseIn 28 = .ok (.iinc 3 1, 3) := by decide +kernel
theorem dX6_houseIn_31 : decode cX6_houseIn 31 = .ok (.goto (-27), 3) := by decide +kernel
theorem dX6_houseIn_34 : decode cX6_houseIn 34 = .ok (.iload_n 2, 1) := by decide +kernel
theorem dX6_houseIn_35 : decode cX6_houseIn 35 = .ok (.ireturn, 1) := by decide +kernel
set_option maxRecDepth 20000 in
theorem ggX6_house_X6_isCell : GoodIn wsX6_house wsX6_isCell := goodIn_r _ [10, 11, 12, 9, 13] (by decide +kernel) (by decide +kernel)
set_option maxRecDepth 20000 in
theorem gX6_house_X6_isCell : GoodIn wsX6_house (va_wsS RX6 102 yX6_isCell wsX6_isCell) := goodIn_app (goodIn_of _ (by decide +kernel)) ggX6_house_X6_isCell
set_option maxRecDepth 20000 in
theorem ggX6_house_X6_within : GoodIn wsX6_house wsX6_within := goodIn_r _ [13] (by decide +kernel) (by decide +kernel)
set_option maxRecDepth 20000 in
theorem gX6_house_X6_within : GoodIn wsX6_house (va_wsS RX6 94 yX6_within wsX6_within) := goodIn_app (goodIn_of _ (by decide +kernel)) ggX6_house_X6_within
set_option maxRecDepth 20000 in
theorem ggX6_house_X6_houseIn : GoodIn wsX6_house wsX6_houseIn := goodIn_r _ [17, 1, 2, 28, 29, 30, 31, 32, 33, 34, 35, 36, 37, 38, 39, 40, 41, 42, 43, 44, 45, 46, 47, 48, 49, 50, 51, 52, 53, 54, 55, 56, 57, 58, 59] (by decide +kernel) (by decide +kernel)
set_option maxRecDepth 20000 in
theorem gX6_house_X6_houseIn : GoodIn wsX6_house (wsV RX6 171 RX6 yX6_houseIn wsX6_houseIn) := goodIn_app (goodIn_of _ (by decide +kernel)) ggX6_house_X6_houseIn
set_option maxRecDepth 20000 in
theorem ggX6_house_X6_isLake : GoodIn wsX6_house wsX6_isLake := goodIn_r _ [21, 22, 28, 29, 30, 31, 32, 33, 34, 35, 36, 37, 38, 39, 40, 41, 42, 43, 44, 45, 46, 47, 48, 49, 50, 51, 52, 53, 54, 55, 56, 57, 58, 59] (by decide +kernel) (by decide +kernel)
set_option maxRecDepth 20000 in
theorem gX6_house_X6_isLake : GoodIn wsX6_house (wsV RX6 142 RX6 yX6_isLake wsX6_isLake) := goodIn_app (goodIn_of _ (by decide +kernel)) ggX6_house_X6_isLake
set_option maxRecDepth 20000 in
theorem ggX6_house_X6_refused : GoodIn wsX6_house wsX6_refused := goodIn_r _ [26, 27, 28, 29, 30, 31, 32, 33, 34, 35, 36, 37, 38, 39, 40, 41, 42, 43, 44, 45, 46, 47, 48, 49, 50, 51, 52, 53, 54, 55, 56, 57, 58, 59] (by decide +kernel) (by decide +kernel)
set_option maxRecDepth 20000 in
theorem gX6_house_X6_refused : GoodIn wsX6_house (wsV RX6 106 RX6 yX6_refused wsX6_refused) := goodIn_app (goodIn_of _ (by decide +kernel)) ggX6_house_X6_refused
theorem dX6_house_0 : decode cX6_house 0 = .ok (.iload_n 1, 1) := by decide +kernel
theorem dX6_house_1 : decode cX6_house 1 = .ok (.invokestatic 102, 3) := by decide +kernel
theorem dX6_house_4 : decode cX6_house 4 = .ok (.ifCond .eq 16, 3) := by decide +kernel
theorem dX6_house_7 : decode cX6_house 7 = .ok (.iload_n 2, 1) := by decide +kernel
theorem dX6_house_8 : decode cX6_house 8 = .ok (.iconst 1, 1) := by decide +kernel
theorem dX6_house_9 : decode cX6_house 9 = .ok (.iconst 4, 1) := by decide +kernel
theorem dX6_house_10 : decode cX6_house 10 = .ok (.invokestatic 94, 3) := by decide +kernel
theorem dX6_house_13 : decode cX6_house 13 = .ok (.ifCond .eq 7, 3) := by decide +kernel
theorem dX6_house_16 : decode cX6_house 16 = .ok (.iconst 1, 1) := by decide +kernel
theorem dX6_house_17 : decode cX6_house 17 = .ok (.goto 4, 3) := by decide +kernel
theorem dX6_house_20 : decode cX6_house 20 = .ok (.iconst 0, 1) := by decide +kernel
theorem dX6_house_21 : decode cX6_house 21 = .ok (.istore 4, 2) := by decide +kernel
theorem dX6_house_23 : decode cX6_house 23 = .ok (.aload_n 0, 1) := by decide +kernel
theorem dX6_house_24 : decode cX6_house 24 = .ok (.iload 4, 2) := by decide +kernel
theorem dX6_house_26 : decode cX6_house 26 = .ok (.ifCond .ne 7, 3) := by decide +kernel
theorem dX6_house_29 : decode cX6_house 29 = .ok (.iconst 1, 1) := by decide +kernel
theorem dX6_house_30 : decode cX6_house 30 = .ok (.goto 34, 3) := by decide +kernel
theorem dX6_house_33 : decode cX6_house 33 = .ok (.aload_n 0, 1) := by decide +kernel
theorem dX6_house_34 : decode cX6_house 34 = .ok (.iload_n 1, 1) := by decide +kernel
theorem dX6_house_35 : decode cX6_house 35 = .ok (.invokevirtual 171, 3) := by decide +kernel
theorem dX6_house_38 : decode cX6_house 38 = .ok (.iconst (-1), 1) := by decide +kernel
theorem dX6_house_39 : decode cX6_house 39 = .ok (.if_icmp .ne 20, 3) := by decide +kernel
theorem dX6_house_42 : decode cX6_house 42 = .ok (.aload_n 0, 1) := by decide +kernel
theorem dX6_house_43 : decode cX6_house 43 = .ok (.iload_n 1, 1) := by decide +kernel
theorem dX6_house_44 : decode cX6_house 44 = .ok (.invokevirtual 142, 3) := by decide +kernel
theorem dX6_house_47 : decode cX6_house 47 = .ok (.ifCond .ne 12, 3) := by decide +kernel
theorem dX6_house_50 : decode cX6_house 50 = .ok (.aload_n 0, 1) := by decide +kernel
theorem dX6_house_51 : decode cX6_house 51 = .ok (.getfield 132, 3) := by decide +kernel
theorem dX6_house_54 : decode cX6_house 54 = .ok (.bipush 10, 2) := by decide +kernel
theorem dX6_house_56 : decode cX6_house 56 = .ok (.if_icmp .ne 7, 3) := by decide +kernel
theorem dX6_house_59 : decode cX6_house 59 = .ok (.iconst 2, 1) := by decide +kernel
theorem dX6_house_60 : decode cX6_house 60 = .ok (.goto 4, 3) := by decide +kernel
theorem dX6_house_63 : decode cX6_house 63 = .ok (.iconst 0, 1) := by decide +kernel
theorem dX6_house_64 : decode cX6_house 64 = .ok (.invokevirtual 106, 3) := by decide +kernel
theorem dX6_house_67 : decode cX6_house 67 = .ok (.ifCond .eq 5, 3) := by decide +kernel
theorem dX6_house_70 : decode cX6_house 70 = .ok (.iconst 0, 1) := by decide +kernel
theorem dX6_house_71 : decode cX6_house 71 = .ok (.ireturn, 1) := by decide +kernel
theorem dX6_house_72 : decode cX6_house 72 = .ok (.aload_n 0, 1) := by decide +kernel
theorem dX6_house_73 : decode cX6_house 73 = .ok (.getfield 43, 3) := by decide +kernel
theorem dX6_house_76 : decode cX6_house 76 = .ok (.aload_n 0, 1) := by decide +kernel
theorem dX6_house_77 : decode cX6_house 77 = .ok (.getfield 132, 3) := by decide +kernel
theorem dX6_house_80 : decode cX6_house 80 = .ok (.iload_n 1, 1) := by decide +kernel
theorem dX6_house_81 : decode cX6_house 81 = .ok (.iastore, 1) := by decide +kernel
theorem dX6_house_82 : decode cX6_house 82 = .ok (.aload_n 0, 1) := by decide +kernel
theorem dX6_house_83 : decode cX6_house 83 = .ok (.getfield 46, 3) := by decide +kernel
theorem dX6_house_86 : decode cX6_house 86 = .ok (.aload_n 0, 1) := by decide +kernel
theorem dX6_house_87 : decode cX6_house 87 = .ok (.getfield 132, 3) := by decide +kernel
theorem dX6_house_90 : decode cX6_house 90 = .ok (.iload_n 2, 1) := by decide +kernel
theorem dX6_house_91 : decode cX6_house 91 = .ok (.iastore, 1) := by decide +kernel
theorem dX6_house_92 : decode cX6_house 92 = .ok (.aload_n 0, 1) := by decide +kernel
theorem dX6_house_93 : decode cX6_house 93 = .ok (.getfield 49, 3) := by decide +kernel
theorem dX6_house_96 : decode cX6_house 96 = .ok (.aload_n 0, 1) := by decide +kernel
theorem dX6_house_97 : decode cX6_house 97 = .ok (.getfield 132, 3) := by decide +kernel
theorem dX6_house_100 : decode cX6_house 100 = .ok (.iload_n 3, 1) := by decide +kernel
theorem dX6_house_101 : decode cX6_house 101 = .ok (.bastore, 1) := by decide +kernel
theorem dX6_house_102 : decode cX6_house 102 = .ok (.aload_n 0, 1) := by decide +kernel
theorem dX6_house_103 : decode cX6_house 103 = .ok (.getfield 56, 3) := by decide +kernel
theorem dX6_house_106 : decode cX6_house 106 = .ok (.aload_n 0, 1) := by decide +kernel
theorem dX6_house_107 : decode cX6_house 107 = .ok (.getfield 132, 3) := by decide +kernel
theorem dX6_house_110 : decode cX6_house 110 = .ok (.aload_n 0, 1) := by decide +kernel
theorem dX6_house_111 : decode cX6_house 111 = .ok (.getfield 109, 3) := by decide +kernel
theorem dX6_house_114 : decode cX6_house 114 = .ok (.iastore, 1) := by decide +kernel
theorem dX6_house_115 : decode cX6_house 115 = .ok (.aload_n 0, 1) := by decide +kernel
theorem dX6_house_116 : decode cX6_house 116 = .ok (.dup, 1) := by decide +kernel
theorem dX6_house_117 : decode cX6_house 117 = .ok (.getfield 132, 3) := by decide +kernel
theorem dX6_house_120 : decode cX6_house 120 = .ok (.iconst 1, 1) := by decide +kernel
theorem dX6_house_121 : decode cX6_house 121 = .ok (.iadd, 1) := by decide +kernel
theorem dX6_house_122 : decode cX6_house 122 = .ok (.putfield 132, 3) := by decide +kernel
theorem dX6_house_125 : decode cX6_house 125 = .ok (.aload_n 0, 1) := by decide +kernel
theorem dX6_house_126 : decode cX6_house 126 = .ok (.getfield 132, 3) := by decide +kernel
theorem dX6_house_129 : decode cX6_house 129 = .ok (.iconst 1, 1) := by decide +kernel
theorem dX6_house_130 : decode cX6_house 130 = .ok (.isub, 1) := by decide +kernel
theorem dX6_house_131 : decode cX6_house 131 = .ok (.ireturn, 1) := by decide +kernel
set_option maxRecDepth 20000 in
theorem ggX6_borehole_X6_isCell : GoodIn wsX6_borehole wsX6_isCell := goodIn_r _ [9, 10, 11, 8, 12] (by decide +kernel) (by decide +kernel)
set_option maxRecDepth 20000 in
theorem gX6_borehole_X6_isCell : GoodIn wsX6_borehole (va_wsS RX6 102 yX6_isCell wsX6_isCell) := goodIn_app (goodIn_of _ (by decide +kernel)) ggX6_borehole_X6_isCell
set_option maxRecDepth 20000 in
theorem ggX6_borehole_X6_within : GoodIn wsX6_borehole wsX6_within := goodIn_r _ [12] (by decide +kernel) (by decide +kernel)
set_option maxRecDepth 20000 in
theorem gX6_borehole_X6_within : GoodIn wsX6_borehole (va_wsS RX6 94 yX6_within wsX6_within) := goodIn_app (goodIn_of _ (by decide +kernel)) ggX6_borehole_X6_within
set_option maxRecDepth 20000 in
theorem ggX6_borehole_X6_refused : GoodIn wsX6_borehole wsX6_refused := goodIn_r _ [16, 17, 18, 19, 20, 21, 22, 23, 24, 25, 26, 27, 28, 29, 30, 31, 32, 33, 34, 35, 36, 37, 38, 39, 40, 41, 42, 43, 44, 45, 46, 47, 48, 49] (by decide +kernel) (by decide +kernel)
set_option maxRecDepth 20000 in
theorem gX6_borehole_X6_refused : GoodIn wsX6_borehole (wsV RX6 106 RX6 yX6_refused wsX6_refused) := goodIn_app (goodIn_of _ (by decide +kernel)) ggX6_borehole_X6_refused
theorem dX6_borehole_0 : decode cX6_borehole 0 = .ok (.aload_n 0, 1) := by decide +kernel
theorem dX6_borehole_1 : decode cX6_borehole 1 = .ok (.iload_n 1, 1) := by decide +kernel
theorem dX6_borehole_2 : decode cX6_borehole 2 = .ok (.invokestatic 102, 3) := by decide +kernel
theorem dX6_borehole_5 : decode cX6_borehole 5 = .ok (.ifCond .ne 7, 3) := by decide +kernel
theorem dX6_borehole_8 : decode cX6_borehole 8 = .ok (.iconst 1, 1) := by decide +kernel
theorem dX6_borehole_9 : decode cX6_borehole 9 = .ok (.goto 32, 3) := by decide +kernel
theorem dX6_borehole_12 : decode cX6_borehole 12 = .ok (.iload_n 2, 1) := by decide +kernel
theorem dX6_borehole_13 : decode cX6_borehole 13 = .ok (.bipush (-12), 2) := by decide +kernel
theorem dX6_borehole_15 : decode cX6_borehole 15 = .ok (.bipush 12, 2) := by decide +kernel
theorem dX6_borehole_17 : decode cX6_borehole 17 = .ok (.invokestatic 94, 3) := by decide +kernel
theorem dX6_borehole_20 : decode cX6_borehole 20 = .ok (.ifCond .ne 7, 3) := by decide +kernel
theorem dX6_borehole_23 : decode cX6_borehole 23 = .ok (.iconst 2, 1) := by decide +kernel
theorem dX6_borehole_24 : decode cX6_borehole 24 = .ok (.goto 17, 3) := by decide +kernel
theorem dX6_borehole_27 : decode cX6_borehole 27 = .ok (.aload_n 0, 1) := by decide +kernel
theorem dX6_borehole_28 : decode cX6_borehole 28 = .ok (.getfield 135, 3) := by decide +kernel
theorem dX6_borehole_31 : decode cX6_borehole 31 = .ok (.bipush 10, 2) := by decide +kernel
theorem dX6_borehole_33 : decode cX6_borehole 33 = .ok (.if_icmp .ne 7, 3) := by decide +kernel
theorem dX6_borehole_36 : decode cX6_borehole 36 = .ok (.iconst 3, 1) := by decide +kernel
theorem dX6_borehole_37 : decode cX6_borehole 37 = .ok (.goto 4, 3) := by decide +kernel
theorem dX6_borehole_40 : decode cX6_borehole 40 = .ok (.iconst 0, 1) := by decide +kernel
theorem dX6_borehole_41 : decode cX6_borehole 41 = .ok (.invokevirtual 106, 3) := by decide +kernel
theorem dX6_borehole_44 : decode cX6_borehole 44 = .ok (.ifCond .eq 5, 3) := by decide +kernel
theorem dX6_borehole_47 : decode cX6_borehole 47 = .ok (.iconst 0, 1) := by decide +kernel
theorem dX6_borehole_48 : decode cX6_borehole 48 = .ok (.ireturn, 1) := by decide +kernel
theorem dX6_borehole_49 : decode cX6_borehole 49 = .ok (.aload_n 0, 1) := by decide +kernel
theorem dX6_borehole_50 : decode cX6_borehole 50 = .ok (.getfield 59, 3) := by decide +kernel
theorem dX6_borehole_53 : decode cX6_borehole 53 = .ok (.aload_n 0, 1) := by decide +kernel
theorem dX6_borehole_54 : decode cX6_borehole 54 = .ok (.getfield 135, 3) := by decide +kernel
theorem dX6_borehole_57 : decode cX6_borehole 57 = .ok (.iload_n 1, 1) := by decide +kernel
theorem dX6_borehole_58 : decode cX6_borehole 58 = .ok (.iastore, 1) := by decide +kernel
theorem dX6_borehole_59 : decode cX6_borehole 59 = .ok (.aload_n 0, 1) := by decide +kernel
theorem dX6_borehole_60 : decode cX6_borehole 60 = .ok (.getfield 62, 3) := by decide +kernel
theorem dX6_borehole_63 : decode cX6_borehole 63 = .ok (.aload_n 0, 1) := by decide +kernel
theorem dX6_borehole_64 : decode cX6_borehole 64 = .ok (.getfield 135, 3) := by decide +kernel
theorem dX6_borehole_67 : decode cX6_borehole 67 = .ok (.iload_n 2, 1) := by decide +kernel
theorem dX6_borehole_68 : decode cX6_borehole 68 = .ok (.iastore, 1) := by decide +kernel
theorem dX6_borehole_69 : decode cX6_borehole 69 = .ok (.aload_n 0, 1) := by decide +kernel
theorem dX6_borehole_70 : decode cX6_borehole 70 = .ok (.getfield 65, 3) := by decide +kernel
theorem dX6_borehole_73 : decode cX6_borehole 73 = .ok (.aload_n 0, 1) := by decide +kernel
theorem dX6_borehole_74 : decode cX6_borehole 74 = .ok (.getfield 135, 3) := by decide +kernel
theorem dX6_borehole_77 : decode cX6_borehole 77 = .ok (.aload_n 0, 1) := by decide +kernel
theorem dX6_borehole_78 : decode cX6_borehole 78 = .ok (.getfield 109, 3) := by decide +kernel
theorem dX6_borehole_81 : decode cX6_borehole 81 = .ok (.iastore, 1) := by decide +kernel
theorem dX6_borehole_82 : decode cX6_borehole 82 = .ok (.aload_n 0, 1) := by decide +kernel
theorem dX6_borehole_83 : decode cX6_borehole 83 = .ok (.dup, 1) := by decide +kernel
theorem dX6_borehole_84 : decode cX6_borehole 84 = .ok (.getfield 135, 3) := by decide +kernel
theorem dX6_borehole_87 : decode cX6_borehole 87 = .ok (.iconst 1, 1) := by decide +kernel
theorem dX6_borehole_88 : decode cX6_borehole 88 = .ok (.iadd, 1) := by decide +kernel
theorem dX6_borehole_89 : decode cX6_borehole 89 = .ok (.putfield 135, 3) := by decide +kernel
theorem dX6_borehole_92 : decode cX6_borehole 92 = .ok (.aload_n 0, 1) := by decide +kernel
theorem dX6_borehole_93 : decode cX6_borehole 93 = .ok (.getfield 135, 3) := by decide +kernel
theorem dX6_borehole_96 : decode cX6_borehole 96 = .ok (.iconst 1, 1) := by decide +kernel
theorem dX6_borehole_97 : decode cX6_borehole 97 = .ok (.isub, 1) := by decide +kernel
theorem dX6_borehole_98 : decode cX6_borehole 98 = .ok (.ireturn, 1) := by decide +kernel
set_option maxRecDepth 20000 in
theorem ggX6_isHouse_X6_within : GoodIn wsX6_isHouse wsX6_within := goodIn_r _ [5] (by decide +kernel) (by decide +kernel)
set_option maxRecDepth 20000 in
theorem gX6_isHouse_X6_within : GoodIn wsX6_isHouse (va_wsS RX6 94 yX6_within wsX6_within) := goodIn_app (goodIn_of _ (by decide +kernel)) ggX6_isHouse_X6_within
theorem dX6_isHouse_0 : decode cX6_isHouse 0 = .ok (.iload_n 1, 1) := by decide +kernel
theorem dX6_isHouse_1 : decode cX6_isHouse 1 = .ok (.iconst 0, 1) := by decide +kernel
theorem dX6_isHouse_2 : decode cX6_isHouse 2 = .ok (.aload_n 0, 1) := by decide +kernel
theorem dX6_isHouse_3 : decode cX6_isHouse 3 = .ok (.getfield 132, 3) := by decide +kernel
theorem dX6_isHouse_6 : decode cX6_isHouse 6 = .ok (.iconst 1, 1) := by decide +kernel
theorem dX6_isHouse_7 : decode cX6_isHouse 7 = .ok (.isub, 1) := by decide +kernel
theorem dX6_isHouse_8 : decode cX6_isHouse 8 = .ok (.invokestatic 94, 3) := by decide +kernel
theorem dX6_isHouse_11 : decode cX6_isHouse 11 = .ok (.ireturn, 1) := by decide +kernel
set_option maxRecDepth 20000 in
theorem ggX6_worth_X6_lesser : GoodIn wsX6_worth wsX6_lesser := goodIn_r _ [13] (by decide +kernel) (by decide +kernel)
set_option maxRecDepth 20000 in
theorem gX6_worth_X6_lesser : GoodIn wsX6_worth (va_wsS RX6 98 yX6_lesser wsX6_lesser) := goodIn_app (goodIn_of _ (by decide +kernel)) ggX6_worth_X6_lesser
theorem dX6_worth_0 : decode cX6_worth 0 = .ok (.iconst 0, 1) := by decide +kernel
theorem dX6_worth_1 : decode cX6_worth 1 = .ok (.istore_n 2, 1) := by decide +kernel
theorem dX6_worth_2 : decode cX6_worth 2 = .ok (.aload_n 0, 1) := by decide +kernel
theorem dX6_worth_3 : decode cX6_worth 3 = .ok (.getfield 56, 3) := by decide +kernel
theorem dX6_worth_6 : decode cX6_worth 6 = .ok (.iload_n 1, 1) := by decide +kernel
theorem dX6_worth_7 : decode cX6_worth 7 = .ok (.iaload, 1) := by decide +kernel
theorem dX6_worth_8 : decode cX6_worth 8 = .ok (.istore_n 3, 1) := by decide +kernel
theorem dX6_worth_9 : decode cX6_worth 9 = .ok (.iload_n 3, 1) := by decide +kernel
theorem dX6_worth_10 : decode cX6_worth 10 = .ok (.aload_n 0, 1) := by decide +kernel
theorem dX6_worth_11 : decode cX6_worth 11 = .ok (.getfield 109, 3) := by decide +kernel
theorem dX6_worth_14 : decode cX6_worth 14 = .ok (.if_icmp .ge 119, 3) := by decide +kernel
theorem dX6_worth_17 : decode cX6_worth 17 = .ok (.iconst 0, 1) := by decide +kernel
theorem dX6_worth_18 : decode cX6_worth 18 = .ok (.istore 4, 2) := by decide +kernel
theorem dX6_worth_20 : decode cX6_worth 20 = .ok (.iconst 0, 1) := by decide +kernel
theorem dX6_worth_21 : decode cX6_worth 21 = .ok (.istore 5, 2) := by decide +kernel
theorem dX6_worth_23 : decode cX6_worth 23 = .ok (.iload 5, 2) := by decide +kernel
theorem dX6_worth_25 : decode cX6_worth 25 = .ok (.aload_n 0, 1) := by decide +kernel
theorem dX6_worth_26 : decode cX6_worth 26 = .ok (.getfield 135, 3) := by decide +kernel
theorem dX6_worth_29 : decode cX6_worth 29 = .ok (.if_icmp .ge 85, 3) := by decide +kernel
theorem dX6_worth_32 : decode cX6_worth 32 = .ok (.aload_n 0, 1) := by decide +kernel
theorem dX6_worth_33 : decode cX6_worth 33 = .ok (.getfield 59, 3) := by decide +kernel
theorem dX6_worth_36 : decode cX6_worth 36 = .ok (.iload 5, 2) := by decide +kernel
theorem dX6_worth_38 : decode cX6_worth 38 = .ok (.iaload, 1) := by decide +kernel
theorem dX6_worth_39 : decode cX6_worth 39 = .ok (.aload_n 0, 1) := by decide +kernel
theorem dX6_worth_40 : decode cX6_worth 40 = .ok (.getfield 43, 3) := by decide +kernel
theorem dX6_worth_43 : decode cX6_worth 43 = .ok (.iload_n 1, 1) := by decide +kernel
theorem dX6_worth_44 : decode cX6_worth 44 = .ok (.iaload, 1) := by decide +kernel
theorem dX6_worth_45 : decode cX6_worth 45 = .ok (.if_icmp .ne 18, 3) := by decide +kernel
theorem dX6_worth_48 : decode cX6_worth 48 = .ok (.aload_n 0, 1) := by decide +kernel
theorem dX6_worth_49 : decode cX6_worth 49 = .ok (.getfield 65, 3) := by decide +kernel
theorem dX6_worth_52 : decode cX6_worth 52 = .ok (.iload 5, 2) := by decide +kernel
theorem dX6_worth_54 : decode cX6_worth 54 = .ok (.iaload, 1) := by decide +kernel
theorem dX6_worth_55 : decode cX6_worth 55 = .ok (.iload_n 3, 1) := by decide +kernel
theorem dX6_worth_56 : decode cX6_worth 56 = .ok (.if_icmp .gt 7, 3) := by decide +kernel
theorem dX6_worth_59 : decode cX6_worth 59 = .ok (.iconst 1, 1) := by decide +kernel
theorem dX6_worth_60 : decode cX6_worth 60 = .ok (.goto 4, 3) := by decide +kernel
theorem dX6_worth_63 : decode cX6_worth 63 = .ok (.iconst 0, 1) := by decide +kernel
theorem dX6_worth_64 : decode cX6_worth 64 = .ok (.istore 6, 2) := by decide +kernel
theorem dX6_worth_66 : decode cX6_worth 66 = .ok (.iload 4, 2) := by decide +kernel
theorem dX6_worth_68 : decode cX6_worth 68 = .ok (.ifCond .ne 33, 3) := by decide +kernel
theorem dX6_worth_71 : decode cX6_worth 71 = .ok (.iload 6, 2) := by decide +kernel
