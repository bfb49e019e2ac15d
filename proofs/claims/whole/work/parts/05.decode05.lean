theorem dX6_worth_73 : decode cX6_worth 73 = .ok (.ifCond .eq 32, 3) := by decide +kernel
theorem dX6_worth_76 : decode cX6_worth 76 = .ok (.aload_n 0, 1) := by decide +kernel
theorem dX6_worth_77 : decode cX6_worth 77 = .ok (.getfield 68, 3) := by decide +kernel
theorem dX6_worth_80 : decode cX6_worth 80 = .ok (.sipush 3000, 3) := by decide +kernel
theorem dX6_worth_83 : decode cX6_worth 83 = .ok (.iload 5, 2) := by decide +kernel
theorem dX6_worth_85 : decode cX6_worth 85 = .ok (.imul, 1) := by decide +kernel
theorem dX6_worth_86 : decode cX6_worth 86 = .ok (.iconst 5, 1) := by decide +kernel
theorem dX6_worth_87 : decode cX6_worth 87 = .ok (.iload_n 3, 1) := by decide +kernel
theorem dX6_worth_88 : decode cX6_worth 88 = .ok (.imul, 1) := by decide +kernel
theorem dX6_worth_89 : decode cX6_worth 89 = .ok (.iadd, 1) := by decide +kernel
theorem dX6_worth_90 : decode cX6_worth 90 = .ok (.aload_n 0, 1) := by decide +kernel
theorem dX6_worth_91 : decode cX6_worth 91 = .ok (.getfield 46, 3) := by decide +kernel
theorem dX6_worth_94 : decode cX6_worth 94 = .ok (.iload_n 1, 1) := by decide +kernel
theorem dX6_worth_95 : decode cX6_worth 95 = .ok (.iaload, 1) := by decide +kernel
theorem dX6_worth_96 : decode cX6_worth 96 = .ok (.iadd, 1) := by decide +kernel
theorem dX6_worth_97 : decode cX6_worth 97 = .ok (.iaload, 1) := by decide +kernel
theorem dX6_worth_98 : decode cX6_worth 98 = .ok (.ifCond .lt 7, 3) := by decide +kernel
theorem dX6_worth_101 : decode cX6_worth 101 = .ok (.iconst 1, 1) := by decide +kernel
theorem dX6_worth_102 : decode cX6_worth 102 = .ok (.goto 4, 3) := by decide +kernel
theorem dX6_worth_105 : decode cX6_worth 105 = .ok (.iconst 0, 1) := by decide +kernel
theorem dX6_worth_106 : decode cX6_worth 106 = .ok (.istore 4, 2) := by decide +kernel
theorem dX6_worth_108 : decode cX6_worth 108 = .ok (.iinc 5 1, 3) := by decide +kernel
theorem dX6_worth_111 : decode cX6_worth 111 = .ok (.goto (-88), 3) := by decide +kernel
theorem dX6_worth_114 : decode cX6_worth 114 = .ok (.iload_n 2, 1) := by decide +kernel
theorem dX6_worth_115 : decode cX6_worth 115 = .ok (.iload 4, 2) := by decide +kernel
theorem dX6_worth_117 : decode cX6_worth 117 = .ok (.ifCond .eq 7, 3) := by decide +kernel
theorem dX6_worth_120 : decode cX6_worth 120 = .ok (.iconst 1, 1) := by decide +kernel
theorem dX6_worth_121 : decode cX6_worth 121 = .ok (.goto 4, 3) := by decide +kernel
theorem dX6_worth_124 : decode cX6_worth 124 = .ok (.iconst 0, 1) := by decide +kernel
theorem dX6_worth_125 : decode cX6_worth 125 = .ok (.iadd, 1) := by decide +kernel
theorem dX6_worth_126 : decode cX6_worth 126 = .ok (.istore_n 2, 1) := by decide +kernel
theorem dX6_worth_127 : decode cX6_worth 127 = .ok (.iinc 3 1, 3) := by decide +kernel
theorem dX6_worth_130 : decode cX6_worth 130 = .ok (.goto (-121), 3) := by decide +kernel
theorem dX6_worth_133 : decode cX6_worth 133 = .ok (.bipush 100, 2) := by decide +kernel
theorem dX6_worth_135 : decode cX6_worth 135 = .ok (.aload_n 0, 1) := by decide +kernel
theorem dX6_worth_136 : decode cX6_worth 136 = .ok (.getfield 53, 3) := by decide +kernel
theorem dX6_worth_139 : decode cX6_worth 139 = .ok (.iload_n 1, 1) := by decide +kernel
theorem dX6_worth_140 : decode cX6_worth 140 = .ok (.iaload, 1) := by decide +kernel
theorem dX6_worth_141 : decode cX6_worth 141 = .ok (.iload_n 2, 1) := by decide +kernel
theorem dX6_worth_142 : decode cX6_worth 142 = .ok (.invokestatic 98, 3) := by decide +kernel
theorem dX6_worth_145 : decode cX6_worth 145 = .ok (.imul, 1) := by decide +kernel
theorem dX6_worth_146 : decode cX6_worth 146 = .ok (.ireturn, 1) := by decide +kernel
set_option maxRecDepth 20000 in
theorem ggX6_claim_X6_isHouse : GoodIn wsX6_claim wsX6_isHouse := goodIn_r _ [7, 8, 9, 10, 6, 11, 33, 34, 35, 36, 37, 38, 39, 40, 41, 42, 43, 44, 45, 46, 47, 48, 49, 50, 51, 52, 53, 54, 55, 56, 57, 58, 59, 60, 61, 62, 63, 64] (by decide +kernel) (by decide +kernel)
set_option maxRecDepth 20000 in
theorem gX6_claim_X6_isHouse : GoodIn wsX6_claim (wsV RX6 174 RX6 yX6_isHouse wsX6_isHouse) := goodIn_app (goodIn_of _ (by decide +kernel)) ggX6_claim_X6_isHouse
set_option maxRecDepth 20000 in
theorem ggX6_claim_X6_refused : GoodIn wsX6_claim wsX6_refused := goodIn_r _ [15, 16, 33, 34, 35, 36, 37, 38, 39, 40, 41, 42, 43, 44, 45, 46, 47, 48, 49, 50, 51, 52, 53, 54, 55, 56, 57, 58, 59, 60, 61, 62, 63, 64] (by decide +kernel) (by decide +kernel)
set_option maxRecDepth 20000 in
theorem gX6_claim_X6_refused : GoodIn wsX6_claim (wsV RX6 106 RX6 yX6_refused wsX6_refused) := goodIn_app (goodIn_of _ (by decide +kernel)) ggX6_claim_X6_refused
set_option maxRecDepth 20000 in
theorem ggX6_claim_X6_worth : GoodIn wsX6_claim wsX6_worth := goodIn_r _ [20, 21, 22, 23, 24, 25, 26, 27, 28, 29, 30, 31, 6, 32, 33, 34, 35, 36, 37, 38, 39, 40, 41, 42, 43, 44, 45, 46, 47, 48, 49, 50, 51, 52, 53, 54, 55, 56, 57, 58, 59, 60, 61, 62, 63, 64] (by decide +kernel) (by decide +kernel)
set_option maxRecDepth 20000 in
theorem gX6_claim_X6_worth : GoodIn wsX6_claim (wsV RX6 180 RX6 yX6_worth wsX6_worth) := goodIn_app (goodIn_of _ (by decide +kernel)) ggX6_claim_X6_worth
theorem dX6_claim_0 : decode cX6_claim 0 = .ok (.aload_n 0, 1) := by decide +kernel
theorem dX6_claim_1 : decode cX6_claim 1 = .ok (.iload_n 1, 1) := by decide +kernel
theorem dX6_claim_2 : decode cX6_claim 2 = .ok (.invokevirtual 174, 3) := by decide +kernel
theorem dX6_claim_5 : decode cX6_claim 5 = .ok (.istore_n 2, 1) := by decide +kernel
theorem dX6_claim_6 : decode cX6_claim 6 = .ok (.aload_n 0, 1) := by decide +kernel
theorem dX6_claim_7 : decode cX6_claim 7 = .ok (.iload_n 2, 1) := by decide +kernel
theorem dX6_claim_8 : decode cX6_claim 8 = .ok (.ifCond .ne 7, 3) := by decide +kernel
theorem dX6_claim_11 : decode cX6_claim 11 = .ok (.iconst 1, 1) := by decide +kernel
theorem dX6_claim_12 : decode cX6_claim 12 = .ok (.goto 17, 3) := by decide +kernel
theorem dX6_claim_15 : decode cX6_claim 15 = .ok (.aload_n 0, 1) := by decide +kernel
theorem dX6_claim_16 : decode cX6_claim 16 = .ok (.getfield 177, 3) := by decide +kernel
theorem dX6_claim_19 : decode cX6_claim 19 = .ok (.bipush 40, 2) := by decide +kernel
theorem dX6_claim_21 : decode cX6_claim 21 = .ok (.if_icmp .ne 7, 3) := by decide +kernel
theorem dX6_claim_24 : decode cX6_claim 24 = .ok (.iconst 2, 1) := by decide +kernel
theorem dX6_claim_25 : decode cX6_claim 25 = .ok (.goto 4, 3) := by decide +kernel
theorem dX6_claim_28 : decode cX6_claim 28 = .ok (.iconst 0, 1) := by decide +kernel
theorem dX6_claim_29 : decode cX6_claim 29 = .ok (.invokevirtual 106, 3) := by decide +kernel
theorem dX6_claim_32 : decode cX6_claim 32 = .ok (.ifCond .eq 5, 3) := by decide +kernel
theorem dX6_claim_35 : decode cX6_claim 35 = .ok (.iconst 0, 1) := by decide +kernel
theorem dX6_claim_36 : decode cX6_claim 36 = .ok (.ireturn, 1) := by decide +kernel
theorem dX6_claim_37 : decode cX6_claim 37 = .ok (.aload_n 0, 1) := by decide +kernel
theorem dX6_claim_38 : decode cX6_claim 38 = .ok (.getfield 71, 3) := by decide +kernel
theorem dX6_claim_41 : decode cX6_claim 41 = .ok (.aload_n 0, 1) := by decide +kernel
theorem dX6_claim_42 : decode cX6_claim 42 = .ok (.getfield 177, 3) := by decide +kernel
theorem dX6_claim_45 : decode cX6_claim 45 = .ok (.aload_n 0, 1) := by decide +kernel
theorem dX6_claim_46 : decode cX6_claim 46 = .ok (.iload_n 1, 1) := by decide +kernel
theorem dX6_claim_47 : decode cX6_claim 47 = .ok (.invokevirtual 180, 3) := by decide +kernel
theorem dX6_claim_50 : decode cX6_claim 50 = .ok (.iastore, 1) := by decide +kernel
theorem dX6_claim_51 : decode cX6_claim 51 = .ok (.aload_n 0, 1) := by decide +kernel
theorem dX6_claim_52 : decode cX6_claim 52 = .ok (.dup, 1) := by decide +kernel
theorem dX6_claim_53 : decode cX6_claim 53 = .ok (.getfield 177, 3) := by decide +kernel
theorem dX6_claim_56 : decode cX6_claim 56 = .ok (.iconst 1, 1) := by decide +kernel
theorem dX6_claim_57 : decode cX6_claim 57 = .ok (.iadd, 1) := by decide +kernel
theorem dX6_claim_58 : decode cX6_claim 58 = .ok (.putfield 177, 3) := by decide +kernel
theorem dX6_claim_61 : decode cX6_claim 61 = .ok (.aload_n 0, 1) := by decide +kernel
theorem dX6_claim_62 : decode cX6_claim 62 = .ok (.getfield 177, 3) := by decide +kernel
theorem dX6_claim_65 : decode cX6_claim 65 = .ok (.iconst 1, 1) := by decide +kernel
theorem dX6_claim_66 : decode cX6_claim 66 = .ok (.isub, 1) := by decide +kernel
theorem dX6_claim_67 : decode cX6_claim 67 = .ok (.ireturn, 1) := by decide +kernel
theorem dX6_month_0 : decode cX6_month 0 = .ok (.aload_n 0, 1) := by decide +kernel
theorem dX6_month_1 : decode cX6_month 1 = .ok (.iconst 0, 1) := by decide +kernel
theorem dX6_month_2 : decode cX6_month 2 = .ok (.putfield 90, 3) := by decide +kernel
theorem dX6_month_5 : decode cX6_month 5 = .ok (.aload_n 0, 1) := by decide +kernel
theorem dX6_month_6 : decode cX6_month 6 = .ok (.getfield 109, 3) := by decide +kernel
theorem dX6_month_9 : decode cX6_month 9 = .ok (.ireturn, 1) := by decide +kernel
set_option maxRecDepth 20000 in
theorem ggX6_lakeOf_X6_gather : GoodIn wsX6_lakeOf wsX6_gather := goodIn_r _ [6, 1, 7, 8, 9, 5, 10, 11, 12, 13, 14, 15, 16, 17, 18, 19, 20, 21, 22, 23, 24, 25, 26, 27, 28, 29, 30, 31, 32, 33, 34, 35, 36, 37, 38, 39, 40, 41, 42] (by decide +kernel) (by decide +kernel)
set_option maxRecDepth 20000 in
theorem gX6_lakeOf_X6_gather : GoodIn wsX6_lakeOf (wsV RX6 165 RX6 yX6_gather wsX6_gather) := goodIn_app (goodIn_of _ (by decide +kernel)) ggX6_lakeOf_X6_gather
theorem dX6_lakeOf_0 : decode cX6_lakeOf 0 = .ok (.aload_n 0, 1) := by decide +kernel
theorem dX6_lakeOf_1 : decode cX6_lakeOf 1 = .ok (.invokevirtual 165, 3) := by decide +kernel
theorem dX6_lakeOf_4 : decode cX6_lakeOf 4 = .ok (.iconst 0, 1) := by decide +kernel
theorem dX6_lakeOf_5 : decode cX6_lakeOf 5 = .ok (.istore_n 2, 1) := by decide +kernel
theorem dX6_lakeOf_6 : decode cX6_lakeOf 6 = .ok (.iconst 0, 1) := by decide +kernel
theorem dX6_lakeOf_7 : decode cX6_lakeOf 7 = .ok (.istore_n 3, 1) := by decide +kernel
theorem dX6_lakeOf_8 : decode cX6_lakeOf 8 = .ok (.iload_n 3, 1) := by decide +kernel
theorem dX6_lakeOf_9 : decode cX6_lakeOf 9 = .ok (.bipush 25, 2) := by decide +kernel
theorem dX6_lakeOf_11 : decode cX6_lakeOf 11 = .ok (.if_icmp .ge 42, 3) := by decide +kernel
theorem dX6_lakeOf_14 : decode cX6_lakeOf 14 = .ok (.iload_n 2, 1) := by decide +kernel
theorem dX6_lakeOf_15 : decode cX6_lakeOf 15 = .ok (.aload_n 0, 1) := by decide +kernel
theorem dX6_lakeOf_16 : decode cX6_lakeOf 16 = .ok (.getfield 25, 3) := by decide +kernel
theorem dX6_lakeOf_19 : decode cX6_lakeOf 19 = .ok (.iload_n 1, 1) := by decide +kernel
theorem dX6_lakeOf_20 : decode cX6_lakeOf 20 = .ok (.iaload, 1) := by decide +kernel
theorem dX6_lakeOf_21 : decode cX6_lakeOf 21 = .ok (.iconst (-1), 1) := by decide +kernel
theorem dX6_lakeOf_22 : decode cX6_lakeOf 22 = .ok (.if_icmp .eq 22, 3) := by decide +kernel
theorem dX6_lakeOf_25 : decode cX6_lakeOf 25 = .ok (.aload_n 0, 1) := by decide +kernel
theorem dX6_lakeOf_26 : decode cX6_lakeOf 26 = .ok (.getfield 25, 3) := by decide +kernel
theorem dX6_lakeOf_29 : decode cX6_lakeOf 29 = .ok (.iload_n 3, 1) := by decide +kernel
theorem dX6_lakeOf_30 : decode cX6_lakeOf 30 = .ok (.iaload, 1) := by decide +kernel
theorem dX6_lakeOf_31 : decode cX6_lakeOf 31 = .ok (.aload_n 0, 1) := by decide +kernel
theorem dX6_lakeOf_32 : decode cX6_lakeOf 32 = .ok (.getfield 25, 3) := by decide +kernel
theorem dX6_lakeOf_35 : decode cX6_lakeOf 35 = .ok (.iload_n 1, 1) := by decide +kernel
theorem dX6_lakeOf_36 : decode cX6_lakeOf 36 = .ok (.iaload, 1) := by decide +kernel
theorem dX6_lakeOf_37 : decode cX6_lakeOf 37 = .ok (.if_icmp .ne 7, 3) := by decide +kernel
theorem dX6_lakeOf_40 : decode cX6_lakeOf 40 = .ok (.iconst 1, 1) := by decide +kernel
theorem dX6_lakeOf_41 : decode cX6_lakeOf 41 = .ok (.goto 4, 3) := by decide +kernel
theorem dX6_lakeOf_44 : decode cX6_lakeOf 44 = .ok (.iconst 0, 1) := by decide +kernel
theorem dX6_lakeOf_45 : decode cX6_lakeOf 45 = .ok (.iadd, 1) := by decide +kernel
theorem dX6_lakeOf_46 : decode cX6_lakeOf 46 = .ok (.istore_n 2, 1) := by decide +kernel
theorem dX6_lakeOf_47 : decode cX6_lakeOf 47 = .ok (.iinc 3 1, 3) := by decide +kernel
theorem dX6_lakeOf_50 : decode cX6_lakeOf 50 = .ok (.goto (-42), 3) := by decide +kernel
theorem dX6_lakeOf_53 : decode cX6_lakeOf 53 = .ok (.iload_n 2, 1) := by decide +kernel
theorem dX6_lakeOf_54 : decode cX6_lakeOf 54 = .ok (.ireturn, 1) := by decide +kernel
theorem dX6_thawed_0 : decode cX6_thawed 0 = .ok (.iconst 0, 1) := by decide +kernel
theorem dX6_thawed_1 : decode cX6_thawed 1 = .ok (.istore_n 2, 1) := by decide +kernel
theorem dX6_thawed_2 : decode cX6_thawed 2 = .ok (.iload_n 2, 1) := by decide +kernel
theorem dX6_thawed_3 : decode cX6_thawed 3 = .ok (.iconst 5, 1) := by decide +kernel
theorem dX6_thawed_4 : decode cX6_thawed 4 = .ok (.if_icmp .ge 22, 3) := by decide +kernel
theorem dX6_thawed_7 : decode cX6_thawed 7 = .ok (.aload_n 0, 1) := by decide +kernel
theorem dX6_thawed_8 : decode cX6_thawed 8 = .ok (.getfield 34, 3) := by decide +kernel
theorem dX6_thawed_11 : decode cX6_thawed 11 = .ok (.iconst 5, 1) := by decide +kernel
theorem dX6_thawed_12 : decode cX6_thawed 12 = .ok (.iload_n 1, 1) := by decide +kernel
theorem dX6_thawed_13 : decode cX6_thawed 13 = .ok (.imul, 1) := by decide +kernel
theorem dX6_thawed_14 : decode cX6_thawed 14 = .ok (.iload_n 2, 1) := by decide +kernel
theorem dX6_thawed_15 : decode cX6_thawed 15 = .ok (.iadd, 1) := by decide +kernel
theorem dX6_thawed_16 : decode cX6_thawed 16 = .ok (.iaload, 1) := by decide +kernel
theorem dX6_thawed_17 : decode cX6_thawed 17 = .ok (.ifCond .lt 9, 3) := by decide +kernel
theorem dX6_thawed_20 : decode cX6_thawed 20 = .ok (.iinc 2 1, 3) := by decide +kernel
theorem dX6_thawed_23 : decode cX6_thawed 23 = .ok (.goto (-21), 3) := by decide +kernel
theorem dX6_thawed_26 : decode cX6_thawed 26 = .ok (.iload_n 2, 1) := by decide +kernel
theorem dX6_thawed_27 : decode cX6_thawed 27 = .ok (.ireturn, 1) := by decide +kernel
set_option maxRecDepth 20000 in
theorem ggX6_cellOf_X6_isCell : GoodIn wsX6_cellOf wsX6_isCell := goodIn_r _ [9, 10, 11, 8, 12] (by decide +kernel) (by decide +kernel)
set_option maxRecDepth 20000 in
theorem gX6_cellOf_X6_isCell : GoodIn wsX6_cellOf (va_wsS RX6 102 yX6_isCell wsX6_isCell) := goodIn_app (goodIn_of _ (by decide +kernel)) ggX6_cellOf_X6_isCell
set_option maxRecDepth 20000 in
theorem ggX6_cellOf_X6_within : GoodIn wsX6_cellOf wsX6_within := goodIn_r _ [12] (by decide +kernel) (by decide +kernel)
set_option maxRecDepth 20000 in
theorem gX6_cellOf_X6_within : GoodIn wsX6_cellOf (va_wsS RX6 94 yX6_within wsX6_within) := goodIn_app (goodIn_of _ (by decide +kernel)) ggX6_cellOf_X6_within
set_option maxRecDepth 20000 in
theorem ggX6_cellOf_X6_refused : GoodIn wsX6_cellOf wsX6_refused := goodIn_r _ [16, 17, 41, 42, 43, 44, 45, 46, 47, 48, 49, 50, 51, 52, 53, 54, 55, 56, 57, 58, 59, 60, 61, 62, 63, 64, 65, 66, 67, 68, 69, 70, 71, 72] (by decide +kernel) (by decide +kernel)
set_option maxRecDepth 20000 in
theorem gX6_cellOf_X6_refused : GoodIn wsX6_cellOf (wsV RX6 106 RX6 yX6_refused wsX6_refused) := goodIn_app (goodIn_of _ (by decide +kernel)) ggX6_cellOf_X6_refused
set_option maxRecDepth 20000 in
theorem ggX6_cellOf_X6_houseIn : GoodIn wsX6_cellOf wsX6_houseIn := goodIn_r _ [21, 22, 23, 41, 42, 43, 44, 45, 46, 47, 48, 49, 50, 51, 52, 53, 54, 55, 56, 57, 58, 59, 60, 61, 62, 63, 64, 65, 66, 67, 68, 69, 70, 71, 72] (by decide +kernel) (by decide +kernel)
set_option maxRecDepth 20000 in
theorem gX6_cellOf_X6_houseIn : GoodIn wsX6_cellOf (wsV RX6 171 RX6 yX6_houseIn wsX6_houseIn) := goodIn_app (goodIn_of _ (by decide +kernel)) ggX6_cellOf_X6_houseIn
set_option maxRecDepth 20000 in
theorem ggX6_cellOf_X6_lakeOf : GoodIn wsX6_cellOf wsX6_lakeOf := goodIn_r _ [27, 28, 29, 30, 31, 8, 32, 2, 33, 34, 35, 41, 42, 43, 44, 45, 46, 47, 48, 49, 50, 51, 52, 53, 54, 55, 56, 57, 58, 59, 60, 61, 62, 63, 64, 65, 66, 67, 68, 69, 70, 71, 72] (by decide +kernel) (by decide +kernel)
set_option maxRecDepth 20000 in
theorem gX6_cellOf_X6_lakeOf : GoodIn wsX6_cellOf (wsV RX6 183 RX6 yX6_lakeOf wsX6_lakeOf) := goodIn_app (goodIn_of _ (by decide +kernel)) ggX6_cellOf_X6_lakeOf
set_option maxRecDepth 20000 in
theorem ggX6_cellOf_X6_thawed : GoodIn wsX6_cellOf wsX6_thawed := goodIn_r _ [39, 40, 41, 42, 43, 44, 45, 46, 47, 48, 49, 50, 51, 52, 53, 54, 55, 56, 57, 58, 59, 60, 61, 62, 63, 64, 65, 66, 67, 68, 69, 70, 71, 72] (by decide +kernel) (by decide +kernel)
set_option maxRecDepth 20000 in
theorem gX6_cellOf_X6_thawed : GoodIn wsX6_cellOf (wsV RX6 186 RX6 yX6_thawed wsX6_thawed) := goodIn_app (goodIn_of _ (by decide +kernel)) ggX6_cellOf_X6_thawed
theorem dX6_cellOf_0 : decode cX6_cellOf 0 = .ok (.aload_n 0, 1) := by decide +kernel
theorem dX6_cellOf_1 : decode cX6_cellOf 1 = .ok (.iload_n 1, 1) := by decide +kernel
theorem dX6_cellOf_2 : decode cX6_cellOf 2 = .ok (.invokestatic 102, 3) := by decide +kernel
theorem dX6_cellOf_5 : decode cX6_cellOf 5 = .ok (.ifCond .ne 7, 3) := by decide +kernel
theorem dX6_cellOf_8 : decode cX6_cellOf 8 = .ok (.iconst 1, 1) := by decide +kernel
theorem dX6_cellOf_9 : decode cX6_cellOf 9 = .ok (.goto 18, 3) := by decide +kernel
theorem dX6_cellOf_12 : decode cX6_cellOf 12 = .ok (.iload_n 2, 1) := by decide +kernel
theorem dX6_cellOf_13 : decode cX6_cellOf 13 = .ok (.iconst 0, 1) := by decide +kernel
theorem dX6_cellOf_14 : decode cX6_cellOf 14 = .ok (.bipush 7, 2) := by decide +kernel
theorem dX6_cellOf_16 : decode cX6_cellOf 16 = .ok (.invokestatic 94, 3) := by decide +kernel
theorem dX6_cellOf_19 : decode cX6_cellOf 19 = .ok (.ifCond .ne 7, 3) := by decide +kernel
theorem dX6_cellOf_22 : decode cX6_cellOf 22 = .ok (.iconst 2, 1) := by decide +kernel
theorem dX6_cellOf_23 : decode cX6_cellOf 23 = .ok (.goto 4, 3) := by decide +kernel
theorem dX6_cellOf_26 : decode cX6_cellOf 26 = .ok (.iconst 0, 1) := by decide +kernel
theorem dX6_cellOf_27 : decode cX6_cellOf 27 = .ok (.invokevirtual 106, 3) := by decide +kernel
theorem dX6_cellOf_30 : decode cX6_cellOf 30 = .ok (.ifCond .eq 5, 3) := by decide +kernel
theorem dX6_cellOf_33 : decode cX6_cellOf 33 = .ok (.iconst 0, 1) := by decide +kernel
theorem dX6_cellOf_34 : decode cX6_cellOf 34 = .ok (.ireturn, 1) := by decide +kernel
theorem dX6_cellOf_35 : decode cX6_cellOf 35 = .ok (.iload_n 2, 1) := by decide +kernel
theorem dX6_cellOf_36 : decode cX6_cellOf 36 = .ok (.iconst 4, 1) := by decide +kernel
theorem dX6_cellOf_37 : decode cX6_cellOf 37 = .ok (.if_icmp .ge 51, 3) := by decide +kernel
theorem dX6_cellOf_40 : decode cX6_cellOf 40 = .ok (.iload_n 2, 1) := by decide +kernel
theorem dX6_cellOf_41 : decode cX6_cellOf 41 = .ok (.ifCond .ne 12, 3) := by decide +kernel
theorem dX6_cellOf_44 : decode cX6_cellOf 44 = .ok (.aload_n 0, 1) := by decide +kernel
theorem dX6_cellOf_45 : decode cX6_cellOf 45 = .ok (.getfield 7, 3) := by decide +kernel
theorem dX6_cellOf_48 : decode cX6_cellOf 48 = .ok (.iload_n 1, 1) := by decide +kernel
theorem dX6_cellOf_49 : decode cX6_cellOf 49 = .ok (.iaload, 1) := by decide +kernel
theorem dX6_cellOf_50 : decode cX6_cellOf 50 = .ok (.goto 37, 3) := by decide +kernel
theorem dX6_cellOf_53 : decode cX6_cellOf 53 = .ok (.iload_n 2, 1) := by decide +kernel
theorem dX6_cellOf_54 : decode cX6_cellOf 54 = .ok (.iconst 1, 1) := by decide +kernel
theorem dX6_cellOf_55 : decode cX6_cellOf 55 = .ok (.if_icmp .ne 12, 3) := by decide +kernel
theorem dX6_cellOf_58 : decode cX6_cellOf 58 = .ok (.aload_n 0, 1) := by decide +kernel
theorem dX6_cellOf_59 : decode cX6_cellOf 59 = .ok (.getfield 13, 3) := by decide +kernel
theorem dX6_cellOf_62 : decode cX6_cellOf 62 = .ok (.iload_n 1, 1) := by decide +kernel
theorem dX6_cellOf_63 : decode cX6_cellOf 63 = .ok (.iaload, 1) := by decide +kernel
theorem dX6_cellOf_64 : decode cX6_cellOf 64 = .ok (.goto 23, 3) := by decide +kernel
theorem dX6_cellOf_67 : decode cX6_cellOf 67 = .ok (.iload_n 2, 1) := by decide +kernel
theorem dX6_cellOf_68 : decode cX6_cellOf 68 = .ok (.iconst 2, 1) := by decide +kernel
theorem dX6_cellOf_69 : decode cX6_cellOf 69 = .ok (.if_icmp .ne 12, 3) := by decide +kernel
theorem dX6_cellOf_72 : decode cX6_cellOf 72 = .ok (.aload_n 0, 1) := by decide +kernel
theorem dX6_cellOf_73 : decode cX6_cellOf 73 = .ok (.getfield 16, 3) := by decide +kernel
theorem dX6_cellOf_76 : decode cX6_cellOf 76 = .ok (.iload_n 1, 1) := by decide +kernel
theorem dX6_cellOf_77 : decode cX6_cellOf 77 = .ok (.iaload, 1) := by decide +kernel
theorem dX6_cellOf_78 : decode cX6_cellOf 78 = .ok (.goto 9, 3) := by decide +kernel
theorem dX6_cellOf_81 : decode cX6_cellOf 81 = .ok (.aload_n 0, 1) := by decide +kernel
theorem dX6_cellOf_82 : decode cX6_cellOf 82 = .ok (.getfield 19, 3) := by decide +kernel
theorem dX6_cellOf_85 : decode cX6_cellOf 85 = .ok (.iload_n 1, 1) := by decide +kernel
theorem dX6_cellOf_86 : decode cX6_cellOf 86 = .ok (.iaload, 1) := by decide +kernel
theorem dX6_cellOf_87 : decode cX6_cellOf 87 = .ok (.ireturn, 1) := by decide +kernel
theorem dX6_cellOf_88 : decode cX6_cellOf 88 = .ok (.iload_n 2, 1) := by decide +kernel
theorem dX6_cellOf_89 : decode cX6_cellOf 89 = .ok (.iconst 4, 1) := by decide +kernel
theorem dX6_cellOf_90 : decode cX6_cellOf 90 = .ok (.if_icmp .ne 12, 3) := by decide +kernel
theorem dX6_cellOf_93 : decode cX6_cellOf 93 = .ok (.aload_n 0, 1) := by decide +kernel
theorem dX6_cellOf_94 : decode cX6_cellOf 94 = .ok (.getfield 22, 3) := by decide +kernel
theorem dX6_cellOf_97 : decode cX6_cellOf 97 = .ok (.iload_n 1, 1) := by decide +kernel
theorem dX6_cellOf_98 : decode cX6_cellOf 98 = .ok (.iaload, 1) := by decide +kernel
theorem dX6_cellOf_99 : decode cX6_cellOf 99 = .ok (.goto 35, 3) := by decide +kernel
theorem dX6_cellOf_102 : decode cX6_cellOf 102 = .ok (.iload_n 2, 1) := by decide +kernel
theorem dX6_cellOf_103 : decode cX6_cellOf 103 = .ok (.iconst 5, 1) := by decide +kernel
theorem dX6_cellOf_104 : decode cX6_cellOf 104 = .ok (.if_icmp .ne 11, 3) := by decide +kernel
theorem dX6_cellOf_107 : decode cX6_cellOf 107 = .ok (.aload_n 0, 1) := by decide +kernel
theorem dX6_cellOf_108 : decode cX6_cellOf 108 = .ok (.iload_n 1, 1) := by decide +kernel
theorem dX6_cellOf_109 : decode cX6_cellOf 109 = .ok (.invokevirtual 171, 3) := by decide +kernel
theorem dX6_cellOf_112 : decode cX6_cellOf 112 = .ok (.goto 22, 3) := by decide +kernel
theorem dX6_cellOf_115 : decode cX6_cellOf 115 = .ok (.iload_n 2, 1) := by decide +kernel
theorem dX6_cellOf_116 : decode cX6_cellOf 116 = .ok (.bipush 6, 2) := by decide +kernel
theorem dX6_cellOf_118 : decode cX6_cellOf 118 = .ok (.if_icmp .ne 11, 3) := by decide +kernel
theorem dX6_cellOf_121 : decode cX6_cellOf 121 = .ok (.aload_n 0, 1) := by decide +kernel
theorem dX6_cellOf_122 : decode cX6_cellOf 122 = .ok (.iload_n 1, 1) := by decide +kernel
theorem dX6_cellOf_123 : decode cX6_cellOf 123 = .ok (.invokevirtual 183, 3) := by decide +kernel
theorem dX6_cellOf_126 : decode cX6_cellOf 126 = .ok (.goto 8, 3) := by decide +kernel
theorem dX6_cellOf_129 : decode cX6_cellOf 129 = .ok (.aload_n 0, 1) := by decide +kernel
theorem dX6_cellOf_130 : decode cX6_cellOf 130 = .ok (.iload_n 1, 1) := by decide +kernel
theorem dX6_cellOf_131 : decode cX6_cellOf 131 = .ok (.invokevirtual 186, 3) := by decide +kernel
theorem dX6_cellOf_134 : decode cX6_cellOf 134 = .ok (.ireturn, 1) := by decide +kernel
set_option maxRecDepth 20000 in
theorem ggX6_layerOf_X6_isCell : GoodIn wsX6_layerOf wsX6_isCell := goodIn_r _ [8, 9, 10, 7, 11] (by decide +kernel) (by decide +kernel)
set_option maxRecDepth 20000 in
theorem gX6_layerOf_X6_isCell : GoodIn wsX6_layerOf (va_wsS RX6 102 yX6_isCell wsX6_isCell) := goodIn_app (goodIn_of _ (by decide +kernel)) ggX6_layerOf_X6_isCell
set_option maxRecDepth 20000 in
theorem ggX6_layerOf_X6_within : GoodIn wsX6_layerOf wsX6_within := goodIn_r _ [11] (by decide +kernel) (by decide +kernel)
set_option maxRecDepth 20000 in
theorem gX6_layerOf_X6_within : GoodIn wsX6_layerOf (va_wsS RX6 94 yX6_within wsX6_within) := goodIn_app (goodIn_of _ (by decide +kernel)) ggX6_layerOf_X6_within
set_option maxRecDepth 20000 in
theorem ggX6_layerOf_X6_refused : GoodIn wsX6_layerOf wsX6_refused := goodIn_r _ [15, 16, 28, 29, 30, 31, 32, 33, 34, 35, 36, 37, 38, 39, 40, 41, 42, 43, 44, 45, 46, 47, 48, 49, 50, 51, 52, 53, 54, 55, 56, 57, 58, 59] (by decide +kernel) (by decide +kernel)
set_option maxRecDepth 20000 in
theorem gX6_layerOf_X6_refused : GoodIn wsX6_layerOf (wsV RX6 106 RX6 yX6_refused wsX6_refused) := goodIn_app (goodIn_of _ (by decide +kernel)) ggX6_layerOf_X6_refused
set_option maxRecDepth 20000 in
theorem ggX6_layerOf_X6_degreesOf : GoodIn wsX6_layerOf wsX6_degreesOf := goodIn_r _ [20, 2, 3, 1, 28, 29, 30, 31, 32, 33, 34, 35, 36, 37, 38, 39, 40, 41, 42, 43, 44, 45, 46, 47, 48, 49, 50, 51, 52, 53, 54, 55, 56, 57, 58, 59] (by decide +kernel) (by decide +kernel)
set_option maxRecDepth 20000 in
theorem gX6_layerOf_X6_degreesOf : GoodIn wsX6_layerOf (wsV RX6 138 RX6 yX6_degreesOf wsX6_degreesOf) := goodIn_app (goodIn_of _ (by decide +kernel)) ggX6_layerOf_X6_degreesOf
set_option maxRecDepth 20000 in
theorem ggX6_layerOf_X6_melted : GoodIn wsX6_layerOf wsX6_melted := goodIn_r _ [24, 1, 2, 3, 25, 26, 7, 27, 28, 29, 30, 31, 32, 33, 34, 35, 36, 37, 38, 39, 40, 41, 42, 43, 44, 45, 46, 47, 48, 49, 50, 51, 52, 53, 54, 55, 56, 57, 58, 59] (by decide +kernel) (by decide +kernel)
set_option maxRecDepth 20000 in
theorem gX6_layerOf_X6_melted : GoodIn wsX6_layerOf (wsV RX6 151 RX6 yX6_melted wsX6_melted) := goodIn_app (goodIn_of _ (by decide +kernel)) ggX6_layerOf_X6_melted
theorem dX6_layerOf_0 : decode cX6_layerOf 0 = .ok (.iload_n 1, 1) := by decide +kernel
theorem dX6_layerOf_1 : decode cX6_layerOf 1 = .ok (.invokestatic 102, 3) := by decide +kernel
theorem dX6_layerOf_4 : decode cX6_layerOf 4 = .ok (.ifCond .eq 16, 3) := by decide +kernel
theorem dX6_layerOf_7 : decode cX6_layerOf 7 = .ok (.iload_n 2, 1) := by decide +kernel
theorem dX6_layerOf_8 : decode cX6_layerOf 8 = .ok (.iconst 0, 1) := by decide +kernel
theorem dX6_layerOf_9 : decode cX6_layerOf 9 = .ok (.iconst 4, 1) := by decide +kernel
theorem dX6_layerOf_10 : decode cX6_layerOf 10 = .ok (.invokestatic 94, 3) := by decide +kernel
theorem dX6_layerOf_13 : decode cX6_layerOf 13 = .ok (.ifCond .eq 7, 3) := by decide +kernel
theorem dX6_layerOf_16 : decode cX6_layerOf 16 = .ok (.iconst 1, 1) := by decide +kernel
theorem dX6_layerOf_17 : decode cX6_layerOf 17 = .ok (.goto 4, 3) := by decide +kernel
theorem dX6_layerOf_20 : decode cX6_layerOf 20 = .ok (.iconst 0, 1) := by decide +kernel
theorem dX6_layerOf_21 : decode cX6_layerOf 21 = .ok (.istore 4, 2) := by decide +kernel
theorem dX6_layerOf_23 : decode cX6_layerOf 23 = .ok (.aload_n 0, 1) := by decide +kernel
theorem dX6_layerOf_24 : decode cX6_layerOf 24 = .ok (.iload 4, 2) := by decide +kernel
theorem dX6_layerOf_26 : decode cX6_layerOf 26 = .ok (.ifCond .ne 7, 3) := by decide +kernel
theorem dX6_layerOf_29 : decode cX6_layerOf 29 = .ok (.iconst 1, 1) := by decide +kernel
theorem dX6_layerOf_30 : decode cX6_layerOf 30 = .ok (.goto 17, 3) := by decide +kernel
theorem dX6_layerOf_33 : decode cX6_layerOf 33 = .ok (.iload_n 3, 1) := by decide +kernel
theorem dX6_layerOf_34 : decode cX6_layerOf 34 = .ok (.iconst 0, 1) := by decide +kernel
theorem dX6_layerOf_35 : decode cX6_layerOf 35 = .ok (.iconst 5, 1) := by decide +kernel
theorem dX6_layerOf_36 : decode cX6_layerOf 36 = .ok (.invokestatic 94, 3) := by decide +kernel
theorem dX6_layerOf_39 : decode cX6_layerOf 39 = .ok (.ifCond .ne 7, 3) := by decide +kernel
theorem dX6_layerOf_42 : decode cX6_layerOf 42 = .ok (.iconst 2, 1) := by decide +kernel
theorem dX6_layerOf_43 : decode cX6_layerOf 43 = .ok (.goto 4, 3) := by decide +kernel
theorem dX6_layerOf_46 : decode cX6_layerOf 46 = .ok (.iconst 0, 1) := by decide +kernel
theorem dX6_layerOf_47 : decode cX6_layerOf 47 = .ok (.invokevirtual 106, 3) := by decide +kernel
theorem dX6_layerOf_50 : decode cX6_layerOf 50 = .ok (.ifCond .eq 5, 3) := by decide +kernel
theorem dX6_layerOf_53 : decode cX6_layerOf 53 = .ok (.iconst 0, 1) := by decide +kernel
theorem dX6_layerOf_54 : decode cX6_layerOf 54 = .ok (.ireturn, 1) := by decide +kernel
theorem dX6_layerOf_55 : decode cX6_layerOf 55 = .ok (.iconst 5, 1) := by decide +kernel
theorem dX6_layerOf_56 : decode cX6_layerOf 56 = .ok (.iload_n 1, 1) := by decide +kernel
theorem dX6_layerOf_57 : decode cX6_layerOf 57 = .ok (.imul, 1) := by decide +kernel
theorem dX6_layerOf_58 : decode cX6_layerOf 58 = .ok (.iload_n 2, 1) := by decide +kernel
theorem dX6_layerOf_59 : decode cX6_layerOf 59 = .ok (.iadd, 1) := by decide +kernel
theorem dX6_layerOf_60 : decode cX6_layerOf 60 = .ok (.istore 5, 2) := by decide +kernel
theorem dX6_layerOf_62 : decode cX6_layerOf 62 = .ok (.iload_n 3, 1) := by decide +kernel
theorem dX6_layerOf_63 : decode cX6_layerOf 63 = .ok (.iconst 3, 1) := by decide +kernel
theorem dX6_layerOf_64 : decode cX6_layerOf 64 = .ok (.if_icmp .ge 39, 3) := by decide +kernel
theorem dX6_layerOf_67 : decode cX6_layerOf 67 = .ok (.iload_n 3, 1) := by decide +kernel
theorem dX6_layerOf_68 : decode cX6_layerOf 68 = .ok (.ifCond .ne 12, 3) := by decide +kernel
theorem dX6_layerOf_71 : decode cX6_layerOf 71 = .ok (.aload_n 0, 1) := by decide +kernel
theorem dX6_layerOf_72 : decode cX6_layerOf 72 = .ok (.iload 5, 2) := by decide +kernel
theorem dX6_layerOf_74 : decode cX6_layerOf 74 = .ok (.invokevirtual 138, 3) := by decide +kernel
theorem dX6_layerOf_77 : decode cX6_layerOf 77 = .ok (.goto 25, 3) := by decide +kernel
theorem dX6_layerOf_80 : decode cX6_layerOf 80 = .ok (.iload_n 3, 1) := by decide +kernel
theorem dX6_layerOf_81 : decode cX6_layerOf 81 = .ok (.iconst 1, 1) := by decide +kernel
theorem dX6_layerOf_82 : decode cX6_layerOf 82 = .ok (.if_icmp .ne 13, 3) := by decide +kernel
theorem dX6_layerOf_85 : decode cX6_layerOf 85 = .ok (.aload_n 0, 1) := by decide +kernel
theorem dX6_layerOf_86 : decode cX6_layerOf 86 = .ok (.getfield 34, 3) := by decide +kernel
theorem dX6_layerOf_89 : decode cX6_layerOf 89 = .ok (.iload 5, 2) := by decide +kernel
theorem dX6_layerOf_91 : decode cX6_layerOf 91 = .ok (.iaload, 1) := by decide +kernel
theorem dX6_layerOf_92 : decode cX6_layerOf 92 = .ok (.goto 10, 3) := by decide +kernel
theorem dX6_layerOf_95 : decode cX6_layerOf 95 = .ok (.aload_n 0, 1) := by decide +kernel
theorem dX6_layerOf_96 : decode cX6_layerOf 96 = .ok (.getfield 28, 3) := by decide +kernel
theorem dX6_layerOf_99 : decode cX6_layerOf 99 = .ok (.iload 5, 2) := by decide +kernel
theorem dX6_layerOf_101 : decode cX6_layerOf 101 = .ok (.iaload, 1) := by decide +kernel
theorem dX6_layerOf_102 : decode cX6_layerOf 102 = .ok (.ireturn, 1) := by decide +kernel
theorem dX6_layerOf_103 : decode cX6_layerOf 103 = .ok (.iload_n 3, 1) := by decide +kernel
theorem dX6_layerOf_104 : decode cX6_layerOf 104 = .ok (.iconst 3, 1) := by decide +kernel
theorem dX6_layerOf_105 : decode cX6_layerOf 105 = .ok (.if_icmp .ne 13, 3) := by decide +kernel
theorem dX6_layerOf_108 : decode cX6_layerOf 108 = .ok (.aload_n 0, 1) := by decide +kernel
theorem dX6_layerOf_109 : decode cX6_layerOf 109 = .ok (.getfield 31, 3) := by decide +kernel
theorem dX6_layerOf_112 : decode cX6_layerOf 112 = .ok (.iload 5, 2) := by decide +kernel
theorem dX6_layerOf_114 : decode cX6_layerOf 114 = .ok (.iaload, 1) := by decide +kernel
theorem dX6_layerOf_115 : decode cX6_layerOf 115 = .ok (.goto 24, 3) := by decide +kernel
theorem dX6_layerOf_118 : decode cX6_layerOf 118 = .ok (.iload_n 3, 1) := by decide +kernel
theorem dX6_layerOf_119 : decode cX6_layerOf 119 = .ok (.iconst 4, 1) := by decide +kernel
theorem dX6_layerOf_120 : decode cX6_layerOf 120 = .ok (.if_icmp .ne 13, 3) := by decide +kernel
theorem dX6_layerOf_123 : decode cX6_layerOf 123 = .ok (.aload_n 0, 1) := by decide +kernel
theorem dX6_layerOf_124 : decode cX6_layerOf 124 = .ok (.getfield 37, 3) := by decide +kernel
theorem dX6_layerOf_127 : decode cX6_layerOf 127 = .ok (.iload 5, 2) := by decide +kernel
theorem dX6_layerOf_129 : decode cX6_layerOf 129 = .ok (.iaload, 1) := by decide +kernel
theorem dX6_layerOf_130 : decode cX6_layerOf 130 = .ok (.goto 9, 3) := by decide +kernel
theorem dX6_layerOf_133 : decode cX6_layerOf 133 = .ok (.aload_n 0, 1) := by decide +kernel
theorem dX6_layerOf_134 : decode cX6_layerOf 134 = .ok (.iload 5, 2) := by decide +kernel
theorem dX6_layerOf_136 : decode cX6_layerOf 136 = .ok (.invokevirtual 151, 3) := by decide +kernel
theorem dX6_layerOf_139 : decode cX6_layerOf 139 = .ok (.ireturn, 1) := by decide +kernel
set_option maxRecDepth 20000 in
theorem ggX6_neighbour_X6_isCell : GoodIn wsX6_neighbour wsX6_isCell := goodIn_r _ [4, 5, 6, 3, 7] (by decide +kernel) (by decide +kernel)
set_option maxRecDepth 20000 in
theorem gX6_neighbour_X6_isCell : GoodIn wsX6_neighbour (va_wsS RX6 102 yX6_isCell wsX6_isCell) := goodIn_app (goodIn_of _ (by decide +kernel)) ggX6_neighbour_X6_isCell
set_option maxRecDepth 20000 in
theorem ggX6_neighbour_X6_refused : GoodIn wsX6_neighbour wsX6_refused := goodIn_r _ [11, 12, 16, 17, 18, 19, 20, 21, 22, 23, 24, 25, 26, 27, 28, 29, 30, 31, 32, 33, 34, 35, 36, 37, 38, 39, 40, 41, 42, 43, 44, 45, 46, 47] (by decide +kernel) (by decide +kernel)
set_option maxRecDepth 20000 in
theorem gX6_neighbour_X6_refused : GoodIn wsX6_neighbour (wsV RX6 106 RX6 yX6_refused wsX6_refused) := goodIn_app (goodIn_of _ (by decide +kernel)) ggX6_neighbour_X6_refused
set_option maxRecDepth 20000 in
theorem ggX6_neighbour_X6_beside : GoodIn wsX6_neighbour wsX6_beside := goodIn_r _ [15] (by decide +kernel) (by decide +kernel)
set_option maxRecDepth 20000 in
theorem gX6_neighbour_X6_beside : GoodIn wsX6_neighbour (va_wsS RX6 154 yX6_beside wsX6_beside) := goodIn_app (goodIn_of _ (by decide +kernel)) ggX6_neighbour_X6_beside
theorem dX6_neighbour_0 : decode cX6_neighbour 0 = .ok (.aload_n 0, 1) := by decide +kernel
theorem dX6_neighbour_1 : decode cX6_neighbour 1 = .ok (.iload_n 1, 1) := by decide +kernel
theorem dX6_neighbour_2 : decode cX6_neighbour 2 = .ok (.invokestatic 102, 3) := by decide +kernel
theorem dX6_neighbour_5 : decode cX6_neighbour 5 = .ok (.ifCond .eq 11, 3) := by decide +kernel
theorem dX6_neighbour_8 : decode cX6_neighbour 8 = .ok (.iload_n 2, 1) := by decide +kernel
theorem dX6_neighbour_9 : decode cX6_neighbour 9 = .ok (.ifCond .lt 7, 3) := by decide +kernel
theorem dX6_neighbour_12 : decode cX6_neighbour 12 = .ok (.iconst 0, 1) := by decide +kernel
theorem dX6_neighbour_13 : decode cX6_neighbour 13 = .ok (.goto 4, 3) := by decide +kernel
theorem dX6_neighbour_16 : decode cX6_neighbour 16 = .ok (.iconst 1, 1) := by decide +kernel
theorem dX6_neighbour_17 : decode cX6_neighbour 17 = .ok (.invokevirtual 106, 3) := by decide +kernel
theorem dX6_neighbour_20 : decode cX6_neighbour 20 = .ok (.ifCond .eq 5, 3) := by decide +kernel
theorem dX6_neighbour_23 : decode cX6_neighbour 23 = .ok (.iconst 0, 1) := by decide +kernel
theorem dX6_neighbour_24 : decode cX6_neighbour 24 = .ok (.ireturn, 1) := by decide +kernel
theorem dX6_neighbour_25 : decode cX6_neighbour 25 = .ok (.iconst (-1), 1) := by decide +kernel
theorem dX6_neighbour_26 : decode cX6_neighbour 26 = .ok (.istore_n 3, 1) := by decide +kernel
theorem dX6_neighbour_27 : decode cX6_neighbour 27 = .ok (.iconst 0, 1) := by decide +kernel
theorem dX6_neighbour_28 : decode cX6_neighbour 28 = .ok (.istore 4, 2) := by decide +kernel
theorem dX6_neighbour_30 : decode cX6_neighbour 30 = .ok (.iconst 0, 1) := by decide +kernel
theorem dX6_neighbour_31 : decode cX6_neighbour 31 = .ok (.istore 5, 2) := by decide +kernel
theorem dX6_neighbour_33 : decode cX6_neighbour 33 = .ok (.iload 5, 2) := by decide +kernel
theorem dX6_neighbour_35 : decode cX6_neighbour 35 = .ok (.iconst 4, 1) := by decide +kernel
theorem dX6_neighbour_36 : decode cX6_neighbour 36 = .ok (.if_icmp .ge 52, 3) := by decide +kernel
theorem dX6_neighbour_39 : decode cX6_neighbour 39 = .ok (.iload_n 1, 1) := by decide +kernel
theorem dX6_neighbour_40 : decode cX6_neighbour 40 = .ok (.iload 5, 2) := by decide +kernel
theorem dX6_neighbour_42 : decode cX6_neighbour 42 = .ok (.invokestatic 154, 3) := by decide +kernel
theorem dX6_neighbour_45 : decode cX6_neighbour 45 = .ok (.istore 6, 2) := by decide +kernel
theorem dX6_neighbour_47 : decode cX6_neighbour 47 = .ok (.iload 6, 2) := by decide +kernel
theorem dX6_neighbour_49 : decode cX6_neighbour 49 = .ok (.iconst (-1), 1) := by decide +kernel
theorem dX6_neighbour_50 : decode cX6_neighbour 50 = .ok (.if_icmp .eq 14, 3) := by decide +kernel
theorem dX6_neighbour_53 : decode cX6_neighbour 53 = .ok (.iload 4, 2) := by decide +kernel
theorem dX6_neighbour_55 : decode cX6_neighbour 55 = .ok (.iload_n 2, 1) := by decide +kernel
theorem dX6_neighbour_56 : decode cX6_neighbour 56 = .ok (.if_icmp .ne 8, 3) := by decide +kernel
theorem dX6_neighbour_59 : decode cX6_neighbour 59 = .ok (.iload 6, 2) := by decide +kernel
theorem dX6_neighbour_61 : decode cX6_neighbour 61 = .ok (.goto 4, 3) := by decide +kernel
theorem dX6_neighbour_64 : decode cX6_neighbour 64 = .ok (.iload_n 3, 1) := by decide +kernel
theorem dX6_neighbour_65 : decode cX6_neighbour 65 = .ok (.istore_n 3, 1) := by decide +kernel
theorem dX6_neighbour_66 : decode cX6_neighbour 66 = .ok (.iload 4, 2) := by decide +kernel
theorem dX6_neighbour_68 : decode cX6_neighbour 68 = .ok (.iload 6, 2) := by decide +kernel
theorem dX6_neighbour_70 : decode cX6_neighbour 70 = .ok (.iconst (-1), 1) := by decide +kernel
theorem dX6_neighbour_71 : decode cX6_neighbour 71 = .ok (.if_icmp .eq 7, 3) := by decide +kernel
theorem dX6_neighbour_74 : decode cX6_neighbour 74 = .ok (.iconst 1, 1) := by decide +kernel
theorem dX6_neighbour_75 : decode cX6_neighbour 75 = .ok (.goto 4, 3) := by decide +kernel
theorem dX6_neighbour_78 : decode cX6_neighbour 78 = .ok (.iconst 0, 1) := by decide +kernel
theorem dX6_neighbour_79 : decode cX6_neighbour 79 = .ok (.iadd, 1) := by decide +kernel
theorem dX6_neighbour_80 : decode cX6_neighbour 80 = .ok (.istore 4, 2) := by decide +kernel
theorem dX6_neighbour_82 : decode cX6_neighbour 82 = .ok (.iinc 5 1, 3) := by decide +kernel
theorem dX6_neighbour_85 : decode cX6_neighbour 85 = .ok (.goto (-52), 3) := by decide +kernel
theorem dX6_neighbour_88 : decode cX6_neighbour 88 = .ok (.iload_n 3, 1) := by decide +kernel
theorem dX6_neighbour_89 : decode cX6_neighbour 89 = .ok (.ireturn, 1) := by decide +kernel
set_option maxRecDepth 20000 in
theorem ggX6_lakes_X6_gather : GoodIn wsX6_lakes wsX6_gather := goodIn_r _ [7, 2, 8, 9, 10, 6, 11, 16, 17, 18, 19, 20, 21, 22, 23, 24, 25, 26, 27, 28, 29, 30, 31, 32, 33, 34, 35, 36, 37, 38, 39, 40, 41, 42, 43, 44, 45, 46, 47] (by decide +kernel) (by decide +kernel)
set_option maxRecDepth 20000 in
theorem gX6_lakes_X6_gather : GoodIn wsX6_lakes (wsV RX6 165 RX6 yX6_gather wsX6_gather) := goodIn_app (goodIn_of _ (by decide +kernel)) ggX6_lakes_X6_gather
set_option maxRecDepth 20000 in
theorem ggX6_lakes_X6_isLake : GoodIn wsX6_lakes wsX6_isLake := goodIn_r _ [15, 8, 16, 17, 18, 19, 20, 21, 22, 23, 24, 25, 26, 27, 28, 29, 30, 31, 32, 33, 34, 35, 36, 37, 38, 39, 40, 41, 42, 43, 44, 45, 46, 47] (by decide +kernel) (by decide +kernel)
set_option maxRecDepth 20000 in
theorem gX6_lakes_X6_isLake : GoodIn wsX6_lakes (wsV RX6 142 RX6 yX6_isLake wsX6_isLake) := goodIn_app (goodIn_of _ (by decide +kernel)) ggX6_lakes_X6_isLake
theorem dX6_lakes_0 : decode cX6_lakes 0 = .ok (.aload_n 0, 1) := by decide +kernel
theorem dX6_lakes_1 : decode cX6_lakes 1 = .ok (.iconst 0, 1) := by decide +kernel
theorem dX6_lakes_2 : decode cX6_lakes 2 = .ok (.putfield 90, 3) := by decide +kernel
theorem dX6_lakes_5 : decode cX6_lakes 5 = .ok (.aload_n 0, 1) := by decide +kernel
theorem dX6_lakes_6 : decode cX6_lakes 6 = .ok (.invokevirtual 165, 3) := by decide +kernel
theorem dX6_lakes_9 : decode cX6_lakes 9 = .ok (.iconst 0, 1) := by decide +kernel
theorem dX6_lakes_10 : decode cX6_lakes 10 = .ok (.istore_n 1, 1) := by decide +kernel
theorem dX6_lakes_11 : decode cX6_lakes 11 = .ok (.iconst 0, 1) := by decide +kernel
theorem dX6_lakes_12 : decode cX6_lakes 12 = .ok (.istore_n 2, 1) := by decide +kernel
theorem dX6_lakes_13 : decode cX6_lakes 13 = .ok (.iload_n 2, 1) := by decide +kernel
theorem dX6_lakes_14 : decode cX6_lakes 14 = .ok (.bipush 25, 2) := by decide +kernel
theorem dX6_lakes_16 : decode cX6_lakes 16 = .ok (.if_icmp .ge 69, 3) := by decide +kernel
theorem dX6_lakes_19 : decode cX6_lakes 19 = .ok (.iconst 0, 1) := by decide +kernel
theorem dX6_lakes_20 : decode cX6_lakes 20 = .ok (.istore_n 3, 1) := by decide +kernel
theorem dX6_lakes_21 : decode cX6_lakes 21 = .ok (.iconst 0, 1) := by decide +kernel
theorem dX6_lakes_22 : decode cX6_lakes 22 = .ok (.istore 4, 2) := by decide +kernel
theorem dX6_lakes_24 : decode cX6_lakes 24 = .ok (.iload 4, 2) := by decide +kernel
theorem dX6_lakes_26 : decode cX6_lakes 26 = .ok (.bipush 25, 2) := by decide +kernel
theorem dX6_lakes_28 : decode cX6_lakes 28 = .ok (.if_icmp .ge 39, 3) := by decide +kernel
theorem dX6_lakes_31 : decode cX6_lakes 31 = .ok (.iload_n 3, 1) := by decide +kernel
theorem dX6_lakes_32 : decode cX6_lakes 32 = .ok (.ifCond .ne 23, 3) := by decide +kernel
theorem dX6_lakes_35 : decode cX6_lakes 35 = .ok (.aload_n 0, 1) := by decide +kernel
theorem dX6_lakes_36 : decode cX6_lakes 36 = .ok (.getfield 25, 3) := by decide +kernel
theorem dX6_lakes_39 : decode cX6_lakes 39 = .ok (.iload 4, 2) := by decide +kernel
theorem dX6_lakes_41 : decode cX6_lakes 41 = .ok (.iaload, 1) := by decide +kernel
theorem dX6_lakes_42 : decode cX6_lakes 42 = .ok (.iload_n 2, 1) := by decide +kernel
theorem dX6_lakes_43 : decode cX6_lakes 43 = .ok (.if_icmp .ne 16, 3) := by decide +kernel
theorem dX6_lakes_46 : decode cX6_lakes 46 = .ok (.aload_n 0, 1) := by decide +kernel
theorem dX6_lakes_47 : decode cX6_lakes 47 = .ok (.iload 4, 2) := by decide +kernel
theorem dX6_lakes_49 : decode cX6_lakes 49 = .ok (.invokevirtual 142, 3) := by decide +kernel
theorem dX6_lakes_52 : decode cX6_lakes 52 = .ok (.ifCond .eq 7, 3) := by decide +kernel
theorem dX6_lakes_55 : decode cX6_lakes 55 = .ok (.iconst 1, 1) := by decide +kernel
theorem dX6_lakes_56 : decode cX6_lakes 56 = .ok (.goto 4, 3) := by decide +kernel
theorem dX6_lakes_59 : decode cX6_lakes 59 = .ok (.iconst 0, 1) := by decide +kernel
theorem dX6_lakes_60 : decode cX6_lakes 60 = .ok (.istore_n 3, 1) := by decide +kernel
theorem dX6_lakes_61 : decode cX6_lakes 61 = .ok (.iinc 4 1, 3) := by decide +kernel
theorem dX6_lakes_64 : decode cX6_lakes 64 = .ok (.goto (-40), 3) := by decide +kernel
theorem dX6_lakes_67 : decode cX6_lakes 67 = .ok (.iload_n 1, 1) := by decide +kernel
theorem dX6_lakes_68 : decode cX6_lakes 68 = .ok (.iload_n 3, 1) := by decide +kernel
theorem dX6_lakes_69 : decode cX6_lakes 69 = .ok (.ifCond .eq 7, 3) := by decide +kernel
theorem dX6_lakes_72 : decode cX6_lakes 72 = .ok (.iconst 1, 1) := by decide +kernel
theorem dX6_lakes_73 : decode cX6_lakes 73 = .ok (.goto 4, 3) := by decide +kernel
theorem dX6_lakes_76 : decode cX6_lakes 76 = .ok (.iconst 0, 1) := by decide +kernel
theorem dX6_lakes_77 : decode cX6_lakes 77 = .ok (.iadd, 1) := by decide +kernel
theorem dX6_lakes_78 : decode cX6_lakes 78 = .ok (.istore_n 1, 1) := by decide +kernel
theorem dX6_lakes_79 : decode cX6_lakes 79 = .ok (.iinc 2 1, 3) := by decide +kernel
theorem dX6_lakes_82 : decode cX6_lakes 82 = .ok (.goto (-69), 3) := by decide +kernel
theorem dX6_lakes_85 : decode cX6_lakes 85 = .ok (.iload_n 1, 1) := by decide +kernel
theorem dX6_lakes_86 : decode cX6_lakes 86 = .ok (.ireturn, 1) := by decide +kernel
set_option maxRecDepth 20000 in
theorem ggX6_houseOf_X6_isHouse : GoodIn wsX6_houseOf wsX6_isHouse := goodIn_r _ [9, 10, 11, 12, 8, 13, 31, 32, 33, 34, 35, 36, 37, 38, 39, 40, 41, 42, 43, 44, 45, 46, 47, 48, 49, 50, 51, 52, 53, 54, 55, 56, 57, 58, 59, 60, 61, 62] (by decide +kernel) (by decide +kernel)
set_option maxRecDepth 20000 in
theorem gX6_houseOf_X6_isHouse : GoodIn wsX6_houseOf (wsV RX6 174 RX6 yX6_isHouse wsX6_isHouse) := goodIn_app (goodIn_of _ (by decide +kernel)) ggX6_houseOf_X6_isHouse
set_option maxRecDepth 20000 in
theorem ggX6_houseOf_X6_within : GoodIn wsX6_houseOf wsX6_within := goodIn_r _ [13] (by decide +kernel) (by decide +kernel)
set_option maxRecDepth 20000 in
theorem gX6_houseOf_X6_within : GoodIn wsX6_houseOf (va_wsS RX6 94 yX6_within wsX6_within) := goodIn_app (goodIn_of _ (by decide +kernel)) ggX6_houseOf_X6_within
set_option maxRecDepth 20000 in
theorem ggX6_houseOf_X6_refused : GoodIn wsX6_houseOf wsX6_refused := goodIn_r _ [17, 18, 31, 32, 33, 34, 35, 36, 37, 38, 39, 40, 41, 42, 43, 44, 45, 46, 47, 48, 49, 50, 51, 52, 53, 54, 55, 56, 57, 58, 59, 60, 61, 62] (by decide +kernel) (by decide +kernel)
set_option maxRecDepth 20000 in
theorem gX6_houseOf_X6_refused : GoodIn wsX6_houseOf (wsV RX6 106 RX6 yX6_refused wsX6_refused) := goodIn_app (goodIn_of _ (by decide +kernel)) ggX6_houseOf_X6_refused
set_option maxRecDepth 20000 in
theorem ggX6_houseOf_X6_worth : GoodIn wsX6_houseOf wsX6_worth := goodIn_r _ [22, 4, 23, 24, 25, 1, 26, 27, 2, 3, 28, 29, 8, 30, 31, 32, 33, 34, 35, 36, 37, 38, 39, 40, 41, 42, 43, 44, 45, 46, 47, 48, 49, 50, 51, 52, 53, 54, 55, 56, 57, 58, 59, 60, 61, 62] (by decide +kernel) (by decide +kernel)
set_option maxRecDepth 20000 in
theorem gX6_houseOf_X6_worth : GoodIn wsX6_houseOf (wsV RX6 180 RX6 yX6_worth wsX6_worth) := goodIn_app (goodIn_of _ (by decide +kernel)) ggX6_houseOf_X6_worth
theorem dX6_houseOf_0 : decode cX6_houseOf 0 = .ok (.aload_n 0, 1) := by decide +kernel
theorem dX6_houseOf_1 : decode cX6_houseOf 1 = .ok (.aload_n 0, 1) := by decide +kernel
theorem dX6_houseOf_2 : decode cX6_houseOf 2 = .ok (.iload_n 1, 1) := by decide +kernel
theorem dX6_houseOf_3 : decode cX6_houseOf 3 = .ok (.invokevirtual 174, 3) := by decide +kernel
theorem dX6_houseOf_6 : decode cX6_houseOf 6 = .ok (.ifCond .ne 7, 3) := by decide +kernel
theorem dX6_houseOf_9 : decode cX6_houseOf 9 = .ok (.iconst 1, 1) := by decide +kernel
theorem dX6_houseOf_10 : decode cX6_houseOf 10 = .ok (.goto 17, 3) := by decide +kernel
theorem dX6_houseOf_13 : decode cX6_houseOf 13 = .ok (.iload_n 2, 1) := by decide +kernel
theorem dX6_houseOf_14 : decode cX6_houseOf 14 = .ok (.iconst 0, 1) := by decide +kernel
theorem dX6_houseOf_15 : decode cX6_houseOf 15 = .ok (.iconst 4, 1) := by decide +kernel
theorem dX6_houseOf_16 : decode cX6_houseOf 16 = .ok (.invokestatic 94, 3) := by decide +kernel
theorem dX6_houseOf_19 : decode cX6_houseOf 19 = .ok (.ifCond .ne 7, 3) := by decide +kernel
theorem dX6_houseOf_22 : decode cX6_houseOf 22 = .ok (.iconst 2, 1) := by decide +kernel
theorem dX6_houseOf_23 : decode cX6_houseOf 23 = .ok (.goto 4, 3) := by decide +kernel
theorem dX6_houseOf_26 : decode cX6_houseOf 26 = .ok (.iconst 0, 1) := by decide +kernel
theorem dX6_houseOf_27 : decode cX6_houseOf 27 = .ok (.invokevirtual 106, 3) := by decide +kernel
theorem dX6_houseOf_30 : decode cX6_houseOf 30 = .ok (.ifCond .eq 5, 3) := by decide +kernel
theorem dX6_houseOf_33 : decode cX6_houseOf 33 = .ok (.iconst 0, 1) := by decide +kernel
theorem dX6_houseOf_34 : decode cX6_houseOf 34 = .ok (.ireturn, 1) := by decide +kernel
theorem dX6_houseOf_35 : decode cX6_houseOf 35 = .ok (.iload_n 2, 1) := by decide +kernel
theorem dX6_houseOf_36 : decode cX6_houseOf 36 = .ok (.iconst 2, 1) := by decide +kernel
theorem dX6_houseOf_37 : decode cX6_houseOf 37 = .ok (.if_icmp .ge 23, 3) := by decide +kernel
theorem dX6_houseOf_40 : decode cX6_houseOf 40 = .ok (.iload_n 2, 1) := by decide +kernel
theorem dX6_houseOf_41 : decode cX6_houseOf 41 = .ok (.ifCond .ne 12, 3) := by decide +kernel
theorem dX6_houseOf_44 : decode cX6_houseOf 44 = .ok (.aload_n 0, 1) := by decide +kernel
theorem dX6_houseOf_45 : decode cX6_houseOf 45 = .ok (.getfield 43, 3) := by decide +kernel
theorem dX6_houseOf_48 : decode cX6_houseOf 48 = .ok (.iload_n 1, 1) := by decide +kernel
theorem dX6_houseOf_49 : decode cX6_houseOf 49 = .ok (.iaload, 1) := by decide +kernel
theorem dX6_houseOf_50 : decode cX6_houseOf 50 = .ok (.goto 9, 3) := by decide +kernel
theorem dX6_houseOf_53 : decode cX6_houseOf 53 = .ok (.aload_n 0, 1) := by decide +kernel
theorem dX6_houseOf_54 : decode cX6_houseOf 54 = .ok (.getfield 46, 3) := by decide +kernel
theorem dX6_houseOf_57 : decode cX6_houseOf 57 = .ok (.iload_n 1, 1) := by decide +kernel
theorem dX6_houseOf_58 : decode cX6_houseOf 58 = .ok (.iaload, 1) := by decide +kernel
theorem dX6_houseOf_59 : decode cX6_houseOf 59 = .ok (.ireturn, 1) := by decide +kernel
theorem dX6_houseOf_60 : decode cX6_houseOf 60 = .ok (.iload_n 2, 1) := by decide +kernel
theorem dX6_houseOf_61 : decode cX6_houseOf 61 = .ok (.iconst 2, 1) := by decide +kernel
theorem dX6_houseOf_62 : decode cX6_houseOf 62 = .ok (.if_icmp .ne 12, 3) := by decide +kernel
theorem dX6_houseOf_65 : decode cX6_houseOf 65 = .ok (.aload_n 0, 1) := by decide +kernel
theorem dX6_houseOf_66 : decode cX6_houseOf 66 = .ok (.getfield 53, 3) := by decide +kernel
theorem dX6_houseOf_69 : decode cX6_houseOf 69 = .ok (.iload_n 1, 1) := by decide +kernel
theorem dX6_houseOf_70 : decode cX6_houseOf 70 = .ok (.iaload, 1) := by decide +kernel
theorem dX6_houseOf_71 : decode cX6_houseOf 71 = .ok (.goto 22, 3) := by decide +kernel
theorem dX6_houseOf_74 : decode cX6_houseOf 74 = .ok (.iload_n 2, 1) := by decide +kernel
theorem dX6_houseOf_75 : decode cX6_houseOf 75 = .ok (.iconst 3, 1) := by decide +kernel
theorem dX6_houseOf_76 : decode cX6_houseOf 76 = .ok (.if_icmp .ne 12, 3) := by decide +kernel
theorem dX6_houseOf_79 : decode cX6_houseOf 79 = .ok (.aload_n 0, 1) := by decide +kernel
theorem dX6_houseOf_80 : decode cX6_houseOf 80 = .ok (.getfield 56, 3) := by decide +kernel
theorem dX6_houseOf_83 : decode cX6_houseOf 83 = .ok (.iload_n 1, 1) := by decide +kernel
theorem dX6_houseOf_84 : decode cX6_houseOf 84 = .ok (.iaload, 1) := by decide +kernel
theorem dX6_houseOf_85 : decode cX6_houseOf 85 = .ok (.goto 8, 3) := by decide +kernel
theorem dX6_houseOf_88 : decode cX6_houseOf 88 = .ok (.aload_n 0, 1) := by decide +kernel
theorem dX6_houseOf_89 : decode cX6_houseOf 89 = .ok (.iload_n 1, 1) := by decide +kernel
theorem dX6_houseOf_90 : decode cX6_houseOf 90 = .ok (.invokevirtual 180, 3) := by decide +kernel
theorem dX6_houseOf_93 : decode cX6_houseOf 93 = .ok (.ireturn, 1) := by decide +kernel
set_option maxRecDepth 20000 in
theorem ggX6_reading_X6_within : GoodIn wsX6_reading wsX6_within := goodIn_r _ [8] (by decide +kernel) (by decide +kernel)
set_option maxRecDepth 20000 in
theorem gX6_reading_X6_within : GoodIn wsX6_reading (va_wsS RX6 94 yX6_within wsX6_within) := goodIn_app (goodIn_of _ (by decide +kernel)) ggX6_reading_X6_within
set_option maxRecDepth 20000 in
theorem ggX6_reading_X6_refused : GoodIn wsX6_reading wsX6_refused := goodIn_r _ [12, 13, 14, 15, 16, 17, 18, 19, 20, 21, 22, 23, 24, 25, 26, 27, 28, 29, 30, 31, 32, 33, 34, 35, 36, 37, 38, 39, 40, 41, 42, 43, 44, 45] (by decide +kernel) (by decide +kernel)
set_option maxRecDepth 20000 in
theorem gX6_reading_X6_refused : GoodIn wsX6_reading (wsV RX6 106 RX6 yX6_refused wsX6_refused) := goodIn_app (goodIn_of _ (by decide +kernel)) ggX6_reading_X6_refused
theorem dX6_reading_0 : decode cX6_reading 0 = .ok (.iload_n 1, 1) := by decide +kernel
theorem dX6_reading_1 : decode cX6_reading 1 = .ok (.iconst 0, 1) := by decide +kernel
theorem dX6_reading_2 : decode cX6_reading 2 = .ok (.aload_n 0, 1) := by decide +kernel
theorem dX6_reading_3 : decode cX6_reading 3 = .ok (.getfield 135, 3) := by decide +kernel
theorem dX6_reading_6 : decode cX6_reading 6 = .ok (.iconst 1, 1) := by decide +kernel
theorem dX6_reading_7 : decode cX6_reading 7 = .ok (.isub, 1) := by decide +kernel
theorem dX6_reading_8 : decode cX6_reading 8 = .ok (.invokestatic 94, 3) := by decide +kernel
theorem dX6_reading_11 : decode cX6_reading 11 = .ok (.ifCond .eq 35, 3) := by decide +kernel
theorem dX6_reading_14 : decode cX6_reading 14 = .ok (.iload_n 3, 1) := by decide +kernel
theorem dX6_reading_15 : decode cX6_reading 15 = .ok (.iconst 0, 1) := by decide +kernel
theorem dX6_reading_16 : decode cX6_reading 16 = .ok (.iconst 4, 1) := by decide +kernel
theorem dX6_reading_17 : decode cX6_reading 17 = .ok (.invokestatic 94, 3) := by decide +kernel
theorem dX6_reading_20 : decode cX6_reading 20 = .ok (.ifCond .eq 26, 3) := by decide +kernel
theorem dX6_reading_23 : decode cX6_reading 23 = .ok (.iload_n 2, 1) := by decide +kernel
theorem dX6_reading_24 : decode cX6_reading 24 = .ok (.aload_n 0, 1) := by decide +kernel
theorem dX6_reading_25 : decode cX6_reading 25 = .ok (.getfield 65, 3) := by decide +kernel
theorem dX6_reading_28 : decode cX6_reading 28 = .ok (.iload_n 1, 1) := by decide +kernel
theorem dX6_reading_29 : decode cX6_reading 29 = .ok (.iaload, 1) := by decide +kernel
theorem dX6_reading_30 : decode cX6_reading 30 = .ok (.aload_n 0, 1) := by decide +kernel
theorem dX6_reading_31 : decode cX6_reading 31 = .ok (.getfield 109, 3) := by decide +kernel
theorem dX6_reading_34 : decode cX6_reading 34 = .ok (.iconst 1, 1) := by decide +kernel
theorem dX6_reading_35 : decode cX6_reading 35 = .ok (.isub, 1) := by decide +kernel
theorem dX6_reading_36 : decode cX6_reading 36 = .ok (.invokestatic 94, 3) := by decide +kernel
theorem dX6_reading_39 : decode cX6_reading 39 = .ok (.ifCond .eq 7, 3) := by decide +kernel
theorem dX6_reading_42 : decode cX6_reading 42 = .ok (.iconst 1, 1) := by decide +kernel
theorem dX6_reading_43 : decode cX6_reading 43 = .ok (.goto 4, 3) := by decide +kernel
theorem dX6_reading_46 : decode cX6_reading 46 = .ok (.iconst 0, 1) := by decide +kernel
theorem dX6_reading_47 : decode cX6_reading 47 = .ok (.istore 4, 2) := by decide +kernel
theorem dX6_reading_49 : decode cX6_reading 49 = .ok (.aload_n 0, 1) := by decide +kernel
theorem dX6_reading_50 : decode cX6_reading 50 = .ok (.iload 4, 2) := by decide +kernel
theorem dX6_reading_52 : decode cX6_reading 52 = .ok (.ifCond .eq 7, 3) := by decide +kernel
theorem dX6_reading_55 : decode cX6_reading 55 = .ok (.iconst 0, 1) := by decide +kernel
theorem dX6_reading_56 : decode cX6_reading 56 = .ok (.goto 4, 3) := by decide +kernel
theorem dX6_reading_59 : decode cX6_reading 59 = .ok (.iconst 1, 1) := by decide +kernel
theorem dX6_reading_60 : decode cX6_reading 60 = .ok (.invokevirtual 106, 3) := by decide +kernel
theorem dX6_reading_63 : decode cX6_reading 63 = .ok (.ifCond .eq 7, 3) := by decide +kernel
theorem dX6_reading_66 : decode cX6_reading 66 = .ok (.iconst 0, 1) := by decide +kernel
theorem dX6_reading_67 : decode cX6_reading 67 = .ok (.goto 19, 3) := by decide +kernel
theorem dX6_reading_70 : decode cX6_reading 70 = .ok (.aload_n 0, 1) := by decide +kernel
theorem dX6_reading_71 : decode cX6_reading 71 = .ok (.getfield 68, 3) := by decide +kernel
theorem dX6_reading_74 : decode cX6_reading 74 = .ok (.sipush 3000, 3) := by decide +kernel
theorem dX6_reading_77 : decode cX6_reading 77 = .ok (.iload_n 1, 1) := by decide +kernel
theorem dX6_reading_78 : decode cX6_reading 78 = .ok (.imul, 1) := by decide +kernel
theorem dX6_reading_79 : decode cX6_reading 79 = .ok (.iconst 5, 1) := by decide +kernel
theorem dX6_reading_80 : decode cX6_reading 80 = .ok (.iload_n 2, 1) := by decide +kernel
theorem dX6_reading_81 : decode cX6_reading 81 = .ok (.imul, 1) := by decide +kernel
theorem dX6_reading_82 : decode cX6_reading 82 = .ok (.iadd, 1) := by decide +kernel
theorem dX6_reading_83 : decode cX6_reading 83 = .ok (.iload_n 3, 1) := by decide +kernel
theorem dX6_reading_84 : decode cX6_reading 84 = .ok (.iadd, 1) := by decide +kernel
theorem dX6_reading_85 : decode cX6_reading 85 = .ok (.iaload, 1) := by decide +kernel
theorem dX6_reading_86 : decode cX6_reading 86 = .ok (.ireturn, 1) := by decide +kernel
set_option maxRecDepth 20000 in
theorem ggX6_claimOf_X6_within : GoodIn wsX6_claimOf wsX6_within := goodIn_r _ [6] (by decide +kernel) (by decide +kernel)
set_option maxRecDepth 20000 in
theorem gX6_claimOf_X6_within : GoodIn wsX6_claimOf (va_wsS RX6 94 yX6_within wsX6_within) := goodIn_app (goodIn_of _ (by decide +kernel)) ggX6_claimOf_X6_within
set_option maxRecDepth 20000 in
theorem ggX6_claimOf_X6_refused : GoodIn wsX6_claimOf wsX6_refused := goodIn_r _ [10, 11, 12, 13, 14, 15, 16, 17, 18, 19, 20, 21, 22, 23, 24, 25, 26, 27, 28, 29, 30, 31, 32, 33, 34, 35, 36, 37, 38, 39, 40, 41, 42, 43] (by decide +kernel) (by decide +kernel)
set_option maxRecDepth 20000 in
theorem gX6_claimOf_X6_refused : GoodIn wsX6_claimOf (wsV RX6 106 RX6 yX6_refused wsX6_refused) := goodIn_app (goodIn_of _ (by decide +kernel)) ggX6_claimOf_X6_refused
theorem dX6_claimOf_0 : decode cX6_claimOf 0 = .ok (.aload_n 0, 1) := by decide +kernel
theorem dX6_claimOf_1 : decode cX6_claimOf 1 = .ok (.iload_n 1, 1) := by decide +kernel
theorem dX6_claimOf_2 : decode cX6_claimOf 2 = .ok (.iconst 0, 1) := by decide +kernel
theorem dX6_claimOf_3 : decode cX6_claimOf 3 = .ok (.aload_n 0, 1) := by decide +kernel
theorem dX6_claimOf_4 : decode cX6_claimOf 4 = .ok (.getfield 177, 3) := by decide +kernel
theorem dX6_claimOf_7 : decode cX6_claimOf 7 = .ok (.iconst 1, 1) := by decide +kernel
theorem dX6_claimOf_8 : decode cX6_claimOf 8 = .ok (.isub, 1) := by decide +kernel
theorem dX6_claimOf_9 : decode cX6_claimOf 9 = .ok (.invokestatic 94, 3) := by decide +kernel
theorem dX6_claimOf_12 : decode cX6_claimOf 12 = .ok (.ifCond .eq 7, 3) := by decide +kernel
theorem dX6_claimOf_15 : decode cX6_claimOf 15 = .ok (.iconst 0, 1) := by decide +kernel
theorem dX6_claimOf_16 : decode cX6_claimOf 16 = .ok (.goto 4, 3) := by decide +kernel
theorem dX6_claimOf_19 : decode cX6_claimOf 19 = .ok (.iconst 1, 1) := by decide +kernel
theorem dX6_claimOf_20 : decode cX6_claimOf 20 = .ok (.invokevirtual 106, 3) := by decide +kernel
theorem dX6_claimOf_23 : decode cX6_claimOf 23 = .ok (.ifCond .eq 7, 3) := by decide +kernel
theorem dX6_claimOf_26 : decode cX6_claimOf 26 = .ok (.iconst 0, 1) := by decide +kernel
theorem dX6_claimOf_27 : decode cX6_claimOf 27 = .ok (.goto 9, 3) := by decide +kernel
theorem dX6_claimOf_30 : decode cX6_claimOf 30 = .ok (.aload_n 0, 1) := by decide +kernel
theorem dX6_claimOf_31 : decode cX6_claimOf 31 = .ok (.getfield 71, 3) := by decide +kernel
theorem dX6_claimOf_34 : decode cX6_claimOf 34 = .ok (.iload_n 1, 1) := by decide +kernel
theorem dX6_claimOf_35 : decode cX6_claimOf 35 = .ok (.iaload, 1) := by decide +kernel
theorem dX6_claimOf_36 : decode cX6_claimOf 36 = .ok (.ireturn, 1) := by decide +kernel
set_option maxRecDepth 20000 in
theorem ggX6_claimAnew_X6_claimOf : GoodIn wsX6_claimAnew wsX6_claimOf := goodIn_r _ [5, 6, 7, 8, 9, 4, 10, 11, 12, 13, 14, 15, 16, 17, 18, 19, 20, 21, 22, 23, 24, 25, 26, 27, 28, 29, 30, 31, 32, 33, 34, 35, 36, 37, 38, 39, 40, 41, 42, 43, 44, 45, 46, 47] (by decide +kernel) (by decide +kernel)
set_option maxRecDepth 20000 in
theorem gX6_claimAnew_X6_claimOf : GoodIn wsX6_claimAnew (wsV RX6 189 RX6 yX6_claimOf wsX6_claimOf) := goodIn_app (goodIn_of _ (by decide +kernel)) ggX6_claimAnew_X6_claimOf
theorem dX6_claimAnew_0 : decode cX6_claimAnew 0 = .ok (.aload_n 0, 1) := by decide +kernel
theorem dX6_claimAnew_1 : decode cX6_claimAnew 1 = .ok (.iload_n 1, 1) := by decide +kernel
theorem dX6_claimAnew_2 : decode cX6_claimAnew 2 = .ok (.invokevirtual 189, 3) := by decide +kernel
theorem dX6_claimAnew_5 : decode cX6_claimAnew 5 = .ok (.ireturn, 1) := by decide +kernel
theorem dX6_inLand_0 : decode cX6_inLand 0 = .ok (.lconst 0, 1) := by decide +kernel
theorem dX6_inLand_1 : decode cX6_inLand 1 = .ok (.lstore_n 2, 1) := by decide +kernel
theorem dX6_inLand_2 : decode cX6_inLand 2 = .ok (.iconst 0, 1) := by decide +kernel
theorem dX6_inLand_3 : decode cX6_inLand 3 = .ok (.istore 4, 2) := by decide +kernel
theorem dX6_inLand_5 : decode cX6_inLand 5 = .ok (.iload 4, 2) := by decide +kernel
theorem dX6_inLand_7 : decode cX6_inLand 7 = .ok (.bipush 125, 2) := by decide +kernel
theorem dX6_inLand_9 : decode cX6_inLand 9 = .ok (.if_icmp .ge 59, 3) := by decide +kernel
theorem dX6_inLand_12 : decode cX6_inLand 12 = .ok (.lload_n 2, 1) := by decide +kernel
theorem dX6_inLand_13 : decode cX6_inLand 13 = .ok (.iload_n 1, 1) := by decide +kernel
theorem dX6_inLand_14 : decode cX6_inLand 14 = .ok (.ifCond .ne 14, 3) := by decide +kernel
theorem dX6_inLand_17 : decode cX6_inLand 17 = .ok (.aload_n 0, 1) := by decide +kernel
theorem dX6_inLand_18 : decode cX6_inLand 18 = .ok (.getfield 34, 3) := by decide +kernel
theorem dX6_inLand_21 : decode cX6_inLand 21 = .ok (.iload 4, 2) := by decide +kernel
theorem dX6_inLand_23 : decode cX6_inLand 23 = .ok (.iaload, 1) := by decide +kernel
theorem dX6_inLand_24 : decode cX6_inLand 24 = .ok (.i2l, 1) := by decide +kernel
theorem dX6_inLand_25 : decode cX6_inLand 25 = .ok (.goto 35, 3) := by decide +kernel
theorem dX6_inLand_28 : decode cX6_inLand 28 = .ok (.iload_n 1, 1) := by decide +kernel
theorem dX6_inLand_29 : decode cX6_inLand 29 = .ok (.iconst 1, 1) := by decide +kernel
theorem dX6_inLand_30 : decode cX6_inLand 30 = .ok (.if_icmp .ne 22, 3) := by decide +kernel
theorem dX6_inLand_33 : decode cX6_inLand 33 = .ok (.aload_n 0, 1) := by decide +kernel
theorem dX6_inLand_34 : decode cX6_inLand 34 = .ok (.getfield 28, 3) := by decide +kernel
theorem dX6_inLand_37 : decode cX6_inLand 37 = .ok (.iload 4, 2) := by decide +kernel
theorem dX6_inLand_39 : decode cX6_inLand 39 = .ok (.iaload, 1) := by decide +kernel
theorem dX6_inLand_40 : decode cX6_inLand 40 = .ok (.aload_n 0, 1) := by decide +kernel
theorem dX6_inLand_41 : decode cX6_inLand 41 = .ok (.getfield 31, 3) := by decide +kernel
theorem dX6_inLand_44 : decode cX6_inLand 44 = .ok (.iload 4, 2) := by decide +kernel
theorem dX6_inLand_46 : decode cX6_inLand 46 = .ok (.iaload, 1) := by decide +kernel
theorem dX6_inLand_47 : decode cX6_inLand 47 = .ok (.iadd, 1) := by decide +kernel
theorem dX6_inLand_48 : decode cX6_inLand 48 = .ok (.i2l, 1) := by decide +kernel
theorem dX6_inLand_49 : decode cX6_inLand 49 = .ok (.goto 11, 3) := by decide +kernel
theorem dX6_inLand_52 : decode cX6_inLand 52 = .ok (.aload_n 0, 1) := by decide +kernel
theorem dX6_inLand_53 : decode cX6_inLand 53 = .ok (.getfield 37, 3) := by decide +kernel
theorem dX6_inLand_56 : decode cX6_inLand 56 = .ok (.iload 4, 2) := by decide +kernel
theorem dX6_inLand_58 : decode cX6_inLand 58 = .ok (.iaload, 1) := by decide +kernel
theorem dX6_inLand_59 : decode cX6_inLand 59 = .ok (.i2l, 1) := by decide +kernel
theorem dX6_inLand_60 : decode cX6_inLand 60 = .ok (.ladd, 1) := by decide +kernel
theorem dX6_inLand_61 : decode cX6_inLand 61 = .ok (.lstore_n 2, 1) := by decide +kernel
theorem dX6_inLand_62 : decode cX6_inLand 62 = .ok (.iinc 4 1, 3) := by decide +kernel
theorem dX6_inLand_65 : decode cX6_inLand 65 = .ok (.goto (-60), 3) := by decide +kernel
theorem dX6_inLand_68 : decode cX6_inLand 68 = .ok (.iconst 0, 1) := by decide +kernel
theorem dX6_inLand_69 : decode cX6_inLand 69 = .ok (.istore 4, 2) := by decide +kernel
theorem dX6_inLand_71 : decode cX6_inLand 71 = .ok (.iload 4, 2) := by decide +kernel
theorem dX6_inLand_73 : decode cX6_inLand 73 = .ok (.bipush 25, 2) := by decide +kernel
theorem dX6_inLand_75 : decode cX6_inLand 75 = .ok (.if_icmp .ge 48, 3) := by decide +kernel
theorem dX6_inLand_78 : decode cX6_inLand 78 = .ok (.lload_n 2, 1) := by decide +kernel
theorem dX6_inLand_79 : decode cX6_inLand 79 = .ok (.iload_n 1, 1) := by decide +kernel
theorem dX6_inLand_80 : decode cX6_inLand 80 = .ok (.ifCond .ne 18, 3) := by decide +kernel
theorem dX6_inLand_83 : decode cX6_inLand 83 = .ok (.sipush 1000, 3) := by decide +kernel
theorem dX6_inLand_86 : decode cX6_inLand 86 = .ok (.aload_n 0, 1) := by decide +kernel
theorem dX6_inLand_87 : decode cX6_inLand 87 = .ok (.getfield 13, 3) := by decide +kernel
theorem dX6_inLand_90 : decode cX6_inLand 90 = .ok (.iload 4, 2) := by decide +kernel
theorem dX6_inLand_92 : decode cX6_inLand 92 = .ok (.iaload, 1) := by decide +kernel
theorem dX6_inLand_93 : decode cX6_inLand 93 = .ok (.imul, 1) := by decide +kernel
theorem dX6_inLand_94 : decode cX6_inLand 94 = .ok (.i2l, 1) := by decide +kernel
theorem dX6_inLand_95 : decode cX6_inLand 95 = .ok (.goto 20, 3) := by decide +kernel
theorem dX6_inLand_98 : decode cX6_inLand 98 = .ok (.iload_n 1, 1) := by decide +kernel
theorem dX6_inLand_99 : decode cX6_inLand 99 = .ok (.iconst 1, 1) := by decide +kernel
theorem dX6_inLand_100 : decode cX6_inLand 100 = .ok (.if_icmp .ne 14, 3) := by decide +kernel
theorem dX6_inLand_103 : decode cX6_inLand 103 = .ok (.aload_n 0, 1) := by decide +kernel
theorem dX6_inLand_104 : decode cX6_inLand 104 = .ok (.getfield 13, 3) := by decide +kernel
theorem dX6_inLand_107 : decode cX6_inLand 107 = .ok (.iload 4, 2) := by decide +kernel
theorem dX6_inLand_109 : decode cX6_inLand 109 = .ok (.iaload, 1) := by decide +kernel
theorem dX6_inLand_110 : decode cX6_inLand 110 = .ok (.i2l, 1) := by decide +kernel
theorem dX6_inLand_111 : decode cX6_inLand 111 = .ok (.goto 4, 3) := by decide +kernel
theorem dX6_inLand_114 : decode cX6_inLand 114 = .ok (.lconst 0, 1) := by decide +kernel
theorem dX6_inLand_115 : decode cX6_inLand 115 = .ok (.ladd, 1) := by decide +kernel
theorem dX6_inLand_116 : decode cX6_inLand 116 = .ok (.lstore_n 2, 1) := by decide +kernel
theorem dX6_inLand_117 : decode cX6_inLand 117 = .ok (.iinc 4 1, 3) := by decide +kernel
theorem dX6_inLand_120 : decode cX6_inLand 120 = .ok (.goto (-49), 3) := by decide +kernel
theorem dX6_inLand_123 : decode cX6_inLand 123 = .ok (.lload_n 2, 1) := by decide +kernel
theorem dX6_inLand_124 : decode cX6_inLand 124 = .ok (.lreturn, 1) := by decide +kernel
set_option maxRecDepth 20000 in
theorem ggX6_balance_X6_within : GoodIn wsX6_balance wsX6_within := goodIn_r _ [11] (by decide +kernel) (by decide +kernel)
set_option maxRecDepth 20000 in
theorem gX6_balance_X6_within : GoodIn wsX6_balance (va_wsS RX6 94 yX6_within wsX6_within) := goodIn_app (goodIn_of _ (by decide +kernel)) ggX6_balance_X6_within
set_option maxRecDepth 20000 in
theorem ggX6_balance_X6_refused : GoodIn wsX6_balance wsX6_refused := goodIn_r _ [15, 16, 26, 27, 28, 29, 30, 31, 32, 33, 34, 35, 36, 37, 38, 39, 40, 41, 42, 43, 44, 45, 46, 47, 48, 49, 50, 51, 52, 53, 54, 55, 56, 57] (by decide +kernel) (by decide +kernel)
set_option maxRecDepth 20000 in
theorem gX6_balance_X6_refused : GoodIn wsX6_balance (wsV RX6 106 RX6 yX6_refused wsX6_refused) := goodIn_app (goodIn_of _ (by decide +kernel)) ggX6_balance_X6_refused
set_option maxRecDepth 20000 in
theorem ggX6_balance_X6_inLand : GoodIn wsX6_balance wsX6_inLand := goodIn_r _ [20, 21, 22, 23, 24, 25, 26, 27, 28, 29, 30, 31, 32, 33, 34, 35, 36, 37, 38, 39, 40, 41, 42, 43, 44, 45, 46, 47, 48, 49, 50, 51, 52, 53, 54, 55, 56, 57] (by decide +kernel) (by decide +kernel)
set_option maxRecDepth 20000 in
theorem gX6_balance_X6_inLand : GoodIn wsX6_balance (wsV RX6 192 RX6 yX6_inLand wsX6_inLand) := goodIn_app (goodIn_of _ (by decide +kernel)) ggX6_balance_X6_inLand
theorem dX6_balance_0 : decode cX6_balance 0 = .ok (.aload_n 0, 1) := by decide +kernel
theorem dX6_balance_1 : decode cX6_balance 1 = .ok (.iload_n 1, 1) := by decide +kernel
theorem dX6_balance_2 : decode cX6_balance 2 = .ok (.iconst 0, 1) := by decide +kernel
theorem dX6_balance_3 : decode cX6_balance 3 = .ok (.iconst 2, 1) := by decide +kernel
theorem dX6_balance_4 : decode cX6_balance 4 = .ok (.invokestatic 94, 3) := by decide +kernel
theorem dX6_balance_7 : decode cX6_balance 7 = .ok (.ifCond .eq 16, 3) := by decide +kernel
theorem dX6_balance_10 : decode cX6_balance 10 = .ok (.iload_n 2, 1) := by decide +kernel
theorem dX6_balance_11 : decode cX6_balance 11 = .ok (.iconst 0, 1) := by decide +kernel
theorem dX6_balance_12 : decode cX6_balance 12 = .ok (.iconst 3, 1) := by decide +kernel
theorem dX6_balance_13 : decode cX6_balance 13 = .ok (.invokestatic 94, 3) := by decide +kernel
theorem dX6_balance_16 : decode cX6_balance 16 = .ok (.ifCond .eq 7, 3) := by decide +kernel
theorem dX6_balance_19 : decode cX6_balance 19 = .ok (.iconst 0, 1) := by decide +kernel
theorem dX6_balance_20 : decode cX6_balance 20 = .ok (.goto 4, 3) := by decide +kernel
theorem dX6_balance_23 : decode cX6_balance 23 = .ok (.iconst 1, 1) := by decide +kernel
theorem dX6_balance_24 : decode cX6_balance 24 = .ok (.invokevirtual 106, 3) := by decide +kernel
theorem dX6_balance_27 : decode cX6_balance 27 = .ok (.ifCond .eq 5, 3) := by decide +kernel
theorem dX6_balance_30 : decode cX6_balance 30 = .ok (.lconst 0, 1) := by decide +kernel
theorem dX6_balance_31 : decode cX6_balance 31 = .ok (.lreturn, 1) := by decide +kernel
theorem dX6_balance_32 : decode cX6_balance 32 = .ok (.iload_n 1, 1) := by decide +kernel
theorem dX6_balance_33 : decode cX6_balance 33 = .ok (.ifCond .ne 10, 3) := by decide +kernel
theorem dX6_balance_36 : decode cX6_balance 36 = .ok (.aload_n 0, 1) := by decide +kernel
theorem dX6_balance_37 : decode cX6_balance 37 = .ok (.getfield 76, 3) := by decide +kernel
theorem dX6_balance_40 : decode cX6_balance 40 = .ok (.goto 19, 3) := by decide +kernel
theorem dX6_balance_43 : decode cX6_balance 43 = .ok (.iload_n 1, 1) := by decide +kernel
theorem dX6_balance_44 : decode cX6_balance 44 = .ok (.iconst 1, 1) := by decide +kernel
theorem dX6_balance_45 : decode cX6_balance 45 = .ok (.if_icmp .ne 10, 3) := by decide +kernel
theorem dX6_balance_48 : decode cX6_balance 48 = .ok (.aload_n 0, 1) := by decide +kernel
theorem dX6_balance_49 : decode cX6_balance 49 = .ok (.getfield 82, 3) := by decide +kernel
theorem dX6_balance_52 : decode cX6_balance 52 = .ok (.goto 7, 3) := by decide +kernel
theorem dX6_balance_55 : decode cX6_balance 55 = .ok (.aload_n 0, 1) := by decide +kernel
theorem dX6_balance_56 : decode cX6_balance 56 = .ok (.getfield 87, 3) := by decide +kernel
theorem dX6_balance_59 : decode cX6_balance 59 = .ok (.lstore_n 3, 1) := by decide +kernel
theorem dX6_balance_60 : decode cX6_balance 60 = .ok (.iload_n 1, 1) := by decide +kernel
theorem dX6_balance_61 : decode cX6_balance 61 = .ok (.ifCond .ne 14, 3) := by decide +kernel
theorem dX6_balance_64 : decode cX6_balance 64 = .ok (.ldc2_w 157, 3) := by decide +kernel
theorem dX6_balance_67 : decode cX6_balance 67 = .ok (.aload_n 0, 1) := by decide +kernel
theorem dX6_balance_68 : decode cX6_balance 68 = .ok (.getfield 168, 3) := by decide +kernel
theorem dX6_balance_71 : decode cX6_balance 71 = .ok (.lmul, 1) := by decide +kernel
theorem dX6_balance_72 : decode cX6_balance 72 = .ok (.goto 24, 3) := by decide +kernel
theorem dX6_balance_75 : decode cX6_balance 75 = .ok (.iload_n 1, 1) := by decide +kernel
theorem dX6_balance_76 : decode cX6_balance 76 = .ok (.iconst 1, 1) := by decide +kernel
theorem dX6_balance_77 : decode cX6_balance 77 = .ok (.if_icmp .ne 10, 3) := by decide +kernel
theorem dX6_balance_80 : decode cX6_balance 80 = .ok (.aload_n 0, 1) := by decide +kernel
theorem dX6_balance_81 : decode cX6_balance 81 = .ok (.getfield 168, 3) := by decide +kernel
theorem dX6_balance_84 : decode cX6_balance 84 = .ok (.goto 12, 3) := by decide +kernel
theorem dX6_balance_87 : decode cX6_balance 87 = .ok (.aload_n 0, 1) := by decide +kernel
theorem dX6_balance_88 : decode cX6_balance 88 = .ok (.getfield 162, 3) := by decide +kernel
theorem dX6_balance_91 : decode cX6_balance 91 = .ok (.aload_n 0, 1) := by decide +kernel
theorem dX6_balance_92 : decode cX6_balance 92 = .ok (.getfield 159, 3) := by decide +kernel
theorem dX6_balance_95 : decode cX6_balance 95 = .ok (.ladd, 1) := by decide +kernel
theorem dX6_balance_96 : decode cX6_balance 96 = .ok (.lstore 5, 2) := by decide +kernel
theorem dX6_balance_98 : decode cX6_balance 98 = .ok (.iload_n 2, 1) := by decide +kernel
theorem dX6_balance_99 : decode cX6_balance 99 = .ok (.ifCond .ne 11, 3) := by decide +kernel
theorem dX6_balance_102 : decode cX6_balance 102 = .ok (.aload_n 0, 1) := by decide +kernel
theorem dX6_balance_103 : decode cX6_balance 103 = .ok (.iload_n 1, 1) := by decide +kernel
theorem dX6_balance_104 : decode cX6_balance 104 = .ok (.invokevirtual 192, 3) := by decide +kernel
theorem dX6_balance_107 : decode cX6_balance 107 = .ok (.goto 32, 3) := by decide +kernel
theorem dX6_balance_110 : decode cX6_balance 110 = .ok (.iload_n 2, 1) := by decide +kernel
theorem dX6_balance_111 : decode cX6_balance 111 = .ok (.iconst 1, 1) := by decide +kernel
theorem dX6_balance_112 : decode cX6_balance 112 = .ok (.if_icmp .ne 7, 3) := by decide +kernel
theorem dX6_balance_115 : decode cX6_balance 115 = .ok (.lload_n 3, 1) := by decide +kernel
theorem dX6_balance_116 : decode cX6_balance 116 = .ok (.goto 23, 3) := by decide +kernel
theorem dX6_balance_119 : decode cX6_balance 119 = .ok (.iload_n 2, 1) := by decide +kernel
theorem dX6_balance_120 : decode cX6_balance 120 = .ok (.iconst 2, 1) := by decide +kernel
theorem dX6_balance_121 : decode cX6_balance 121 = .ok (.if_icmp .ne 8, 3) := by decide +kernel
theorem dX6_balance_124 : decode cX6_balance 124 = .ok (.lload 5, 2) := by decide +kernel
theorem dX6_balance_126 : decode cX6_balance 126 = .ok (.goto 13, 3) := by decide +kernel
theorem dX6_balance_129 : decode cX6_balance 129 = .ok (.lload_n 3, 1) := by decide +kernel
theorem dX6_balance_130 : decode cX6_balance 130 = .ok (.aload_n 0, 1) := by decide +kernel
theorem dX6_balance_131 : decode cX6_balance 131 = .ok (.iload_n 1, 1) := by decide +kernel
theorem dX6_balance_132 : decode cX6_balance 132 = .ok (.invokevirtual 192, 3) := by decide +kernel
theorem dX6_balance_135 : decode cX6_balance 135 = .ok (.lsub, 1) := by decide +kernel
theorem dX6_balance_136 : decode cX6_balance 136 = .ok (.lload 5, 2) := by decide +kernel
theorem dX6_balance_138 : decode cX6_balance 138 = .ok (.lsub, 1) := by decide +kernel
theorem dX6_balance_139 : decode cX6_balance 139 = .ok (.lreturn, 1) := by decide +kernel
set_option maxRecDepth 20000 in
theorem ggX6_air_X6_within : GoodIn wsX6_air wsX6_within := goodIn_r _ [6] (by decide +kernel) (by decide +kernel)
set_option maxRecDepth 20000 in
theorem gX6_air_X6_within : GoodIn wsX6_air (va_wsS RX6 94 yX6_within wsX6_within) := goodIn_app (goodIn_of _ (by decide +kernel)) ggX6_air_X6_within
set_option maxRecDepth 20000 in
theorem ggX6_air_X6_refused : GoodIn wsX6_air wsX6_refused := goodIn_r _ [10, 11, 12, 13, 14, 15, 16, 17, 18, 19, 20, 21, 22, 23, 24, 25, 26, 27, 28, 29, 30, 31, 32, 33, 34, 35, 36, 37, 38, 39, 40, 41, 42, 43] (by decide +kernel) (by decide +kernel)
set_option maxRecDepth 20000 in
theorem gX6_air_X6_refused : GoodIn wsX6_air (wsV RX6 106 RX6 yX6_refused wsX6_refused) := goodIn_app (goodIn_of _ (by decide +kernel)) ggX6_air_X6_refused
theorem dX6_air_0 : decode cX6_air 0 = .ok (.aload_n 0, 1) := by decide +kernel
theorem dX6_air_1 : decode cX6_air 1 = .ok (.iload_n 1, 1) := by decide +kernel
theorem dX6_air_2 : decode cX6_air 2 = .ok (.iconst 0, 1) := by decide +kernel
theorem dX6_air_3 : decode cX6_air 3 = .ok (.iconst 1, 1) := by decide +kernel
theorem dX6_air_4 : decode cX6_air 4 = .ok (.invokestatic 94, 3) := by decide +kernel
theorem dX6_air_7 : decode cX6_air 7 = .ok (.ifCond .eq 7, 3) := by decide +kernel
theorem dX6_air_10 : decode cX6_air 10 = .ok (.iconst 0, 1) := by decide +kernel
theorem dX6_air_11 : decode cX6_air 11 = .ok (.goto 4, 3) := by decide +kernel
theorem dX6_air_14 : decode cX6_air 14 = .ok (.iconst 1, 1) := by decide +kernel
theorem dX6_air_15 : decode cX6_air 15 = .ok (.invokevirtual 106, 3) := by decide +kernel
theorem dX6_air_18 : decode cX6_air 18 = .ok (.ifCond .eq 7, 3) := by decide +kernel
theorem dX6_air_21 : decode cX6_air 21 = .ok (.lconst 0, 1) := by decide +kernel
theorem dX6_air_22 : decode cX6_air 22 = .ok (.goto 18, 3) := by decide +kernel
theorem dX6_air_25 : decode cX6_air 25 = .ok (.iload_n 1, 1) := by decide +kernel
theorem dX6_air_26 : decode cX6_air 26 = .ok (.ifCond .ne 10, 3) := by decide +kernel
theorem dX6_air_29 : decode cX6_air 29 = .ok (.aload_n 0, 1) := by decide +kernel
theorem dX6_air_30 : decode cX6_air 30 = .ok (.getfield 162, 3) := by decide +kernel
theorem dX6_air_33 : decode cX6_air 33 = .ok (.goto 7, 3) := by decide +kernel
theorem dX6_air_36 : decode cX6_air 36 = .ok (.aload_n 0, 1) := by decide +kernel
theorem dX6_air_37 : decode cX6_air 37 = .ok (.getfield 159, 3) := by decide +kernel
theorem dX6_air_40 : decode cX6_air 40 = .ok (.lreturn, 1) := by decide +kernel
theorem dJ9_max_7cf53_0 : decode cJ9_max_7cf53 0 = .ok (.iload_n 0, 1) := by decide +kernel
theorem dJ9_max_7cf53_1 : decode cJ9_max_7cf53 1 = .ok (.iload_n 1, 1) := by decide +kernel
theorem dJ9_max_7cf53_2 : decode cJ9_max_7cf53 2 = .ok (.if_icmp .lt 7, 3) := by decide +kernel
theorem dJ9_max_7cf53_5 : decode cJ9_max_7cf53 5 = .ok (.iload_n 0, 1) := by decide +kernel
theorem dJ9_max_7cf53_6 : decode cJ9_max_7cf53 6 = .ok (.goto 4, 3) := by decide +kernel
theorem dJ9_max_7cf53_9 : decode cJ9_max_7cf53 9 = .ok (.iload_n 1, 1) := by decide +kernel
theorem dJ9_max_7cf53_10 : decode cJ9_max_7cf53 10 = .ok (.ireturn, 1) := by decide +kernel
theorem dJ9_min_7cf53_0 : decode cJ9_min_7cf53 0 = .ok (.iload_n 0, 1) := by decide +kernel
theorem dJ9_min_7cf53_1 : decode cJ9_min_7cf53 1 = .ok (.iload_n 1, 1) := by decide +kernel
theorem dJ9_min_7cf53_2 : decode cJ9_min_7cf53 2 = .ok (.if_icmp .gt 7, 3) := by decide +kernel
theorem dJ9_min_7cf53_5 : decode cJ9_min_7cf53 5 = .ok (.iload_n 0, 1) := by decide +kernel
theorem dJ9_min_7cf53_6 : decode cJ9_min_7cf53 6 = .ok (.goto 4, 3) := by decide +kernel
theorem dJ9_min_7cf53_9 : decode cJ9_min_7cf53 9 = .ok (.iload_n 1, 1) := by decide +kernel
theorem dJ9_min_7cf53_10 : decode cJ9_min_7cf53 10 = .ok (.ireturn, 1) := by decide +kernel
theorem dJxa1e45_init_da8c8_0 : decode cJxa1e45_init_da8c8 0 = .ok (.aload_n 0, 1) := by decide +kernel
theorem dJxa1e45_init_da8c8_1 : decode cJxa1e45_init_da8c8 1 = .ok (.invokespecial 1, 3) := by decide +kernel
theorem dJxa1e45_init_da8c8_4 : decode cJxa1e45_init_da8c8 4 = .ok (.return_, 1) := by decide +kernel
set_option maxRecDepth 20000 in
theorem ggJxc12de_init_da8c8_Jxa1e45_init_da8c8 : GoodIn wsJxc12de_init_da8c8 wsJxa1e45_init_da8c8 := goodIn_r _ [5, 6, 7, 8] (by decide +kernel) (by decide +kernel)
set_option maxRecDepth 20000 in
theorem gJxc12de_init_da8c8_Jxa1e45_init_da8c8 : GoodIn wsJxc12de_init_da8c8 (wsJxa1e45_init_da8c8) := ggJxc12de_init_da8c8_Jxa1e45_init_da8c8
theorem dJxc12de_init_da8c8_0 : decode cJxc12de_init_da8c8 0 = .ok (.aload_n 0, 1) := by decide +kernel
theorem dJxc12de_init_da8c8_1 : decode cJxc12de_init_da8c8 1 = .ok (.invokespecial 1, 3) := by decide +kernel
theorem dJxc12de_init_da8c8_4 : decode cJxc12de_init_da8c8 4 = .ok (.aload_n 0, 1) := by decide +kernel
theorem dJxc12de_init_da8c8_5 : decode cJxc12de_init_da8c8 5 = .ok (.iconst 0, 1) := by decide +kernel
theorem dJxc12de_init_da8c8_6 : decode cJxc12de_init_da8c8 6 = .ok (.putfield 7, 3) := by decide +kernel
theorem dJxc12de_init_da8c8_9 : decode cJxc12de_init_da8c8 9 = .ok (.return_, 1) := by decide +kernel
set_option maxRecDepth 20000 in
theorem ggJx4a65c_init_da8c8_Jxc12de_init_da8c8 : GoodIn wsJx4a65c_init_da8c8 wsJxc12de_init_da8c8 := goodIn_r _ [6, 7, 8, 9, 10, 11, 12, 13, 14, 15, 16, 17] (by decide +kernel) (by decide +kernel)
