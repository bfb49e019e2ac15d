set_option maxRecDepth 20000 in
theorem gJx4a65c_grow_d5877_Jx4a65c_grow_92f84 : GoodIn wsJx4a65c_grow_d5877 (wsV RJx4a65c 69 RJx4a65c yJx4a65c_grow_92f84 wsJx4a65c_grow_92f84) := goodIn_app (goodIn_of _ (by decide +kernel)) ggJx4a65c_grow_d5877_Jx4a65c_grow_92f84
theorem dJx4a65c_grow_d5877_0 : decode cJx4a65c_grow_d5877 0 = .ok (.aload_n 0, 1) := by decide +kernel
theorem dJx4a65c_grow_d5877_1 : decode cJx4a65c_grow_d5877 1 = .ok (.aload_n 0, 1) := by decide +kernel
theorem dJx4a65c_grow_d5877_2 : decode cJx4a65c_grow_d5877 2 = .ok (.getfield 48, 3) := by decide +kernel
theorem dJx4a65c_grow_d5877_5 : decode cJx4a65c_grow_d5877 5 = .ok (.iconst 1, 1) := by decide +kernel
theorem dJx4a65c_grow_d5877_6 : decode cJx4a65c_grow_d5877 6 = .ok (.iadd, 1) := by decide +kernel
theorem dJx4a65c_grow_d5877_7 : decode cJx4a65c_grow_d5877 7 = .ok (.invokevirtual 69, 3) := by decide +kernel
theorem dJx4a65c_grow_d5877_10 : decode cJx4a65c_grow_d5877 10 = .ok (.areturn, 1) := by decide +kernel
theorem dJx4a65c_size_8abf5_0 : decode cJx4a65c_size_8abf5 0 = .ok (.aload_n 0, 1) := by decide +kernel
theorem dJx4a65c_size_8abf5_1 : decode cJx4a65c_size_8abf5 1 = .ok (.getfield 48, 3) := by decide +kernel
theorem dJx4a65c_size_8abf5_4 : decode cJx4a65c_size_8abf5 4 = .ok (.ireturn, 1) := by decide +kernel
theorem dJx4a65c_elementData_915e3_0 : decode cJx4a65c_elementData_915e3 0 = .ok (.aload_n 0, 1) := by decide +kernel
theorem dJx4a65c_elementData_915e3_1 : decode cJx4a65c_elementData_915e3 1 = .ok (.getfield 9, 3) := by decide +kernel
theorem dJx4a65c_elementData_915e3_4 : decode cJx4a65c_elementData_915e3 4 = .ok (.iload_n 1, 1) := by decide +kernel
theorem dJx4a65c_elementData_915e3_5 : decode cJx4a65c_elementData_915e3 5 = .ok (.aaload, 1) := by decide +kernel
theorem dJx4a65c_elementData_915e3_6 : decode cJx4a65c_elementData_915e3 6 = .ok (.areturn, 1) := by decide +kernel
set_option maxRecDepth 20000 in
theorem ggJx4a65c_get_915e3_J15_checkIndex_7cf53 : GoodIn wsJx4a65c_get_915e3 wsJ15_checkIndex_7cf53 := goodIn_r _ [5, 6, 7, 8, 9] (by decide +kernel) (by decide +kernel)
set_option maxRecDepth 20000 in
theorem gJx4a65c_get_915e3_J15_checkIndex_7cf53 : GoodIn wsJx4a65c_get_915e3 (va_wsS RJx4a65c 118 yJ15_checkIndex_7cf53 wsJ15_checkIndex_7cf53) := goodIn_app (goodIn_of _ (by decide +kernel)) ggJx4a65c_get_915e3_J15_checkIndex_7cf53
set_option maxRecDepth 20000 in
theorem ggJx4a65c_get_915e3_Jx4a65c_elementData_915e3 : GoodIn wsJx4a65c_get_915e3 wsJx4a65c_elementData_915e3 := goodIn_r _ [14, 15, 16, 17, 18] (by decide +kernel) (by decide +kernel)
set_option maxRecDepth 20000 in
theorem gJx4a65c_get_915e3_Jx4a65c_elementData_915e3 : GoodIn wsJx4a65c_get_915e3 (wsV RJx4a65c 123 RJx4a65c yJx4a65c_elementData_915e3 wsJx4a65c_elementData_915e3) := goodIn_app (goodIn_of _ (by decide +kernel)) ggJx4a65c_get_915e3_Jx4a65c_elementData_915e3
theorem dJx4a65c_get_915e3_0 : decode cJx4a65c_get_915e3 0 = .ok (.iload_n 1, 1) := by decide +kernel
theorem dJx4a65c_get_915e3_1 : decode cJx4a65c_get_915e3 1 = .ok (.aload_n 0, 1) := by decide +kernel
theorem dJx4a65c_get_915e3_2 : decode cJx4a65c_get_915e3 2 = .ok (.getfield 48, 3) := by decide +kernel
theorem dJx4a65c_get_915e3_5 : decode cJx4a65c_get_915e3 5 = .ok (.invokestatic 118, 3) := by decide +kernel
theorem dJx4a65c_get_915e3_8 : decode cJx4a65c_get_915e3 8 = .ok (.pop, 1) := by decide +kernel
theorem dJx4a65c_get_915e3_9 : decode cJx4a65c_get_915e3 9 = .ok (.aload_n 0, 1) := by decide +kernel
theorem dJx4a65c_get_915e3_10 : decode cJx4a65c_get_915e3 10 = .ok (.iload_n 1, 1) := by decide +kernel
theorem dJx4a65c_get_915e3_11 : decode cJx4a65c_get_915e3 11 = .ok (.invokevirtual 123, 3) := by decide +kernel
theorem dJx4a65c_get_915e3_14 : decode cJx4a65c_get_915e3 14 = .ok (.areturn, 1) := by decide +kernel
set_option maxRecDepth 20000 in
theorem ggJx4a65c_add_72be8_Jx4a65c_grow_d5877 : GoodIn wsJx4a65c_add_72be8 wsJx4a65c_grow_d5877 := goodIn_r _ [6, 1, 7, 8, 9, 5, 10, 11, 12, 13, 14, 15, 16, 17, 18, 19, 20, 21, 22, 23, 24, 25, 26, 27, 28, 29, 30, 31, 32, 33, 34, 35, 36, 37, 38, 39, 40, 41, 42, 43, 44, 45, 46, 47, 48, 49] (by decide +kernel) (by decide +kernel)
set_option maxRecDepth 20000 in
theorem gJx4a65c_add_72be8_Jx4a65c_grow_d5877 : GoodIn wsJx4a65c_add_72be8 (wsV RJx4a65c 129 RJx4a65c yJx4a65c_grow_d5877 wsJx4a65c_grow_d5877) := goodIn_app (goodIn_of _ (by decide +kernel)) ggJx4a65c_add_72be8_Jx4a65c_grow_d5877
theorem dJx4a65c_add_72be8_0 : decode cJx4a65c_add_72be8 0 = .ok (.iload_n 3, 1) := by decide +kernel
theorem dJx4a65c_add_72be8_1 : decode cJx4a65c_add_72be8 1 = .ok (.aload_n 2, 1) := by decide +kernel
theorem dJx4a65c_add_72be8_2 : decode cJx4a65c_add_72be8 2 = .ok (.arraylength, 1) := by decide +kernel
theorem dJx4a65c_add_72be8_3 : decode cJx4a65c_add_72be8 3 = .ok (.if_icmp .ne 8, 3) := by decide +kernel
theorem dJx4a65c_add_72be8_6 : decode cJx4a65c_add_72be8 6 = .ok (.aload_n 0, 1) := by decide +kernel
theorem dJx4a65c_add_72be8_7 : decode cJx4a65c_add_72be8 7 = .ok (.invokevirtual 129, 3) := by decide +kernel
theorem dJx4a65c_add_72be8_10 : decode cJx4a65c_add_72be8 10 = .ok (.astore_n 2, 1) := by decide +kernel
theorem dJx4a65c_add_72be8_11 : decode cJx4a65c_add_72be8 11 = .ok (.aload_n 2, 1) := by decide +kernel
theorem dJx4a65c_add_72be8_12 : decode cJx4a65c_add_72be8 12 = .ok (.iload_n 3, 1) := by decide +kernel
theorem dJx4a65c_add_72be8_13 : decode cJx4a65c_add_72be8 13 = .ok (.aload_n 1, 1) := by decide +kernel
theorem dJx4a65c_add_72be8_14 : decode cJx4a65c_add_72be8 14 = .ok (.aastore, 1) := by decide +kernel
theorem dJx4a65c_add_72be8_15 : decode cJx4a65c_add_72be8 15 = .ok (.aload_n 0, 1) := by decide +kernel
theorem dJx4a65c_add_72be8_16 : decode cJx4a65c_add_72be8 16 = .ok (.iload_n 3, 1) := by decide +kernel
theorem dJx4a65c_add_72be8_17 : decode cJx4a65c_add_72be8 17 = .ok (.iconst 1, 1) := by decide +kernel
theorem dJx4a65c_add_72be8_18 : decode cJx4a65c_add_72be8 18 = .ok (.iadd, 1) := by decide +kernel
theorem dJx4a65c_add_72be8_19 : decode cJx4a65c_add_72be8 19 = .ok (.putfield 48, 3) := by decide +kernel
theorem dJx4a65c_add_72be8_22 : decode cJx4a65c_add_72be8 22 = .ok (.return_, 1) := by decide +kernel
set_option maxRecDepth 20000 in
theorem ggJx4a65c_add_9ea2d_Jx4a65c_add_72be8 : GoodIn wsJx4a65c_add_9ea2d wsJx4a65c_add_72be8 := goodIn_r _ [9, 4, 10, 11, 12, 8, 13, 14, 15, 16, 17, 3, 18, 19, 20, 21, 22, 23, 24, 25, 26, 27, 28, 29, 30, 31, 32, 33, 34, 35, 36, 37, 38, 39, 40, 41, 42, 43, 44, 45, 46, 47, 48, 49, 50, 51, 52, 53, 54, 55] (by decide +kernel) (by decide +kernel)
set_option maxRecDepth 20000 in
theorem gJx4a65c_add_9ea2d_Jx4a65c_add_72be8 : GoodIn wsJx4a65c_add_9ea2d (wsV RJx4a65c 131 RJx4a65c yJx4a65c_add_72be8 wsJx4a65c_add_72be8) := goodIn_app (goodIn_of _ (by decide +kernel)) ggJx4a65c_add_9ea2d_Jx4a65c_add_72be8
theorem dJx4a65c_add_9ea2d_0 : decode cJx4a65c_add_9ea2d 0 = .ok (.aload_n 0, 1) := by decide +kernel
theorem dJx4a65c_add_9ea2d_1 : decode cJx4a65c_add_9ea2d 1 = .ok (.dup, 1) := by decide +kernel
theorem dJx4a65c_add_9ea2d_2 : decode cJx4a65c_add_9ea2d 2 = .ok (.getfield 63, 3) := by decide +kernel
theorem dJx4a65c_add_9ea2d_5 : decode cJx4a65c_add_9ea2d 5 = .ok (.iconst 1, 1) := by decide +kernel
theorem dJx4a65c_add_9ea2d_6 : decode cJx4a65c_add_9ea2d 6 = .ok (.iadd, 1) := by decide +kernel
theorem dJx4a65c_add_9ea2d_7 : decode cJx4a65c_add_9ea2d 7 = .ok (.putfield 63, 3) := by decide +kernel
theorem dJx4a65c_add_9ea2d_10 : decode cJx4a65c_add_9ea2d 10 = .ok (.aload_n 0, 1) := by decide +kernel
theorem dJx4a65c_add_9ea2d_11 : decode cJx4a65c_add_9ea2d 11 = .ok (.aload_n 1, 1) := by decide +kernel
theorem dJx4a65c_add_9ea2d_12 : decode cJx4a65c_add_9ea2d 12 = .ok (.aload_n 0, 1) := by decide +kernel
theorem dJx4a65c_add_9ea2d_13 : decode cJx4a65c_add_9ea2d 13 = .ok (.getfield 9, 3) := by decide +kernel
theorem dJx4a65c_add_9ea2d_16 : decode cJx4a65c_add_9ea2d 16 = .ok (.aload_n 0, 1) := by decide +kernel
theorem dJx4a65c_add_9ea2d_17 : decode cJx4a65c_add_9ea2d 17 = .ok (.getfield 48, 3) := by decide +kernel
theorem dJx4a65c_add_9ea2d_20 : decode cJx4a65c_add_9ea2d 20 = .ok (.invokevirtual 131, 3) := by decide +kernel
theorem dJx4a65c_add_9ea2d_23 : decode cJx4a65c_add_9ea2d 23 = .ok (.iconst 1, 1) := by decide +kernel
theorem dJx4a65c_add_9ea2d_24 : decode cJx4a65c_add_9ea2d 24 = .ok (.ireturn, 1) := by decide +kernel
set_option maxRecDepth 20000 in
theorem ggJ7_copyOf_1904c_J7_copyOf_6403c : GoodIn wsJ7_copyOf_1904c wsJ7_copyOf_6403c := goodIn_r _ [8, 9, 10, 11, 12, 13, 14, 15, 16, 17, 18] (by decide +kernel) (by decide +kernel)
set_option maxRecDepth 20000 in
theorem gJ7_copyOf_1904c_J7_copyOf_6403c : GoodIn wsJ7_copyOf_1904c (va_wsS RJ7 300 yJ7_copyOf_6403c wsJ7_copyOf_6403c) := goodIn_app (goodIn_of _ (by decide +kernel)) ggJ7_copyOf_1904c_J7_copyOf_6403c
theorem dJ7_copyOf_1904c_0 : decode cJ7_copyOf_1904c 0 = .ok (.aload_n 0, 1) := by decide +kernel
theorem dJ7_copyOf_1904c_1 : decode cJ7_copyOf_1904c 1 = .ok (.iload_n 1, 1) := by decide +kernel
theorem dJ7_copyOf_1904c_2 : decode cJ7_copyOf_1904c 2 = .ok (.aload_n 0, 1) := by decide +kernel
theorem dJ7_copyOf_1904c_3 : decode cJ7_copyOf_1904c 3 = .ok (.invokevirtual 86, 3) := by decide +kernel
theorem dJ7_copyOf_1904c_6 : decode cJ7_copyOf_1904c 6 = .ok (.invokestatic 300, 3) := by decide +kernel
theorem dJ7_copyOf_1904c_9 : decode cJ7_copyOf_1904c 9 = .ok (.areturn, 1) := by decide +kernel
theorem dJ7_copyOf_6403c_0 : decode cJ7_copyOf_6403c 0 = .ok (.aload_n 2, 1) := by decide +kernel
theorem dJ7_copyOf_6403c_1 : decode cJ7_copyOf_6403c 1 = .ok (.ldc 110, 2) := by decide +kernel
theorem dJ7_copyOf_6403c_3 : decode cJ7_copyOf_6403c 3 = .ok (.if_acmp .ne 10, 3) := by decide +kernel
theorem dJ7_copyOf_6403c_6 : decode cJ7_copyOf_6403c 6 = .ok (.iload_n 1, 1) := by decide +kernel
theorem dJ7_copyOf_6403c_7 : decode cJ7_copyOf_6403c 7 = .ok (.anewarray 2, 3) := by decide +kernel
theorem dJ7_copyOf_6403c_10 : decode cJ7_copyOf_6403c 10 = .ok (.goto 14, 3) := by decide +kernel
theorem dJ7_copyOf_6403c_13 : decode cJ7_copyOf_6403c 13 = .ok (.aload_n 2, 1) := by decide +kernel
theorem dJ7_copyOf_6403c_14 : decode cJ7_copyOf_6403c 14 = .ok (.invokevirtual 90, 3) := by decide +kernel
theorem dJ7_copyOf_6403c_17 : decode cJ7_copyOf_6403c 17 = .ok (.iload_n 1, 1) := by decide +kernel
theorem dJ7_copyOf_6403c_18 : decode cJ7_copyOf_6403c 18 = .ok (.invokestatic 95, 3) := by decide +kernel
theorem dJ7_copyOf_6403c_21 : decode cJ7_copyOf_6403c 21 = .ok (.checkcast 110, 3) := by decide +kernel
theorem dJ7_copyOf_6403c_24 : decode cJ7_copyOf_6403c 24 = .ok (.astore_n 3, 1) := by decide +kernel
theorem dJ7_copyOf_6403c_25 : decode cJ7_copyOf_6403c 25 = .ok (.aload_n 0, 1) := by decide +kernel
theorem dJ7_copyOf_6403c_26 : decode cJ7_copyOf_6403c 26 = .ok (.iconst 0, 1) := by decide +kernel
theorem dJ7_copyOf_6403c_27 : decode cJ7_copyOf_6403c 27 = .ok (.aload_n 3, 1) := by decide +kernel
theorem dJ7_copyOf_6403c_28 : decode cJ7_copyOf_6403c 28 = .ok (.iconst 0, 1) := by decide +kernel
theorem dJ7_copyOf_6403c_29 : decode cJ7_copyOf_6403c 29 = .ok (.aload_n 0, 1) := by decide +kernel
theorem dJ7_copyOf_6403c_30 : decode cJ7_copyOf_6403c 30 = .ok (.arraylength, 1) := by decide +kernel
theorem dJ7_copyOf_6403c_31 : decode cJ7_copyOf_6403c 31 = .ok (.iload_n 1, 1) := by decide +kernel
theorem dJ7_copyOf_6403c_32 : decode cJ7_copyOf_6403c 32 = .ok (.invokestatic 304, 3) := by decide +kernel
theorem dJ7_copyOf_6403c_35 : decode cJ7_copyOf_6403c 35 = .ok (.invokestatic 150, 3) := by decide +kernel
theorem dJ7_copyOf_6403c_38 : decode cJ7_copyOf_6403c 38 = .ok (.aload_n 3, 1) := by decide +kernel
theorem dJ7_copyOf_6403c_39 : decode cJ7_copyOf_6403c 39 = .ok (.areturn, 1) := by decide +kernel
set_option maxRecDepth 20000 in
theorem ggJ15_checkIndex_7cf53_J3_checkIndex_8e157 : GoodIn wsJ15_checkIndex_7cf53 wsJ3_checkIndex_8e157 := goodIn_r _ [4] (by decide +kernel) (by decide +kernel)
set_option maxRecDepth 20000 in
theorem gJ15_checkIndex_7cf53_J3_checkIndex_8e157 : GoodIn wsJ15_checkIndex_7cf53 (va_wsS RJ15 105 yJ3_checkIndex_8e157 wsJ3_checkIndex_8e157) := goodIn_app (goodIn_of _ (by decide +kernel)) ggJ15_checkIndex_7cf53_J3_checkIndex_8e157
theorem dJ15_checkIndex_7cf53_0 : decode cJ15_checkIndex_7cf53 0 = .ok (.iload_n 0, 1) := by decide +kernel
theorem dJ15_checkIndex_7cf53_1 : decode cJ15_checkIndex_7cf53 1 = .ok (.iload_n 1, 1) := by decide +kernel
theorem dJ15_checkIndex_7cf53_2 : decode cJ15_checkIndex_7cf53 2 = .ok (.aconst_null, 1) := by decide +kernel
theorem dJ15_checkIndex_7cf53_3 : decode cJ15_checkIndex_7cf53 3 = .ok (.invokestatic 105, 3) := by decide +kernel
theorem dJ15_checkIndex_7cf53_6 : decode cJ15_checkIndex_7cf53 6 = .ok (.ireturn, 1) := by decide +kernel
set_option maxRecDepth 20000 in
theorem ggJ8_newLength_cabcc_J8_hugeLength_7cf53 : GoodIn wsJ8_newLength_cabcc wsJ8_hugeLength_7cf53 := goodIn_r _ [9, 5] (by decide +kernel) (by decide +kernel)
set_option maxRecDepth 20000 in
theorem gJ8_newLength_cabcc_J8_hugeLength_7cf53 : GoodIn wsJ8_newLength_cabcc (va_wsS RJ8 201 yJ8_hugeLength_7cf53 wsJ8_hugeLength_7cf53) := goodIn_app (goodIn_of _ (by decide +kernel)) ggJ8_newLength_cabcc_J8_hugeLength_7cf53
theorem dJ8_newLength_cabcc_0 : decode cJ8_newLength_cabcc 0 = .ok (.iload_n 0, 1) := by decide +kernel
theorem dJ8_newLength_cabcc_1 : decode cJ8_newLength_cabcc 1 = .ok (.iload_n 1, 1) := by decide +kernel
theorem dJ8_newLength_cabcc_2 : decode cJ8_newLength_cabcc 2 = .ok (.iload_n 2, 1) := by decide +kernel
theorem dJ8_newLength_cabcc_3 : decode cJ8_newLength_cabcc 3 = .ok (.invokestatic 194, 3) := by decide +kernel
theorem dJ8_newLength_cabcc_6 : decode cJ8_newLength_cabcc 6 = .ok (.iadd, 1) := by decide +kernel
theorem dJ8_newLength_cabcc_7 : decode cJ8_newLength_cabcc 7 = .ok (.istore_n 3, 1) := by decide +kernel
theorem dJ8_newLength_cabcc_8 : decode cJ8_newLength_cabcc 8 = .ok (.iconst 0, 1) := by decide +kernel
theorem dJ8_newLength_cabcc_9 : decode cJ8_newLength_cabcc 9 = .ok (.iload_n 3, 1) := by decide +kernel
theorem dJ8_newLength_cabcc_10 : decode cJ8_newLength_cabcc 10 = .ok (.if_icmp .ge 11, 3) := by decide +kernel
theorem dJ8_newLength_cabcc_13 : decode cJ8_newLength_cabcc 13 = .ok (.iload_n 3, 1) := by decide +kernel
theorem dJ8_newLength_cabcc_14 : decode cJ8_newLength_cabcc 14 = .ok (.ldc 200, 2) := by decide +kernel
theorem dJ8_newLength_cabcc_16 : decode cJ8_newLength_cabcc 16 = .ok (.if_icmp .gt 5, 3) := by decide +kernel
theorem dJ8_newLength_cabcc_19 : decode cJ8_newLength_cabcc 19 = .ok (.iload_n 3, 1) := by decide +kernel
theorem dJ8_newLength_cabcc_20 : decode cJ8_newLength_cabcc 20 = .ok (.ireturn, 1) := by decide +kernel
theorem dJ8_newLength_cabcc_21 : decode cJ8_newLength_cabcc 21 = .ok (.iload_n 0, 1) := by decide +kernel
theorem dJ8_newLength_cabcc_22 : decode cJ8_newLength_cabcc 22 = .ok (.iload_n 1, 1) := by decide +kernel
theorem dJ8_newLength_cabcc_23 : decode cJ8_newLength_cabcc 23 = .ok (.invokestatic 201, 3) := by decide +kernel
theorem dJ8_newLength_cabcc_26 : decode cJ8_newLength_cabcc 26 = .ok (.ireturn, 1) := by decide +kernel
theorem dJ8_hugeLength_7cf53_0 : decode cJ8_hugeLength_7cf53 0 = .ok (.iload_n 0, 1) := by decide +kernel
theorem dJ8_hugeLength_7cf53_1 : decode cJ8_hugeLength_7cf53 1 = .ok (.iload_n 1, 1) := by decide +kernel
theorem dJ8_hugeLength_7cf53_2 : decode cJ8_hugeLength_7cf53 2 = .ok (.iadd, 1) := by decide +kernel
theorem dJ8_hugeLength_7cf53_3 : decode cJ8_hugeLength_7cf53 3 = .ok (.istore_n 2, 1) := by decide +kernel
theorem dJ8_hugeLength_7cf53_4 : decode cJ8_hugeLength_7cf53 4 = .ok (.iload_n 2, 1) := by decide +kernel
theorem dJ8_hugeLength_7cf53_5 : decode cJ8_hugeLength_7cf53 5 = .ok (.ifCond .ge 44, 3) := by decide +kernel
theorem dJ8_hugeLength_7cf53_8 : decode cJ8_hugeLength_7cf53 8 = .ok (.new 204, 3) := by decide +kernel
theorem dJ8_hugeLength_7cf53_11 : decode cJ8_hugeLength_7cf53 11 = .ok (.dup, 1) := by decide +kernel
theorem dJ8_hugeLength_7cf53_12 : decode cJ8_hugeLength_7cf53 12 = .ok (.new 89, 3) := by decide +kernel
theorem dJ8_hugeLength_7cf53_15 : decode cJ8_hugeLength_7cf53 15 = .ok (.dup, 1) := by decide +kernel
theorem dJ8_hugeLength_7cf53_16 : decode cJ8_hugeLength_7cf53 16 = .ok (.invokespecial 91, 3) := by decide +kernel
theorem dJ8_hugeLength_7cf53_19 : decode cJ8_hugeLength_7cf53 19 = .ok (.ldc 206, 2) := by decide +kernel
theorem dJ8_hugeLength_7cf53_21 : decode cJ8_hugeLength_7cf53 21 = .ok (.invokevirtual 94, 3) := by decide +kernel
theorem dJ8_hugeLength_7cf53_24 : decode cJ8_hugeLength_7cf53 24 = .ok (.iload_n 0, 1) := by decide +kernel
theorem dJ8_hugeLength_7cf53_25 : decode cJ8_hugeLength_7cf53 25 = .ok (.invokevirtual 98, 3) := by decide +kernel
theorem dJ8_hugeLength_7cf53_28 : decode cJ8_hugeLength_7cf53 28 = .ok (.ldc 208, 2) := by decide +kernel
theorem dJ8_hugeLength_7cf53_30 : decode cJ8_hugeLength_7cf53 30 = .ok (.invokevirtual 94, 3) := by decide +kernel
theorem dJ8_hugeLength_7cf53_33 : decode cJ8_hugeLength_7cf53 33 = .ok (.iload_n 1, 1) := by decide +kernel
theorem dJ8_hugeLength_7cf53_34 : decode cJ8_hugeLength_7cf53 34 = .ok (.invokevirtual 98, 3) := by decide +kernel
theorem dJ8_hugeLength_7cf53_37 : decode cJ8_hugeLength_7cf53 37 = .ok (.ldc 210, 2) := by decide +kernel
theorem dJ8_hugeLength_7cf53_39 : decode cJ8_hugeLength_7cf53 39 = .ok (.invokevirtual 94, 3) := by decide +kernel
theorem dJ8_hugeLength_7cf53_42 : decode cJ8_hugeLength_7cf53 42 = .ok (.invokevirtual 101, 3) := by decide +kernel
theorem dJ8_hugeLength_7cf53_45 : decode cJ8_hugeLength_7cf53 45 = .ok (.invokespecial 212, 3) := by decide +kernel
theorem dJ8_hugeLength_7cf53_48 : decode cJ8_hugeLength_7cf53 48 = .ok (.athrow, 1) := by decide +kernel
theorem dJ8_hugeLength_7cf53_49 : decode cJ8_hugeLength_7cf53 49 = .ok (.iload_n 2, 1) := by decide +kernel
theorem dJ8_hugeLength_7cf53_50 : decode cJ8_hugeLength_7cf53 50 = .ok (.ldc 200, 2) := by decide +kernel
theorem dJ8_hugeLength_7cf53_52 : decode cJ8_hugeLength_7cf53 52 = .ok (.if_icmp .gt 6, 3) := by decide +kernel
theorem dJ8_hugeLength_7cf53_55 : decode cJ8_hugeLength_7cf53 55 = .ok (.ldc 200, 2) := by decide +kernel
theorem dJ8_hugeLength_7cf53_57 : decode cJ8_hugeLength_7cf53 57 = .ok (.ireturn, 1) := by decide +kernel
theorem dJ8_hugeLength_7cf53_58 : decode cJ8_hugeLength_7cf53 58 = .ok (.iload_n 2, 1) := by decide +kernel
theorem dJ8_hugeLength_7cf53_59 : decode cJ8_hugeLength_7cf53 59 = .ok (.ireturn, 1) := by decide +kernel
theorem dJ3_checkIndex_8e157_0 : decode cJ3_checkIndex_8e157 0 = .ok (.iload_n 0, 1) := by decide +kernel
theorem dJ3_checkIndex_8e157_1 : decode cJ3_checkIndex_8e157 1 = .ok (.ifCond .lt 8, 3) := by decide +kernel
theorem dJ3_checkIndex_8e157_4 : decode cJ3_checkIndex_8e157 4 = .ok (.iload_n 0, 1) := by decide +kernel
theorem dJ3_checkIndex_8e157_5 : decode cJ3_checkIndex_8e157 5 = .ok (.iload_n 1, 1) := by decide +kernel
theorem dJ3_checkIndex_8e157_6 : decode cJ3_checkIndex_8e157 6 = .ok (.if_icmp .lt 10, 3) := by decide +kernel
theorem dJ3_checkIndex_8e157_9 : decode cJ3_checkIndex_8e157 9 = .ok (.aload_n 2, 1) := by decide +kernel
theorem dJ3_checkIndex_8e157_10 : decode cJ3_checkIndex_8e157 10 = .ok (.iload_n 0, 1) := by decide +kernel
theorem dJ3_checkIndex_8e157_11 : decode cJ3_checkIndex_8e157 11 = .ok (.iload_n 1, 1) := by decide +kernel
theorem dJ3_checkIndex_8e157_12 : decode cJ3_checkIndex_8e157 12 = .ok (.invokestatic 95, 3) := by decide +kernel
theorem dJ3_checkIndex_8e157_15 : decode cJ3_checkIndex_8e157 15 = .ok (.athrow, 1) := by decide +kernel
theorem dJ3_checkIndex_8e157_16 : decode cJ3_checkIndex_8e157 16 = .ok (.iload_n 0, 1) := by decide +kernel
theorem dJ3_checkIndex_8e157_17 : decode cJ3_checkIndex_8e157 17 = .ok (.ireturn, 1) := by decide +kernel
theorem dL_draw_0 : decode cL_draw 0 = .ok (.iload_n 1, 1) := by decide +kernel
theorem dL_draw_1 : decode cL_draw 1 = .ok (.aload_n 0, 1) := by decide +kernel
theorem dL_draw_2 : decode cL_draw 2 = .ok (.arraylength, 1) := by decide +kernel
theorem dL_draw_3 : decode cL_draw 3 = .ok (.if_icmp .ge 9, 3) := by decide +kernel
theorem dL_draw_6 : decode cL_draw 6 = .ok (.aload_n 0, 1) := by decide +kernel
theorem dL_draw_7 : decode cL_draw 7 = .ok (.iload_n 1, 1) := by decide +kernel
theorem dL_draw_8 : decode cL_draw 8 = .ok (.iaload, 1) := by decide +kernel
theorem dL_draw_9 : decode cL_draw 9 = .ok (.goto 11, 3) := by decide +kernel
theorem dL_draw_12 : decode cL_draw 12 = .ok (.ldc 7, 2) := by decide +kernel
theorem dL_draw_14 : decode cL_draw 14 = .ok (.iload_n 1, 1) := by decide +kernel
theorem dL_draw_15 : decode cL_draw 15 = .ok (.imul, 1) := by decide +kernel
theorem dL_draw_16 : decode cL_draw 16 = .ok (.sipush 11807, 3) := by decide +kernel
theorem dL_draw_19 : decode cL_draw 19 = .ok (.iadd, 1) := by decide +kernel
theorem dL_draw_20 : decode cL_draw 20 = .ok (.ldc 8, 2) := by decide +kernel
theorem dL_draw_22 : decode cL_draw 22 = .ok (.iand, 1) := by decide +kernel
theorem dL_draw_23 : decode cL_draw 23 = .ok (.ireturn, 1) := by decide +kernel
set_option maxRecDepth 20000 in
theorem ggL_ground_X5_ground : GoodIn wsL_ground wsX5_ground := goodIn_ca (goodIn_ca (goodIn_r _ [9, 10, 11, 12, 13, 14, 15, 16, 17, 18, 8, 19, 20, 21, 22, 23, 24, 25, 26, 27, 28, 29, 30, 31, 32, 33, 34, 35, 36, 37, 38, 39, 40, 41, 42, 43, 44, 45, 46, 47, 48, 49, 50, 51, 52, 53, 54, 55, 56, 57, 58, 59, 60] (by decide +kernel) (by decide +kernel)) (goodIn_sub (fun _ h => List.mem_cons_of_mem _ (List.mem_append_left _ (List.mem_append_right _ h))) (by decide +kernel))) (goodIn_sub (fun _ h => List.mem_cons_of_mem _ (List.mem_append_right _ h)) (by decide +kernel))
set_option maxRecDepth 20000 in
theorem gL_ground_X5_ground : GoodIn wsL_ground (wsV RL 9 RX5 yX5_ground wsX5_ground) := goodIn_app (goodIn_of _ (by decide +kernel)) ggL_ground_X5_ground
theorem dL_ground_0 : decode cL_ground 0 = .ok (.aload_n 0, 1) := by decide +kernel
theorem dL_ground_1 : decode cL_ground 1 = .ok (.iload_n 1, 1) := by decide +kernel
theorem dL_ground_2 : decode cL_ground 2 = .ok (.iload_n 2, 1) := by decide +kernel
theorem dL_ground_3 : decode cL_ground 3 = .ok (.iload_n 3, 1) := by decide +kernel
theorem dL_ground_4 : decode cL_ground 4 = .ok (.iload 4, 2) := by decide +kernel
theorem dL_ground_6 : decode cL_ground 6 = .ok (.iload 5, 2) := by decide +kernel
theorem dL_ground_8 : decode cL_ground 8 = .ok (.iload 6, 2) := by decide +kernel
theorem dL_ground_10 : decode cL_ground 10 = .ok (.invokevirtual 9, 3) := by decide +kernel
theorem dL_ground_13 : decode cL_ground 13 = .ok (.lconst 0, 1) := by decide +kernel
theorem dL_ground_14 : decode cL_ground 14 = .ok (.lreturn, 1) := by decide +kernel
theorem dL_ground_15 : decode cL_ground 15 = .ok (.astore 7, 2) := by decide +kernel
theorem dL_ground_17 : decode cL_ground 17 = .ok (.ldc2_w 17, 3) := by decide +kernel
theorem dL_ground_20 : decode cL_ground 20 = .ok (.lreturn, 1) := by decide +kernel
theorem dL_ground_21 : decode cL_ground 21 = .ok (.astore 7, 2) := by decide +kernel
theorem dL_ground_23 : decode cL_ground 23 = .ok (.ldc2_w 21, 3) := by decide +kernel
theorem dL_ground_26 : decode cL_ground 26 = .ok (.lreturn, 1) := by decide +kernel
set_option maxRecDepth 20000 in
theorem ggL_moss_X5_moss : GoodIn wsL_moss wsX5_moss := goodIn_ca (goodIn_ca (goodIn_r _ [9, 10, 11, 12, 13, 8, 14, 15, 16, 17, 18, 19, 20, 21, 22, 23, 24, 25, 26, 27, 28, 29, 30, 31, 32, 33, 34, 35, 36, 37, 38] (by decide +kernel) (by decide +kernel)) (goodIn_sub (fun _ h => List.mem_cons_of_mem _ (List.mem_append_left _ (List.mem_append_right _ h))) (by decide +kernel))) (goodIn_sub (fun _ h => List.mem_cons_of_mem _ (List.mem_append_right _ h)) (by decide +kernel))
set_option maxRecDepth 20000 in
theorem gL_moss_X5_moss : GoodIn wsL_moss (wsV RL 23 RX5 yX5_moss wsX5_moss) := goodIn_app (goodIn_of _ (by decide +kernel)) ggL_moss_X5_moss
theorem dL_moss_0 : decode cL_moss 0 = .ok (.aload_n 0, 1) := by decide +kernel
theorem dL_moss_1 : decode cL_moss 1 = .ok (.iload_n 1, 1) := by decide +kernel
theorem dL_moss_2 : decode cL_moss 2 = .ok (.iload_n 2, 1) := by decide +kernel
theorem dL_moss_3 : decode cL_moss 3 = .ok (.invokevirtual 23, 3) := by decide +kernel
theorem dL_moss_6 : decode cL_moss 6 = .ok (.i2l, 1) := by decide +kernel
theorem dL_moss_7 : decode cL_moss 7 = .ok (.lreturn, 1) := by decide +kernel
theorem dL_moss_8 : decode cL_moss 8 = .ok (.astore_n 3, 1) := by decide +kernel
theorem dL_moss_9 : decode cL_moss 9 = .ok (.ldc2_w 17, 3) := by decide +kernel
theorem dL_moss_12 : decode cL_moss 12 = .ok (.lreturn, 1) := by decide +kernel
theorem dL_moss_13 : decode cL_moss 13 = .ok (.astore_n 3, 1) := by decide +kernel
theorem dL_moss_14 : decode cL_moss 14 = .ok (.ldc2_w 21, 3) := by decide +kernel
theorem dL_moss_17 : decode cL_moss 17 = .ok (.lreturn, 1) := by decide +kernel
set_option maxRecDepth 20000 in
theorem ggL_pass_X5_pass : GoodIn wsL_pass wsX5_pass := goodIn_ca (goodIn_ca (goodIn_r _ [9, 10, 11, 12, 8, 13, 14, 15, 16, 17, 18, 19, 20, 21, 22, 23, 24, 25, 26, 27, 28, 29, 30, 31, 32, 33, 34, 35, 36, 37, 38, 39, 40, 41, 42, 43, 44, 45, 46, 47, 48, 49, 50, 51, 52, 53, 54, 55, 56, 57, 58, 59, 60, 61, 62, 63, 64, 65, 66, 67, 68, 69, 70, 71, 72, 73, 74, 75, 76, 77, 78, 79, 80, 81, 82, 83, 84, 85, 86, 87, 88, 89, 90, 91, 92, 93, 94, 95, 96, 97, 98, 99, 100, 101, 102, 103, 104, 105, 106, 107, 108, 109, 110, 111, 112, 113, 114, 115, 116, 117, 118, 119, 120, 121, 122, 123, 124, 125, 126, 127, 128, 129, 130, 131, 132, 133, 134, 135, 136, 137, 138, 139, 140, 141, 142, 143, 144, 145, 146, 147, 148, 149, 150, 151, 152, 153, 154, 155, 156, 157, 158, 159, 160, 161, 162, 163, 164, 165, 166, 167, 168, 169, 170, 171, 172, 173, 174, 175, 176, 177, 178, 179, 180, 181, 182, 183, 184, 185, 186, 187, 188, 189, 190, 191, 192, 193, 194, 195, 196, 197, 198, 199, 200, 201, 202, 203, 204, 205, 206, 207, 208, 209, 210, 211, 212, 213, 214, 215, 216, 217, 218, 219, 220, 221, 222, 223, 224, 225, 226, 227, 228, 229, 230, 231, 232, 233] (by decide +kernel) (by decide +kernel)) (goodIn_sub (fun _ h => List.mem_cons_of_mem _ (List.mem_append_left _ (List.mem_append_right _ h))) (by decide +kernel))) (goodIn_sub (fun _ h => List.mem_cons_of_mem _ (List.mem_append_right _ h)) (by decide +kernel))
set_option maxRecDepth 20000 in
theorem gL_pass_X5_pass : GoodIn wsL_pass (wsV RL 27 RX5 yX5_pass wsX5_pass) := goodIn_app (goodIn_of _ (by decide +kernel)) ggL_pass_X5_pass
theorem dL_pass_0 : decode cL_pass 0 = .ok (.aload_n 0, 1) := by decide +kernel
theorem dL_pass_1 : decode cL_pass 1 = .ok (.iload_n 1, 1) := by decide +kernel
theorem dL_pass_2 : decode cL_pass 2 = .ok (.iload_n 2, 1) := by decide +kernel
theorem dL_pass_3 : decode cL_pass 3 = .ok (.iload_n 3, 1) := by decide +kernel
theorem dL_pass_4 : decode cL_pass 4 = .ok (.invokevirtual 27, 3) := by decide +kernel
theorem dL_pass_7 : decode cL_pass 7 = .ok (.i2l, 1) := by decide +kernel
theorem dL_pass_8 : decode cL_pass 8 = .ok (.lreturn, 1) := by decide +kernel
theorem dL_pass_9 : decode cL_pass 9 = .ok (.astore 4, 2) := by decide +kernel
theorem dL_pass_11 : decode cL_pass 11 = .ok (.ldc2_w 21, 3) := by decide +kernel
theorem dL_pass_14 : decode cL_pass 14 = .ok (.lreturn, 1) := by decide +kernel
theorem dL_pass_15 : decode cL_pass 15 = .ok (.astore 4, 2) := by decide +kernel
theorem dL_pass_17 : decode cL_pass 17 = .ok (.ldc2_w 33, 3) := by decide +kernel
theorem dL_pass_20 : decode cL_pass 20 = .ok (.lreturn, 1) := by decide +kernel
set_option maxRecDepth 20000 in
theorem ggL_fire_X5_fire : GoodIn wsL_fire wsX5_fire := goodIn_ca (goodIn_ca (goodIn_r _ [9, 10, 11, 12, 13, 14, 15, 16, 17, 8, 18, 19, 20, 21, 22, 23, 24, 25, 26, 27, 28, 29, 30, 31, 32, 33, 34, 35, 36, 37, 38, 39, 40, 41, 42, 43, 44, 45, 46, 47, 48, 49, 50, 51, 52] (by decide +kernel) (by decide +kernel)) (goodIn_sub (fun _ h => List.mem_cons_of_mem _ (List.mem_append_left _ (List.mem_append_right _ h))) (by decide +kernel))) (goodIn_sub (fun _ h => List.mem_cons_of_mem _ (List.mem_append_right _ h)) (by decide +kernel))
set_option maxRecDepth 20000 in
theorem gL_fire_X5_fire : GoodIn wsL_fire (wsV RL 35 RX5 yX5_fire wsX5_fire) := goodIn_app (goodIn_of _ (by decide +kernel)) ggL_fire_X5_fire
theorem dL_fire_0 : decode cL_fire 0 = .ok (.aload_n 0, 1) := by decide +kernel
theorem dL_fire_1 : decode cL_fire 1 = .ok (.iload_n 1, 1) := by decide +kernel
theorem dL_fire_2 : decode cL_fire 2 = .ok (.invokevirtual 35, 3) := by decide +kernel
theorem dL_fire_5 : decode cL_fire 5 = .ok (.i2l, 1) := by decide +kernel
theorem dL_fire_6 : decode cL_fire 6 = .ok (.lreturn, 1) := by decide +kernel
theorem dL_fire_7 : decode cL_fire 7 = .ok (.astore_n 2, 1) := by decide +kernel
theorem dL_fire_8 : decode cL_fire 8 = .ok (.ldc2_w 17, 3) := by decide +kernel
theorem dL_fire_11 : decode cL_fire 11 = .ok (.lreturn, 1) := by decide +kernel
theorem dL_fire_12 : decode cL_fire 12 = .ok (.astore_n 2, 1) := by decide +kernel
theorem dL_fire_13 : decode cL_fire 13 = .ok (.ldc2_w 33, 3) := by decide +kernel
theorem dL_fire_16 : decode cL_fire 16 = .ok (.lreturn, 1) := by decide +kernel
set_option maxRecDepth 20000 in
theorem ggL_breach_X5_breach : GoodIn wsL_breach wsX5_breach := goodIn_ca (goodIn_ca (goodIn_r _ [9, 10, 11, 12, 13, 14, 15, 8, 16, 17, 18, 19, 20, 21, 22, 23, 24, 25, 26, 27, 28, 29, 30, 31, 32, 33, 34, 35, 36, 37, 38, 39, 40, 41, 42, 43, 44, 45, 46, 47, 48, 49, 50, 51, 52, 53, 54, 55, 56, 57, 58, 59, 60, 61] (by decide +kernel) (by decide +kernel)) (goodIn_sub (fun _ h => List.mem_cons_of_mem _ (List.mem_append_left _ (List.mem_append_right _ h))) (by decide +kernel))) (goodIn_sub (fun _ h => List.mem_cons_of_mem _ (List.mem_append_right _ h)) (by decide +kernel))
set_option maxRecDepth 20000 in
theorem gL_breach_X5_breach : GoodIn wsL_breach (wsV RL 39 RX5 yX5_breach wsX5_breach) := goodIn_app (goodIn_of _ (by decide +kernel)) ggL_breach_X5_breach
theorem dL_breach_0 : decode cL_breach 0 = .ok (.aload_n 0, 1) := by decide +kernel
theorem dL_breach_1 : decode cL_breach 1 = .ok (.iload_n 1, 1) := by decide +kernel
theorem dL_breach_2 : decode cL_breach 2 = .ok (.invokevirtual 39, 3) := by decide +kernel
theorem dL_breach_5 : decode cL_breach 5 = .ok (.i2l, 1) := by decide +kernel
theorem dL_breach_6 : decode cL_breach 6 = .ok (.lreturn, 1) := by decide +kernel
theorem dL_breach_7 : decode cL_breach 7 = .ok (.astore_n 2, 1) := by decide +kernel
theorem dL_breach_8 : decode cL_breach 8 = .ok (.ldc2_w 17, 3) := by decide +kernel
theorem dL_breach_11 : decode cL_breach 11 = .ok (.lreturn, 1) := by decide +kernel
theorem dL_breach_12 : decode cL_breach 12 = .ok (.astore_n 2, 1) := by decide +kernel
theorem dL_breach_13 : decode cL_breach 13 = .ok (.ldc2_w 33, 3) := by decide +kernel
theorem dL_breach_16 : decode cL_breach 16 = .ok (.lreturn, 1) := by decide +kernel
set_option maxRecDepth 20000 in
theorem ggL_house_X5_house : GoodIn wsL_house wsX5_house := goodIn_ca (goodIn_ca (goodIn_r _ [9, 10, 11, 12, 13, 14, 15, 16, 17, 18, 8, 19, 20, 21, 22, 23, 24, 25, 26, 27, 28, 29, 30, 31, 32, 33, 34, 35, 36, 37, 38, 39, 40, 41, 42, 43, 44, 45, 46, 47, 48, 49, 50, 51, 52, 53, 54, 55, 56, 57, 58, 59, 60, 61, 62, 63, 64, 65, 66, 67, 68, 69, 70, 71, 72, 73, 74, 75, 76, 77, 78, 79, 80, 81, 82, 83, 84, 85, 86, 87, 88, 89, 90, 91, 92, 93, 94, 95, 96, 97, 98, 99, 100, 101, 102, 103, 104, 105, 106, 107, 108, 109, 110, 111, 112, 113, 114, 115, 116, 117, 118, 119, 120, 121, 122, 123, 124, 125, 126, 127] (by decide +kernel) (by decide +kernel)) (goodIn_sub (fun _ h => List.mem_cons_of_mem _ (List.mem_append_left _ (List.mem_append_right _ h))) (by decide +kernel))) (goodIn_sub (fun _ h => List.mem_cons_of_mem _ (List.mem_append_right _ h)) (by decide +kernel))
set_option maxRecDepth 20000 in
theorem gL_house_X5_house : GoodIn wsL_house (wsV RL 42 RX5 yX5_house wsX5_house) := goodIn_app (goodIn_of _ (by decide +kernel)) ggL_house_X5_house
theorem dL_house_0 : decode cL_house 0 = .ok (.aload_n 0, 1) := by decide +kernel
theorem dL_house_1 : decode cL_house 1 = .ok (.iload_n 1, 1) := by decide +kernel
theorem dL_house_2 : decode cL_house 2 = .ok (.iload_n 2, 1) := by decide +kernel
theorem dL_house_3 : decode cL_house 3 = .ok (.iload_n 3, 1) := by decide +kernel
theorem dL_house_4 : decode cL_house 4 = .ok (.invokevirtual 42, 3) := by decide +kernel
theorem dL_house_7 : decode cL_house 7 = .ok (.i2l, 1) := by decide +kernel
theorem dL_house_8 : decode cL_house 8 = .ok (.lreturn, 1) := by decide +kernel
theorem dL_house_9 : decode cL_house 9 = .ok (.astore 4, 2) := by decide +kernel
theorem dL_house_11 : decode cL_house 11 = .ok (.ldc2_w 17, 3) := by decide +kernel
theorem dL_house_14 : decode cL_house 14 = .ok (.lreturn, 1) := by decide +kernel
theorem dL_house_15 : decode cL_house 15 = .ok (.astore 4, 2) := by decide +kernel
theorem dL_house_17 : decode cL_house 17 = .ok (.ldc2_w 33, 3) := by decide +kernel
theorem dL_house_20 : decode cL_house 20 = .ok (.lreturn, 1) := by decide +kernel
set_option maxRecDepth 20000 in
theorem ggL_borehole_X5_borehole : GoodIn wsL_borehole wsX5_borehole := goodIn_ca (goodIn_ca (goodIn_ca (goodIn_r _ [11, 12, 13, 14, 15, 16, 17, 18, 10, 19, 20, 21, 22, 23, 24, 25, 26, 27, 28, 29, 30, 31, 32, 33, 34, 35, 36, 37, 38, 39, 40, 41, 42, 43, 44, 45, 46, 47, 48, 49, 50, 51, 52, 53, 54, 55, 56, 57, 58, 59, 60, 61, 62, 63, 64, 65, 66, 67, 68, 69, 70, 71, 72, 73, 74, 75, 76, 77, 78, 79, 80, 81, 82, 83, 84, 85, 86, 87, 88, 89, 90, 91, 92, 93, 94, 95, 96, 97, 98, 99, 100, 101, 102, 103, 104, 105, 106, 107, 108, 109, 110, 111, 112, 113, 114, 115, 116, 117, 118, 119, 120, 121] (by decide +kernel) (by decide +kernel)) (goodIn_sub (fun _ h => List.mem_cons_of_mem _ (List.mem_append_left _ (List.mem_append_left _ (List.mem_append_right _ h)))) (by decide +kernel))) (goodIn_sub (fun _ h => List.mem_cons_of_mem _ (List.mem_append_left _ (List.mem_append_right _ h))) (by decide +kernel))) (goodIn_sub (fun _ h => List.mem_cons_of_mem _ (List.mem_append_right _ h)) (by decide +kernel))
set_option maxRecDepth 20000 in
theorem gL_borehole_X5_borehole : GoodIn wsL_borehole (wsV RL 46 RX5 yX5_borehole wsX5_borehole) := goodIn_app (goodIn_of _ (by decide +kernel)) ggL_borehole_X5_borehole
theorem dL_borehole_0 : decode cL_borehole 0 = .ok (.aload_n 0, 1) := by decide +kernel
theorem dL_borehole_1 : decode cL_borehole 1 = .ok (.iload_n 1, 1) := by decide +kernel
theorem dL_borehole_2 : decode cL_borehole 2 = .ok (.iload_n 2, 1) := by decide +kernel
theorem dL_borehole_3 : decode cL_borehole 3 = .ok (.invokevirtual 46, 3) := by decide +kernel
theorem dL_borehole_6 : decode cL_borehole 6 = .ok (.i2l, 1) := by decide +kernel
theorem dL_borehole_7 : decode cL_borehole 7 = .ok (.lreturn, 1) := by decide +kernel
theorem dL_borehole_8 : decode cL_borehole 8 = .ok (.astore_n 3, 1) := by decide +kernel
theorem dL_borehole_9 : decode cL_borehole 9 = .ok (.ldc2_w 17, 3) := by decide +kernel
theorem dL_borehole_12 : decode cL_borehole 12 = .ok (.lreturn, 1) := by decide +kernel
theorem dL_borehole_13 : decode cL_borehole 13 = .ok (.astore_n 3, 1) := by decide +kernel
theorem dL_borehole_14 : decode cL_borehole 14 = .ok (.ldc2_w 21, 3) := by decide +kernel
theorem dL_borehole_17 : decode cL_borehole 17 = .ok (.lreturn, 1) := by decide +kernel
theorem dL_borehole_18 : decode cL_borehole 18 = .ok (.astore_n 3, 1) := by decide +kernel
theorem dL_borehole_19 : decode cL_borehole 19 = .ok (.ldc2_w 33, 3) := by decide +kernel
theorem dL_borehole_22 : decode cL_borehole 22 = .ok (.lreturn, 1) := by decide +kernel
set_option maxRecDepth 20000 in
theorem ggL_claim_X5_claim : GoodIn wsL_claim wsX5_claim := goodIn_ca (goodIn_ca (goodIn_r _ [9, 10, 11, 12, 13, 14, 15, 16, 17, 18, 19, 20, 21, 22, 23, 24, 25, 8, 26, 27, 28, 29, 30, 31, 32, 33, 34, 35, 36, 37, 38, 39, 40, 41, 42, 43, 44, 45, 46, 47, 48, 49, 50, 51, 52, 53, 54, 55, 56, 57, 58, 59, 60, 61, 62, 63, 64, 65, 66, 67, 68, 69, 70, 71, 72, 73, 74, 75, 76, 77, 78, 79, 80, 81, 82, 83, 84, 85, 86, 87, 88, 89, 90, 91, 92, 93, 94, 95, 96, 97, 98, 99, 100, 101, 102, 103, 104, 105, 106, 107, 108, 109, 110, 111, 112, 113, 114, 115, 116, 117, 118, 119, 120, 121, 122, 123, 124, 125, 126, 127, 128, 129, 130, 131, 132, 133, 134, 135, 136, 137, 138, 139, 140, 141, 142, 143, 144, 145, 146, 147, 148, 149, 150, 151, 152, 153, 154, 155, 156, 157, 158, 159, 160, 161, 162, 163, 164, 165, 166, 167, 168, 169, 170, 171, 172] (by decide +kernel) (by decide +kernel)) (goodIn_sub (fun _ h => List.mem_cons_of_mem _ (List.mem_append_left _ (List.mem_append_right _ h))) (by decide +kernel))) (goodIn_sub (fun _ h => List.mem_cons_of_mem _ (List.mem_append_right _ h)) (by decide +kernel))
set_option maxRecDepth 20000 in
theorem gL_claim_X5_claim : GoodIn wsL_claim (wsV RL 49 RX5 yX5_claim wsX5_claim) := goodIn_app (goodIn_of _ (by decide +kernel)) ggL_claim_X5_claim
theorem dL_claim_0 : decode cL_claim 0 = .ok (.aload_n 0, 1) := by decide +kernel
theorem dL_claim_1 : decode cL_claim 1 = .ok (.iload_n 1, 1) := by decide +kernel
theorem dL_claim_2 : decode cL_claim 2 = .ok (.invokevirtual 49, 3) := by decide +kernel
theorem dL_claim_5 : decode cL_claim 5 = .ok (.i2l, 1) := by decide +kernel
theorem dL_claim_6 : decode cL_claim 6 = .ok (.lreturn, 1) := by decide +kernel
theorem dL_claim_7 : decode cL_claim 7 = .ok (.astore_n 2, 1) := by decide +kernel
theorem dL_claim_8 : decode cL_claim 8 = .ok (.ldc2_w 17, 3) := by decide +kernel
theorem dL_claim_11 : decode cL_claim 11 = .ok (.lreturn, 1) := by decide +kernel
theorem dL_claim_12 : decode cL_claim 12 = .ok (.astore_n 2, 1) := by decide +kernel
theorem dL_claim_13 : decode cL_claim 13 = .ok (.ldc2_w 33, 3) := by decide +kernel
theorem dL_claim_16 : decode cL_claim 16 = .ok (.lreturn, 1) := by decide +kernel
set_option maxRecDepth 20000 in
theorem ggL_cellOf_X5_cellOf : GoodIn wsL_cellOf wsX5_cellOf := goodIn_ca (goodIn_ca (goodIn_r _ [9, 10, 11, 12, 13, 14, 15, 16, 17, 18, 8, 19, 20, 21, 22, 23, 24, 25, 26, 27, 28, 29, 30, 31, 32, 33, 34, 35, 36, 37, 38, 39, 40, 41, 42, 43, 44, 45, 46, 47, 48, 49, 50, 51, 52, 53, 54, 55, 56, 57, 58, 59, 60, 61, 62, 63, 64, 65, 66, 67, 68, 69, 70, 71, 72, 73, 74, 75, 76, 77, 78, 79, 80, 81] (by decide +kernel) (by decide +kernel)) (goodIn_sub (fun _ h => List.mem_cons_of_mem _ (List.mem_append_left _ (List.mem_append_right _ h))) (by decide +kernel))) (goodIn_sub (fun _ h => List.mem_cons_of_mem _ (List.mem_append_right _ h)) (by decide +kernel))
set_option maxRecDepth 20000 in
theorem gL_cellOf_X5_cellOf : GoodIn wsL_cellOf (wsV RL 52 RX5 yX5_cellOf wsX5_cellOf) := goodIn_app (goodIn_of _ (by decide +kernel)) ggL_cellOf_X5_cellOf
theorem dL_cellOf_0 : decode cL_cellOf 0 = .ok (.aload_n 0, 1) := by decide +kernel
theorem dL_cellOf_1 : decode cL_cellOf 1 = .ok (.iload_n 1, 1) := by decide +kernel
theorem dL_cellOf_2 : decode cL_cellOf 2 = .ok (.iload_n 2, 1) := by decide +kernel
theorem dL_cellOf_3 : decode cL_cellOf 3 = .ok (.invokevirtual 52, 3) := by decide +kernel
theorem dL_cellOf_6 : decode cL_cellOf 6 = .ok (.i2l, 1) := by decide +kernel
theorem dL_cellOf_7 : decode cL_cellOf 7 = .ok (.lreturn, 1) := by decide +kernel
theorem dL_cellOf_8 : decode cL_cellOf 8 = .ok (.astore_n 3, 1) := by decide +kernel
theorem dL_cellOf_9 : decode cL_cellOf 9 = .ok (.ldc2_w 17, 3) := by decide +kernel
theorem dL_cellOf_12 : decode cL_cellOf 12 = .ok (.lreturn, 1) := by decide +kernel
theorem dL_cellOf_13 : decode cL_cellOf 13 = .ok (.astore_n 3, 1) := by decide +kernel
theorem dL_cellOf_14 : decode cL_cellOf 14 = .ok (.ldc2_w 21, 3) := by decide +kernel
theorem dL_cellOf_17 : decode cL_cellOf 17 = .ok (.lreturn, 1) := by decide +kernel
set_option maxRecDepth 20000 in
theorem ggL_layerOf_X5_layerOf : GoodIn wsL_layerOf wsX5_layerOf := goodIn_ca (goodIn_ca (goodIn_r _ [9, 10, 11, 12, 13, 14, 15, 16, 17, 8, 18, 19, 20, 21, 22, 23, 24, 25, 26, 27, 28, 29, 30, 31, 32, 33, 34, 35, 36, 37, 38, 39, 40, 41, 42, 43, 44, 45, 46, 47, 48, 49, 50, 51, 52, 53, 54, 55, 56, 57, 58, 59, 60, 61, 62, 63, 64, 65, 66, 67, 68, 69] (by decide +kernel) (by decide +kernel)) (goodIn_sub (fun _ h => List.mem_cons_of_mem _ (List.mem_append_left _ (List.mem_append_right _ h))) (by decide +kernel))) (goodIn_sub (fun _ h => List.mem_cons_of_mem _ (List.mem_append_right _ h)) (by decide +kernel))
set_option maxRecDepth 20000 in
theorem gL_layerOf_X5_layerOf : GoodIn wsL_layerOf (wsV RL 55 RX5 yX5_layerOf wsX5_layerOf) := goodIn_app (goodIn_of _ (by decide +kernel)) ggL_layerOf_X5_layerOf
theorem dL_layerOf_0 : decode cL_layerOf 0 = .ok (.aload_n 0, 1) := by decide +kernel
theorem dL_layerOf_1 : decode cL_layerOf 1 = .ok (.iload_n 1, 1) := by decide +kernel
theorem dL_layerOf_2 : decode cL_layerOf 2 = .ok (.iload_n 2, 1) := by decide +kernel
theorem dL_layerOf_3 : decode cL_layerOf 3 = .ok (.iload_n 3, 1) := by decide +kernel
theorem dL_layerOf_4 : decode cL_layerOf 4 = .ok (.invokevirtual 55, 3) := by decide +kernel
theorem dL_layerOf_7 : decode cL_layerOf 7 = .ok (.i2l, 1) := by decide +kernel
theorem dL_layerOf_8 : decode cL_layerOf 8 = .ok (.lreturn, 1) := by decide +kernel
theorem dL_layerOf_9 : decode cL_layerOf 9 = .ok (.astore 4, 2) := by decide +kernel
theorem dL_layerOf_11 : decode cL_layerOf 11 = .ok (.ldc2_w 17, 3) := by decide +kernel
theorem dL_layerOf_14 : decode cL_layerOf 14 = .ok (.lreturn, 1) := by decide +kernel
theorem dL_layerOf_15 : decode cL_layerOf 15 = .ok (.astore 4, 2) := by decide +kernel
theorem dL_layerOf_17 : decode cL_layerOf 17 = .ok (.ldc2_w 21, 3) := by decide +kernel
theorem dL_layerOf_20 : decode cL_layerOf 20 = .ok (.lreturn, 1) := by decide +kernel
set_option maxRecDepth 20000 in
theorem ggL_neighbour_X5_neighbour : GoodIn wsL_neighbour wsX5_neighbour := goodIn_ca (goodIn_r _ [7, 8, 9, 10, 11, 12, 6, 13, 14, 15, 16] (by decide +kernel) (by decide +kernel)) (goodIn_sub (fun _ h => List.mem_cons_of_mem _ (List.mem_append_right _ h)) (by decide +kernel))
set_option maxRecDepth 20000 in
theorem gL_neighbour_X5_neighbour : GoodIn wsL_neighbour (wsV RL 58 RX5 yX5_neighbour wsX5_neighbour) := goodIn_app (goodIn_of _ (by decide +kernel)) ggL_neighbour_X5_neighbour
theorem dL_neighbour_0 : decode cL_neighbour 0 = .ok (.aload_n 0, 1) := by decide +kernel
theorem dL_neighbour_1 : decode cL_neighbour 1 = .ok (.iload_n 1, 1) := by decide +kernel
theorem dL_neighbour_2 : decode cL_neighbour 2 = .ok (.iload_n 2, 1) := by decide +kernel
theorem dL_neighbour_3 : decode cL_neighbour 3 = .ok (.invokevirtual 58, 3) := by decide +kernel
theorem dL_neighbour_6 : decode cL_neighbour 6 = .ok (.i2l, 1) := by decide +kernel
theorem dL_neighbour_7 : decode cL_neighbour 7 = .ok (.lreturn, 1) := by decide +kernel
theorem dL_neighbour_8 : decode cL_neighbour 8 = .ok (.astore_n 3, 1) := by decide +kernel
theorem dL_neighbour_9 : decode cL_neighbour 9 = .ok (.ldc2_w 17, 3) := by decide +kernel
theorem dL_neighbour_12 : decode cL_neighbour 12 = .ok (.lreturn, 1) := by decide +kernel
set_option maxRecDepth 20000 in
theorem ggL_houseOf_X5_houseOf : GoodIn wsL_houseOf wsX5_houseOf := goodIn_ca (goodIn_ca (goodIn_r _ [9, 10, 11, 12, 13, 14, 15, 16, 17, 18, 19, 20, 21, 22, 23, 24, 8, 25, 26, 27, 28, 29, 30, 31, 32, 33, 34, 35, 36, 37, 38, 39, 40, 41, 42, 43, 44, 45, 46, 47, 48, 49, 50, 51, 52, 53, 54, 55, 56, 57, 58, 59, 60, 61, 62, 63, 64, 65, 66, 67, 68, 69, 70, 71, 72, 73, 74, 75, 76, 77, 78, 79, 80, 81, 82, 83, 84, 85, 86, 87, 88, 89, 90, 91, 92, 93, 94, 95, 96, 97, 98, 99, 100, 101, 102, 103] (by decide +kernel) (by decide +kernel)) (goodIn_sub (fun _ h => List.mem_cons_of_mem _ (List.mem_append_left _ (List.mem_append_right _ h))) (by decide +kernel))) (goodIn_sub (fun _ h => List.mem_cons_of_mem _ (List.mem_append_right _ h)) (by decide +kernel))
set_option maxRecDepth 20000 in
theorem gL_houseOf_X5_houseOf : GoodIn wsL_houseOf (wsV RL 61 RX5 yX5_houseOf wsX5_houseOf) := goodIn_app (goodIn_of _ (by decide +kernel)) ggL_houseOf_X5_houseOf
theorem dL_houseOf_0 : decode cL_houseOf 0 = .ok (.aload_n 0, 1) := by decide +kernel
theorem dL_houseOf_1 : decode cL_houseOf 1 = .ok (.iload_n 1, 1) := by decide +kernel
theorem dL_houseOf_2 : decode cL_houseOf 2 = .ok (.iload_n 2, 1) := by decide +kernel
theorem dL_houseOf_3 : decode cL_houseOf 3 = .ok (.invokevirtual 61, 3) := by decide +kernel
theorem dL_houseOf_6 : decode cL_houseOf 6 = .ok (.i2l, 1) := by decide +kernel
theorem dL_houseOf_7 : decode cL_houseOf 7 = .ok (.lreturn, 1) := by decide +kernel
theorem dL_houseOf_8 : decode cL_houseOf 8 = .ok (.astore_n 3, 1) := by decide +kernel
theorem dL_houseOf_9 : decode cL_houseOf 9 = .ok (.ldc2_w 17, 3) := by decide +kernel
theorem dL_houseOf_12 : decode cL_houseOf 12 = .ok (.lreturn, 1) := by decide +kernel
theorem dL_houseOf_13 : decode cL_houseOf 13 = .ok (.astore_n 3, 1) := by decide +kernel
theorem dL_houseOf_14 : decode cL_houseOf 14 = .ok (.ldc2_w 21, 3) := by decide +kernel
theorem dL_houseOf_17 : decode cL_houseOf 17 = .ok (.lreturn, 1) := by decide +kernel
set_option maxRecDepth 20000 in
theorem ggL_reading_X5_reading : GoodIn wsL_reading wsX5_reading := goodIn_ca (goodIn_r _ [7, 8, 9, 10, 11, 12, 13, 14, 15, 16, 17, 18, 19, 6, 20, 21, 22, 23, 24, 25, 26, 27, 28, 29, 30, 31, 32, 33, 34, 35, 36, 37, 38, 39, 40, 41, 42, 43, 44, 45, 46, 47, 48, 49, 50, 51, 52, 53, 54, 55, 56, 57, 58, 59, 60, 61, 62, 63, 64, 65, 66, 67] (by decide +kernel) (by decide +kernel)) (goodIn_sub (fun _ h => List.mem_cons_of_mem _ (List.mem_append_right _ h)) (by decide +kernel))
set_option maxRecDepth 20000 in
theorem gL_reading_X5_reading : GoodIn wsL_reading (wsV RL 64 RX5 yX5_reading wsX5_reading) := goodIn_app (goodIn_of _ (by decide +kernel)) ggL_reading_X5_reading
theorem dL_reading_0 : decode cL_reading 0 = .ok (.aload_n 0, 1) := by decide +kernel
theorem dL_reading_1 : decode cL_reading 1 = .ok (.iload_n 1, 1) := by decide +kernel
theorem dL_reading_2 : decode cL_reading 2 = .ok (.iload_n 2, 1) := by decide +kernel
theorem dL_reading_3 : decode cL_reading 3 = .ok (.iload_n 3, 1) := by decide +kernel
theorem dL_reading_4 : decode cL_reading 4 = .ok (.invokevirtual 64, 3) := by decide +kernel
theorem dL_reading_7 : decode cL_reading 7 = .ok (.i2l, 1) := by decide +kernel
theorem dL_reading_8 : decode cL_reading 8 = .ok (.lreturn, 1) := by decide +kernel
theorem dL_reading_9 : decode cL_reading 9 = .ok (.astore 4, 2) := by decide +kernel
theorem dL_reading_11 : decode cL_reading 11 = .ok (.ldc2_w 17, 3) := by decide +kernel
theorem dL_reading_14 : decode cL_reading 14 = .ok (.lreturn, 1) := by decide +kernel
set_option maxRecDepth 20000 in
theorem ggL_claimOf_X5_claimOf : GoodIn wsL_claimOf wsX5_claimOf := goodIn_ca (goodIn_r _ [7, 8, 9, 10, 11, 12, 13, 14, 15, 16, 17, 18, 6, 19, 20, 21, 22, 23, 24, 25, 26, 27, 28, 29, 30, 31, 32, 33, 34, 35, 36, 37, 38, 39, 40, 41, 42, 43, 44, 45, 46, 47, 48, 49, 50, 51, 52, 53, 54, 55] (by decide +kernel) (by decide +kernel)) (goodIn_sub (fun _ h => List.mem_cons_of_mem _ (List.mem_append_right _ h)) (by decide +kernel))
set_option maxRecDepth 20000 in
theorem gL_claimOf_X5_claimOf : GoodIn wsL_claimOf (wsV RL 67 RX5 yX5_claimOf wsX5_claimOf) := goodIn_app (goodIn_of _ (by decide +kernel)) ggL_claimOf_X5_claimOf
theorem dL_claimOf_0 : decode cL_claimOf 0 = .ok (.aload_n 0, 1) := by decide +kernel
theorem dL_claimOf_1 : decode cL_claimOf 1 = .ok (.iload_n 1, 1) := by decide +kernel
theorem dL_claimOf_2 : decode cL_claimOf 2 = .ok (.invokevirtual 67, 3) := by decide +kernel
theorem dL_claimOf_5 : decode cL_claimOf 5 = .ok (.i2l, 1) := by decide +kernel
theorem dL_claimOf_6 : decode cL_claimOf 6 = .ok (.lreturn, 1) := by decide +kernel
theorem dL_claimOf_7 : decode cL_claimOf 7 = .ok (.astore_n 2, 1) := by decide +kernel
theorem dL_claimOf_8 : decode cL_claimOf 8 = .ok (.ldc2_w 17, 3) := by decide +kernel
theorem dL_claimOf_11 : decode cL_claimOf 11 = .ok (.lreturn, 1) := by decide +kernel
set_option maxRecDepth 20000 in
theorem ggL_claimAnew_X5_claimAnew : GoodIn wsL_claimAnew wsX5_claimAnew := goodIn_ca (goodIn_r _ [7, 8, 9, 10, 11, 12, 13, 14, 15, 16, 17, 18, 19, 20, 6, 21, 22, 23, 24, 25, 26, 27, 28, 29, 30, 31, 32, 33, 34, 35, 36, 37, 38, 39, 40, 41, 42, 43, 44, 45, 46, 47, 48, 49, 50, 51, 52, 53, 54, 55, 56, 57, 58, 59, 60, 61, 62, 63, 64, 65, 66, 67, 68, 69, 70, 71, 72, 73, 74, 75, 76, 77, 78, 79, 80, 81, 82, 83, 84, 85, 86, 87, 88, 89, 90, 91, 92, 93, 94, 95, 96, 97, 98, 99, 100, 101] (by decide +kernel) (by decide +kernel)) (goodIn_sub (fun _ h => List.mem_cons_of_mem _ (List.mem_append_right _ h)) (by decide +kernel))
set_option maxRecDepth 20000 in
theorem gL_claimAnew_X5_claimAnew : GoodIn wsL_claimAnew (wsV RL 70 RX5 yX5_claimAnew wsX5_claimAnew) := goodIn_app (goodIn_of _ (by decide +kernel)) ggL_claimAnew_X5_claimAnew
theorem dL_claimAnew_0 : decode cL_claimAnew 0 = .ok (.aload_n 0, 1) := by decide +kernel
theorem dL_claimAnew_1 : decode cL_claimAnew 1 = .ok (.iload_n 1, 1) := by decide +kernel
theorem dL_claimAnew_2 : decode cL_claimAnew 2 = .ok (.invokevirtual 70, 3) := by decide +kernel
theorem dL_claimAnew_5 : decode cL_claimAnew 5 = .ok (.i2l, 1) := by decide +kernel
theorem dL_claimAnew_6 : decode cL_claimAnew 6 = .ok (.lreturn, 1) := by decide +kernel
theorem dL_claimAnew_7 : decode cL_claimAnew 7 = .ok (.astore_n 2, 1) := by decide +kernel
theorem dL_claimAnew_8 : decode cL_claimAnew 8 = .ok (.ldc2_w 17, 3) := by decide +kernel
theorem dL_claimAnew_11 : decode cL_claimAnew 11 = .ok (.lreturn, 1) := by decide +kernel
set_option maxRecDepth 20000 in
theorem ggL_balance_X5_balance : GoodIn wsL_balance wsX5_balance := goodIn_ca (goodIn_r _ [7, 8, 9, 10, 6, 11, 12, 13, 14, 15, 16, 17, 18, 19, 20, 21, 22, 23, 24, 25, 26, 27, 28, 29, 30, 31, 32, 33, 34, 35, 36, 37, 38, 39, 40, 41, 42, 43, 44, 45, 46, 47, 48, 49, 50, 51, 52, 53, 54, 55, 56, 57, 58, 59, 60, 61, 62, 63, 64, 65, 66] (by decide +kernel) (by decide +kernel)) (goodIn_sub (fun _ h => List.mem_cons_of_mem _ (List.mem_append_right _ h)) (by decide +kernel))
set_option maxRecDepth 20000 in
theorem gL_balance_X5_balance : GoodIn wsL_balance (wsV RL 73 RX5 yX5_balance wsX5_balance) := goodIn_app (goodIn_of _ (by decide +kernel)) ggL_balance_X5_balance
theorem dL_balance_0 : decode cL_balance 0 = .ok (.aload_n 0, 1) := by decide +kernel
theorem dL_balance_1 : decode cL_balance 1 = .ok (.iload_n 1, 1) := by decide +kernel
theorem dL_balance_2 : decode cL_balance 2 = .ok (.iload_n 2, 1) := by decide +kernel
theorem dL_balance_3 : decode cL_balance 3 = .ok (.invokevirtual 73, 3) := by decide +kernel
theorem dL_balance_6 : decode cL_balance 6 = .ok (.lreturn, 1) := by decide +kernel
theorem dL_balance_7 : decode cL_balance 7 = .ok (.astore_n 3, 1) := by decide +kernel
theorem dL_balance_8 : decode cL_balance 8 = .ok (.ldc2_w 21, 3) := by decide +kernel
theorem dL_balance_11 : decode cL_balance 11 = .ok (.lreturn, 1) := by decide +kernel
set_option maxRecDepth 20000 in
theorem ggL_air_X5_air : GoodIn wsL_air wsX5_air := goodIn_ca (goodIn_r _ [7, 8, 9, 10, 6, 11, 12, 13, 14, 15, 16, 17, 18, 19, 20, 21, 22, 23] (by decide +kernel) (by decide +kernel)) (goodIn_sub (fun _ h => List.mem_cons_of_mem _ (List.mem_append_right _ h)) (by decide +kernel))
set_option maxRecDepth 20000 in
theorem gL_air_X5_air : GoodIn wsL_air (wsV RL 77 RX5 yX5_air wsX5_air) := goodIn_app (goodIn_of _ (by decide +kernel)) ggL_air_X5_air
theorem dL_air_0 : decode cL_air 0 = .ok (.aload_n 0, 1) := by decide +kernel
theorem dL_air_1 : decode cL_air 1 = .ok (.iload_n 1, 1) := by decide +kernel
theorem dL_air_2 : decode cL_air 2 = .ok (.invokevirtual 77, 3) := by decide +kernel
theorem dL_air_5 : decode cL_air 5 = .ok (.lreturn, 1) := by decide +kernel
theorem dL_air_6 : decode cL_air 6 = .ok (.astore_n 2, 1) := by decide +kernel
theorem dL_air_7 : decode cL_air 7 = .ok (.ldc2_w 21, 3) := by decide +kernel
theorem dL_air_10 : decode cL_air 10 = .ok (.lreturn, 1) := by decide +kernel
set_option maxRecDepth 20000 in
theorem ggL_balances_L_cellOf : GoodIn wsL_balances wsL_cellOf := goodIn_ca (goodIn_ca (goodIn_r _ [8, 9, 10, 11, 12, 13, 14, 15, 16, 17, 18, 19, 20, 21, 22, 23, 24, 25, 26, 27, 28, 29, 30, 31, 32, 33, 34, 35, 36, 37, 38, 39, 40, 41, 42, 43, 44, 45, 46, 47, 48, 49, 50, 51, 52, 53, 54, 55, 56, 57, 58, 59, 60, 61, 62, 63, 64, 65, 66, 67, 68, 138, 139, 140, 141, 142, 143, 144, 145, 146, 147, 148, 149, 150, 151, 152, 153, 154, 155, 156, 157, 158] (by decide +kernel) (by decide +kernel)) (goodIn_sub (fun _ h => List.mem_cons_of_mem _ (List.mem_append_left _ (List.mem_append_right _ h))) (by decide +kernel))) (goodIn_sub (fun _ h => List.mem_cons_of_mem _ (List.mem_append_right _ h)) (by decide +kernel))
set_option maxRecDepth 20000 in
theorem gL_balances_L_cellOf : GoodIn wsL_balances (va_wsS RL 81 yL_cellOf wsL_cellOf) := goodIn_app (goodIn_of _ (by decide +kernel)) ggL_balances_L_cellOf
set_option maxRecDepth 20000 in
theorem ggL_balances_L_layerOf : GoodIn wsL_balances wsL_layerOf := goodIn_ca (goodIn_ca (goodIn_r _ [71, 9, 10, 11, 12, 72, 73, 74, 16, 75, 18, 76, 77, 78, 79, 80, 25, 26, 27, 28, 29, 30, 31, 32, 33, 34, 81, 82, 83, 66, 84, 68, 85, 86, 87, 88, 89, 90, 91, 92, 93, 94, 95, 96, 97, 98, 99, 100, 101, 138, 139, 140, 141, 142, 143, 144, 145, 146, 147, 148, 149, 150, 151, 152, 153, 154, 155, 156, 157, 158] (by decide +kernel) (by decide +kernel)) (goodIn_sub (fun _ h => List.mem_cons_of_mem _ (List.mem_append_left _ (List.mem_append_right _ h))) (by decide +kernel))) (goodIn_sub (fun _ h => List.mem_cons_of_mem _ (List.mem_append_right _ h)) (by decide +kernel))
set_option maxRecDepth 20000 in
theorem gL_balances_L_layerOf : GoodIn wsL_balances (va_wsS RL 88 yL_layerOf wsL_layerOf) := goodIn_app (goodIn_of _ (by decide +kernel)) ggL_balances_L_layerOf
set_option maxRecDepth 20000 in
theorem ggL_balances_L_balance : GoodIn wsL_balances wsL_balance := goodIn_ca (goodIn_r _ [104, 10, 12, 105, 106, 107, 16, 108, 109, 30, 31, 32, 33, 34, 110, 111, 112, 113, 18, 114, 115, 116, 60, 117, 118, 62, 119, 120, 121, 66, 122, 68, 123, 85, 86, 87, 88, 89, 90, 124, 125, 126, 127, 128, 129, 130, 138, 139, 140, 141, 142, 143, 144, 145, 146, 147, 148, 149, 150, 151, 152, 153, 154, 155, 156, 157, 158] (by decide +kernel) (by decide +kernel)) (goodIn_sub (fun _ h => List.mem_cons_of_mem _ (List.mem_append_right _ h)) (by decide +kernel))
set_option maxRecDepth 20000 in
theorem gL_balances_L_balance : GoodIn wsL_balances (va_wsS RL 97 yL_balance wsL_balance) := goodIn_app (goodIn_of _ (by decide +kernel)) ggL_balances_L_balance
set_option maxRecDepth 20000 in
theorem ggL_balances_L_air : GoodIn wsL_balances wsL_air := goodIn_ca (goodIn_r _ [133, 10, 12, 134, 135, 136, 16, 137, 130, 30, 31, 32, 33, 34, 138, 139, 140, 141, 142, 143, 144, 145, 146, 147] (by decide +kernel) (by decide +kernel)) (goodIn_sub (fun _ h => List.mem_cons_of_mem _ (List.mem_append_right _ h)) (by decide +kernel))
set_option maxRecDepth 20000 in
theorem gL_balances_L_air : GoodIn wsL_balances (va_wsS RL 99 yL_air wsL_air) := goodIn_app (goodIn_of _ (by decide +kernel)) ggL_balances_L_air
theorem dL_balances_0 : decode cL_balances 0 = .ok (.lconst 0, 1) := by decide +kernel
theorem dL_balances_1 : decode cL_balances 1 = .ok (.lstore_n 1, 1) := by decide +kernel
theorem dL_balances_2 : decode cL_balances 2 = .ok (.lconst 0, 1) := by decide +kernel
theorem dL_balances_3 : decode cL_balances 3 = .ok (.lstore_n 3, 1) := by decide +kernel
theorem dL_balances_4 : decode cL_balances 4 = .ok (.lconst 0, 1) := by decide +kernel
theorem dL_balances_5 : decode cL_balances 5 = .ok (.lstore 5, 2) := by decide +kernel
theorem dL_balances_7 : decode cL_balances 7 = .ok (.iconst 1, 1) := by decide +kernel
theorem dL_balances_8 : decode cL_balances 8 = .ok (.istore 7, 2) := by decide +kernel
theorem dL_balances_10 : decode cL_balances 10 = .ok (.iconst 0, 1) := by decide +kernel
theorem dL_balances_11 : decode cL_balances 11 = .ok (.istore 8, 2) := by decide +kernel
theorem dL_balances_13 : decode cL_balances 13 = .ok (.iload 8, 2) := by decide +kernel
theorem dL_balances_15 : decode cL_balances 15 = .ok (.bipush 25, 2) := by decide +kernel
theorem dL_balances_17 : decode cL_balances 17 = .ok (.if_icmp .ge 201, 3) := by decide +kernel
theorem dL_balances_20 : decode cL_balances 20 = .ok (.iload 7, 2) := by decide +kernel
theorem dL_balances_22 : decode cL_balances 22 = .ok (.ifCond .eq 196, 3) := by decide +kernel
theorem dL_balances_25 : decode cL_balances 25 = .ok (.lload_n 3, 1) := by decide +kernel
theorem dL_balances_26 : decode cL_balances 26 = .ok (.aload_n 0, 1) := by decide +kernel
theorem dL_balances_27 : decode cL_balances 27 = .ok (.iload 8, 2) := by decide +kernel
theorem dL_balances_29 : decode cL_balances 29 = .ok (.iconst 1, 1) := by decide +kernel
theorem dL_balances_30 : decode cL_balances 30 = .ok (.invokestatic 81, 3) := by decide +kernel
theorem dL_balances_33 : decode cL_balances 33 = .ok (.ladd, 1) := by decide +kernel
theorem dL_balances_34 : decode cL_balances 34 = .ok (.lstore_n 3, 1) := by decide +kernel
theorem dL_balances_35 : decode cL_balances 35 = .ok (.lload_n 1, 1) := by decide +kernel
theorem dL_balances_36 : decode cL_balances 36 = .ok (.ldc2_w 86, 3) := by decide +kernel
theorem dL_balances_39 : decode cL_balances 39 = .ok (.aload_n 0, 1) := by decide +kernel
theorem dL_balances_40 : decode cL_balances 40 = .ok (.iload 8, 2) := by decide +kernel
theorem dL_balances_42 : decode cL_balances 42 = .ok (.iconst 1, 1) := by decide +kernel
theorem dL_balances_43 : decode cL_balances 43 = .ok (.invokestatic 81, 3) := by decide +kernel
theorem dL_balances_46 : decode cL_balances 46 = .ok (.lmul, 1) := by decide +kernel
theorem dL_balances_47 : decode cL_balances 47 = .ok (.ladd, 1) := by decide +kernel
theorem dL_balances_48 : decode cL_balances 48 = .ok (.lstore_n 1, 1) := by decide +kernel
theorem dL_balances_49 : decode cL_balances 49 = .ok (.iconst 0, 1) := by decide +kernel
theorem dL_balances_50 : decode cL_balances 50 = .ok (.istore 9, 2) := by decide +kernel
theorem dL_balances_52 : decode cL_balances 52 = .ok (.iload 9, 2) := by decide +kernel
theorem dL_balances_54 : decode cL_balances 54 = .ok (.iconst 5, 1) := by decide +kernel
theorem dL_balances_55 : decode cL_balances 55 = .ok (.if_icmp .ge 57, 3) := by decide +kernel
theorem dL_balances_58 : decode cL_balances 58 = .ok (.lload_n 1, 1) := by decide +kernel
theorem dL_balances_59 : decode cL_balances 59 = .ok (.aload_n 0, 1) := by decide +kernel
theorem dL_balances_60 : decode cL_balances 60 = .ok (.iload 8, 2) := by decide +kernel
theorem dL_balances_62 : decode cL_balances 62 = .ok (.iload 9, 2) := by decide +kernel
theorem dL_balances_64 : decode cL_balances 64 = .ok (.iconst 1, 1) := by decide +kernel
theorem dL_balances_65 : decode cL_balances 65 = .ok (.invokestatic 88, 3) := by decide +kernel
theorem dL_balances_68 : decode cL_balances 68 = .ok (.ladd, 1) := by decide +kernel
theorem dL_balances_69 : decode cL_balances 69 = .ok (.lstore_n 1, 1) := by decide +kernel
theorem dL_balances_70 : decode cL_balances 70 = .ok (.lload_n 3, 1) := by decide +kernel
theorem dL_balances_71 : decode cL_balances 71 = .ok (.aload_n 0, 1) := by decide +kernel
theorem dL_balances_72 : decode cL_balances 72 = .ok (.iload 8, 2) := by decide +kernel
theorem dL_balances_74 : decode cL_balances 74 = .ok (.iload 9, 2) := by decide +kernel
theorem dL_balances_76 : decode cL_balances 76 = .ok (.iconst 2, 1) := by decide +kernel
theorem dL_balances_77 : decode cL_balances 77 = .ok (.invokestatic 88, 3) := by decide +kernel
theorem dL_balances_80 : decode cL_balances 80 = .ok (.aload_n 0, 1) := by decide +kernel
theorem dL_balances_81 : decode cL_balances 81 = .ok (.iload 8, 2) := by decide +kernel
theorem dL_balances_83 : decode cL_balances 83 = .ok (.iload 9, 2) := by decide +kernel
theorem dL_balances_85 : decode cL_balances 85 = .ok (.iconst 3, 1) := by decide +kernel
theorem dL_balances_86 : decode cL_balances 86 = .ok (.invokestatic 88, 3) := by decide +kernel
theorem dL_balances_89 : decode cL_balances 89 = .ok (.ladd, 1) := by decide +kernel
theorem dL_balances_90 : decode cL_balances 90 = .ok (.ladd, 1) := by decide +kernel
theorem dL_balances_91 : decode cL_balances 91 = .ok (.lstore_n 3, 1) := by decide +kernel
theorem dL_balances_92 : decode cL_balances 92 = .ok (.lload 5, 2) := by decide +kernel
theorem dL_balances_94 : decode cL_balances 94 = .ok (.aload_n 0, 1) := by decide +kernel
theorem dL_balances_95 : decode cL_balances 95 = .ok (.iload 8, 2) := by decide +kernel
theorem dL_balances_97 : decode cL_balances 97 = .ok (.iload 9, 2) := by decide +kernel
theorem dL_balances_99 : decode cL_balances 99 = .ok (.iconst 4, 1) := by decide +kernel
theorem dL_balances_100 : decode cL_balances 100 = .ok (.invokestatic 88, 3) := by decide +kernel
theorem dL_balances_103 : decode cL_balances 103 = .ok (.ladd, 1) := by decide +kernel
theorem dL_balances_104 : decode cL_balances 104 = .ok (.lstore 5, 2) := by decide +kernel
theorem dL_balances_106 : decode cL_balances 106 = .ok (.iinc 9 1, 3) := by decide +kernel
theorem dL_balances_109 : decode cL_balances 109 = .ok (.goto (-57), 3) := by decide +kernel
theorem dL_balances_112 : decode cL_balances 112 = .ok (.aload_n 0, 1) := by decide +kernel
theorem dL_balances_113 : decode cL_balances 113 = .ok (.iload 8, 2) := by decide +kernel
theorem dL_balances_115 : decode cL_balances 115 = .ok (.iconst 1, 1) := by decide +kernel
theorem dL_balances_116 : decode cL_balances 116 = .ok (.invokestatic 81, 3) := by decide +kernel
theorem dL_balances_119 : decode cL_balances 119 = .ok (.lconst 0, 1) := by decide +kernel
theorem dL_balances_120 : decode cL_balances 120 = .ok (.lcmp, 1) := by decide +kernel
theorem dL_balances_121 : decode cL_balances 121 = .ok (.ifCond .lt 88, 3) := by decide +kernel
theorem dL_balances_124 : decode cL_balances 124 = .ok (.aload_n 0, 1) := by decide +kernel
theorem dL_balances_125 : decode cL_balances 125 = .ok (.iload 8, 2) := by decide +kernel
theorem dL_balances_127 : decode cL_balances 127 = .ok (.iconst 2, 1) := by decide +kernel
theorem dL_balances_128 : decode cL_balances 128 = .ok (.invokestatic 81, 3) := by decide +kernel
theorem dL_balances_131 : decode cL_balances 131 = .ok (.ldc2_w 91, 3) := by decide +kernel
theorem dL_balances_134 : decode cL_balances 134 = .ok (.lcmp, 1) := by decide +kernel
theorem dL_balances_135 : decode cL_balances 135 = .ok (.ifCond .gt 74, 3) := by decide +kernel
theorem dL_balances_138 : decode cL_balances 138 = .ok (.aload_n 0, 1) := by decide +kernel
theorem dL_balances_139 : decode cL_balances 139 = .ok (.iload 8, 2) := by decide +kernel
theorem dL_balances_141 : decode cL_balances 141 = .ok (.iconst 3, 1) := by decide +kernel
theorem dL_balances_142 : decode cL_balances 142 = .ok (.invokestatic 81, 3) := by decide +kernel
theorem dL_balances_145 : decode cL_balances 145 = .ok (.ldc2_w 93, 3) := by decide +kernel
theorem dL_balances_148 : decode cL_balances 148 = .ok (.lcmp, 1) := by decide +kernel
theorem dL_balances_149 : decode cL_balances 149 = .ok (.ifCond .gt 60, 3) := by decide +kernel
theorem dL_balances_152 : decode cL_balances 152 = .ok (.aload_n 0, 1) := by decide +kernel
theorem dL_balances_153 : decode cL_balances 153 = .ok (.iload 8, 2) := by decide +kernel
theorem dL_balances_155 : decode cL_balances 155 = .ok (.bipush 6, 2) := by decide +kernel
theorem dL_balances_157 : decode cL_balances 157 = .ok (.invokestatic 81, 3) := by decide +kernel
theorem dL_balances_160 : decode cL_balances 160 = .ok (.lconst 0, 1) := by decide +kernel
theorem dL_balances_161 : decode cL_balances 161 = .ok (.lcmp, 1) := by decide +kernel
theorem dL_balances_162 : decode cL_balances 162 = .ok (.ifCond .le 7, 3) := by decide +kernel
theorem dL_balances_165 : decode cL_balances 165 = .ok (.iconst 1, 1) := by decide +kernel
theorem dL_balances_166 : decode cL_balances 166 = .ok (.goto 4, 3) := by decide +kernel
theorem dL_balances_169 : decode cL_balances 169 = .ok (.iconst 0, 1) := by decide +kernel
theorem dL_balances_170 : decode cL_balances 170 = .ok (.aload_n 0, 1) := by decide +kernel
theorem dL_balances_171 : decode cL_balances 171 = .ok (.iload 8, 2) := by decide +kernel
theorem dL_balances_173 : decode cL_balances 173 = .ok (.iconst 1, 1) := by decide +kernel
theorem dL_balances_174 : decode cL_balances 174 = .ok (.invokestatic 81, 3) := by decide +kernel
theorem dL_balances_177 : decode cL_balances 177 = .ok (.lconst 0, 1) := by decide +kernel
theorem dL_balances_178 : decode cL_balances 178 = .ok (.lcmp, 1) := by decide +kernel
theorem dL_balances_179 : decode cL_balances 179 = .ok (.ifCond .le 7, 3) := by decide +kernel
theorem dL_balances_182 : decode cL_balances 182 = .ok (.iconst 1, 1) := by decide +kernel
theorem dL_balances_183 : decode cL_balances 183 = .ok (.goto 4, 3) := by decide +kernel
theorem dL_balances_186 : decode cL_balances 186 = .ok (.iconst 0, 1) := by decide +kernel
theorem dL_balances_187 : decode cL_balances 187 = .ok (.if_icmp .ne 22, 3) := by decide +kernel
theorem dL_balances_190 : decode cL_balances 190 = .ok (.aload_n 0, 1) := by decide +kernel
theorem dL_balances_191 : decode cL_balances 191 = .ok (.iload 8, 2) := by decide +kernel
theorem dL_balances_193 : decode cL_balances 193 = .ok (.bipush 6, 2) := by decide +kernel
theorem dL_balances_195 : decode cL_balances 195 = .ok (.invokestatic 81, 3) := by decide +kernel
theorem dL_balances_198 : decode cL_balances 198 = .ok (.ldc2_w 95, 3) := by decide +kernel
theorem dL_balances_201 : decode cL_balances 201 = .ok (.lcmp, 1) := by decide +kernel
theorem dL_balances_202 : decode cL_balances 202 = .ok (.ifCond .gt 7, 3) := by decide +kernel
theorem dL_balances_205 : decode cL_balances 205 = .ok (.iconst 1, 1) := by decide +kernel
theorem dL_balances_206 : decode cL_balances 206 = .ok (.goto 4, 3) := by decide +kernel
theorem dL_balances_209 : decode cL_balances 209 = .ok (.iconst 0, 1) := by decide +kernel
theorem dL_balances_210 : decode cL_balances 210 = .ok (.istore 7, 2) := by decide +kernel
theorem dL_balances_212 : decode cL_balances 212 = .ok (.iinc 8 1, 3) := by decide +kernel
theorem dL_balances_215 : decode cL_balances 215 = .ok (.goto (-202), 3) := by decide +kernel
theorem dL_balances_218 : decode cL_balances 218 = .ok (.iconst 0, 1) := by decide +kernel
theorem dL_balances_219 : decode cL_balances 219 = .ok (.istore 8, 2) := by decide +kernel
theorem dL_balances_221 : decode cL_balances 221 = .ok (.iload 8, 2) := by decide +kernel
theorem dL_balances_223 : decode cL_balances 223 = .ok (.iconst 3, 1) := by decide +kernel
theorem dL_balances_224 : decode cL_balances 224 = .ok (.if_icmp .ge 59, 3) := by decide +kernel
theorem dL_balances_227 : decode cL_balances 227 = .ok (.iload 7, 2) := by decide +kernel
theorem dL_balances_229 : decode cL_balances 229 = .ok (.ifCond .eq 54, 3) := by decide +kernel
theorem dL_balances_232 : decode cL_balances 232 = .ok (.aload_n 0, 1) := by decide +kernel
theorem dL_balances_233 : decode cL_balances 233 = .ok (.iload 8, 2) := by decide +kernel
theorem dL_balances_235 : decode cL_balances 235 = .ok (.iconst 3, 1) := by decide +kernel
theorem dL_balances_236 : decode cL_balances 236 = .ok (.invokestatic 97, 3) := by decide +kernel
theorem dL_balances_239 : decode cL_balances 239 = .ok (.lconst 0, 1) := by decide +kernel
theorem dL_balances_240 : decode cL_balances 240 = .ok (.lcmp, 1) := by decide +kernel
theorem dL_balances_241 : decode cL_balances 241 = .ok (.ifCond .ne 33, 3) := by decide +kernel
theorem dL_balances_244 : decode cL_balances 244 = .ok (.aload_n 0, 1) := by decide +kernel
theorem dL_balances_245 : decode cL_balances 245 = .ok (.iload 8, 2) := by decide +kernel
theorem dL_balances_247 : decode cL_balances 247 = .ok (.iconst 1, 1) := by decide +kernel
theorem dL_balances_248 : decode cL_balances 248 = .ok (.invokestatic 97, 3) := by decide +kernel
theorem dL_balances_251 : decode cL_balances 251 = .ok (.aload_n 0, 1) := by decide +kernel
theorem dL_balances_252 : decode cL_balances 252 = .ok (.iload 8, 2) := by decide +kernel
theorem dL_balances_254 : decode cL_balances 254 = .ok (.iconst 0, 1) := by decide +kernel
theorem dL_balances_255 : decode cL_balances 255 = .ok (.invokestatic 97, 3) := by decide +kernel
theorem dL_balances_258 : decode cL_balances 258 = .ok (.aload_n 0, 1) := by decide +kernel
theorem dL_balances_259 : decode cL_balances 259 = .ok (.iload 8, 2) := by decide +kernel
theorem dL_balances_261 : decode cL_balances 261 = .ok (.iconst 2, 1) := by decide +kernel
theorem dL_balances_262 : decode cL_balances 262 = .ok (.invokestatic 97, 3) := by decide +kernel
theorem dL_balances_265 : decode cL_balances 265 = .ok (.ladd, 1) := by decide +kernel
theorem dL_balances_266 : decode cL_balances 266 = .ok (.lcmp, 1) := by decide +kernel
theorem dL_balances_267 : decode cL_balances 267 = .ok (.ifCond .ne 7, 3) := by decide +kernel
theorem dL_balances_270 : decode cL_balances 270 = .ok (.iconst 1, 1) := by decide +kernel
theorem dL_balances_271 : decode cL_balances 271 = .ok (.goto 4, 3) := by decide +kernel
theorem dL_balances_274 : decode cL_balances 274 = .ok (.iconst 0, 1) := by decide +kernel
theorem dL_balances_275 : decode cL_balances 275 = .ok (.istore 7, 2) := by decide +kernel
theorem dL_balances_277 : decode cL_balances 277 = .ok (.iinc 8 1, 3) := by decide +kernel
theorem dL_balances_280 : decode cL_balances 280 = .ok (.goto (-59), 3) := by decide +kernel
theorem dL_balances_283 : decode cL_balances 283 = .ok (.iload 7, 2) := by decide +kernel
theorem dL_balances_285 : decode cL_balances 285 = .ok (.ifCond .eq 92, 3) := by decide +kernel
theorem dL_balances_288 : decode cL_balances 288 = .ok (.lload_n 1, 1) := by decide +kernel
theorem dL_balances_289 : decode cL_balances 289 = .ok (.aload_n 0, 1) := by decide +kernel
theorem dL_balances_290 : decode cL_balances 290 = .ok (.iconst 0, 1) := by decide +kernel
theorem dL_balances_291 : decode cL_balances 291 = .ok (.iconst 0, 1) := by decide +kernel
theorem dL_balances_292 : decode cL_balances 292 = .ok (.invokestatic 97, 3) := by decide +kernel
theorem dL_balances_295 : decode cL_balances 295 = .ok (.lcmp, 1) := by decide +kernel
theorem dL_balances_296 : decode cL_balances 296 = .ok (.ifCond .ne 81, 3) := by decide +kernel
theorem dL_balances_299 : decode cL_balances 299 = .ok (.lload_n 3, 1) := by decide +kernel
theorem dL_balances_300 : decode cL_balances 300 = .ok (.aload_n 0, 1) := by decide +kernel
theorem dL_balances_301 : decode cL_balances 301 = .ok (.iconst 1, 1) := by decide +kernel
theorem dL_balances_302 : decode cL_balances 302 = .ok (.iconst 0, 1) := by decide +kernel
theorem dL_balances_303 : decode cL_balances 303 = .ok (.invokestatic 97, 3) := by decide +kernel
theorem dL_balances_306 : decode cL_balances 306 = .ok (.lcmp, 1) := by decide +kernel
theorem dL_balances_307 : decode cL_balances 307 = .ok (.ifCond .ne 70, 3) := by decide +kernel
theorem dL_balances_310 : decode cL_balances 310 = .ok (.lload 5, 2) := by decide +kernel
theorem dL_balances_312 : decode cL_balances 312 = .ok (.aload_n 0, 1) := by decide +kernel
theorem dL_balances_313 : decode cL_balances 313 = .ok (.iconst 2, 1) := by decide +kernel
theorem dL_balances_314 : decode cL_balances 314 = .ok (.iconst 0, 1) := by decide +kernel
theorem dL_balances_315 : decode cL_balances 315 = .ok (.invokestatic 97, 3) := by decide +kernel
theorem dL_balances_318 : decode cL_balances 318 = .ok (.lcmp, 1) := by decide +kernel
theorem dL_balances_319 : decode cL_balances 319 = .ok (.ifCond .ne 58, 3) := by decide +kernel
theorem dL_balances_322 : decode cL_balances 322 = .ok (.aload_n 0, 1) := by decide +kernel
theorem dL_balances_323 : decode cL_balances 323 = .ok (.iconst 2, 1) := by decide +kernel
theorem dL_balances_324 : decode cL_balances 324 = .ok (.iconst 2, 1) := by decide +kernel
theorem dL_balances_325 : decode cL_balances 325 = .ok (.invokestatic 97, 3) := by decide +kernel
theorem dL_balances_328 : decode cL_balances 328 = .ok (.aload_n 0, 1) := by decide +kernel
theorem dL_balances_329 : decode cL_balances 329 = .ok (.iconst 0, 1) := by decide +kernel
theorem dL_balances_330 : decode cL_balances 330 = .ok (.invokestatic 99, 3) := by decide +kernel
theorem dL_balances_333 : decode cL_balances 333 = .ok (.aload_n 0, 1) := by decide +kernel
theorem dL_balances_334 : decode cL_balances 334 = .ok (.iconst 1, 1) := by decide +kernel
theorem dL_balances_335 : decode cL_balances 335 = .ok (.invokestatic 99, 3) := by decide +kernel
theorem dL_balances_338 : decode cL_balances 338 = .ok (.ladd, 1) := by decide +kernel
theorem dL_balances_339 : decode cL_balances 339 = .ok (.lcmp, 1) := by decide +kernel
theorem dL_balances_340 : decode cL_balances 340 = .ok (.ifCond .ne 37, 3) := by decide +kernel
theorem dL_balances_343 : decode cL_balances 343 = .ok (.aload_n 0, 1) := by decide +kernel
theorem dL_balances_344 : decode cL_balances 344 = .ok (.iconst 0, 1) := by decide +kernel
theorem dL_balances_345 : decode cL_balances 345 = .ok (.iconst 2, 1) := by decide +kernel
theorem dL_balances_346 : decode cL_balances 346 = .ok (.invokestatic 97, 3) := by decide +kernel
theorem dL_balances_349 : decode cL_balances 349 = .ok (.ldc2_w 86, 3) := by decide +kernel
theorem dL_balances_352 : decode cL_balances 352 = .ok (.aload_n 0, 1) := by decide +kernel
theorem dL_balances_353 : decode cL_balances 353 = .ok (.iconst 1, 1) := by decide +kernel
theorem dL_balances_354 : decode cL_balances 354 = .ok (.iconst 2, 1) := by decide +kernel
theorem dL_balances_355 : decode cL_balances 355 = .ok (.invokestatic 97, 3) := by decide +kernel
theorem dL_balances_358 : decode cL_balances 358 = .ok (.lmul, 1) := by decide +kernel
theorem dL_balances_359 : decode cL_balances 359 = .ok (.lcmp, 1) := by decide +kernel
theorem dL_balances_360 : decode cL_balances 360 = .ok (.ifCond .ne 17, 3) := by decide +kernel
theorem dL_balances_363 : decode cL_balances 363 = .ok (.aload_n 0, 1) := by decide +kernel
theorem dL_balances_364 : decode cL_balances 364 = .ok (.iconst 1, 1) := by decide +kernel
theorem dL_balances_365 : decode cL_balances 365 = .ok (.invokestatic 99, 3) := by decide +kernel
theorem dL_balances_368 : decode cL_balances 368 = .ok (.lconst 0, 1) := by decide +kernel
theorem dL_balances_369 : decode cL_balances 369 = .ok (.lcmp, 1) := by decide +kernel
theorem dL_balances_370 : decode cL_balances 370 = .ok (.ifCond .lt 7, 3) := by decide +kernel
theorem dL_balances_373 : decode cL_balances 373 = .ok (.iconst 1, 1) := by decide +kernel
theorem dL_balances_374 : decode cL_balances 374 = .ok (.goto 4, 3) := by decide +kernel
theorem dL_balances_377 : decode cL_balances 377 = .ok (.iconst 0, 1) := by decide +kernel
theorem dL_balances_378 : decode cL_balances 378 = .ok (.ireturn, 1) := by decide +kernel
set_option maxRecDepth 20000 in
theorem ggL_cellHolds_L_layerOf : GoodIn wsL_cellHolds wsL_layerOf := goodIn_ca (goodIn_ca (goodIn_r _ [8, 9, 10, 11, 12, 13, 14, 15, 16, 17, 18, 19, 20, 21, 22, 23, 24, 25, 26, 27, 28, 29, 30, 31, 32, 33, 34, 35, 36, 37, 38, 39, 40, 41, 42, 43, 44, 45, 46, 47, 48, 49, 50, 51, 52, 53, 54, 55, 56, 109, 110, 111, 112, 113, 114, 115, 116, 117, 118, 119, 120, 121, 122, 123, 124, 125, 126, 127, 128, 129] (by decide +kernel) (by decide +kernel)) (goodIn_sub (fun _ h => List.mem_cons_of_mem _ (List.mem_append_left _ (List.mem_append_right _ h))) (by decide +kernel))) (goodIn_sub (fun _ h => List.mem_cons_of_mem _ (List.mem_append_right _ h)) (by decide +kernel))
set_option maxRecDepth 20000 in
theorem gL_cellHolds_L_layerOf : GoodIn wsL_cellHolds (va_wsS RL 88 yL_layerOf wsL_layerOf) := goodIn_app (goodIn_of _ (by decide +kernel)) ggL_cellHolds_L_layerOf
set_option maxRecDepth 20000 in
theorem ggL_cellHolds_L_cellOf : GoodIn wsL_cellHolds wsL_cellOf := goodIn_ca (goodIn_ca (goodIn_r _ [59, 9, 10, 11, 12, 60, 61, 62, 16, 63, 18, 64, 65, 66, 67, 68, 69, 24, 25, 26, 27, 28, 29, 30, 31, 32, 33, 70, 71, 72, 73, 74, 75, 76, 77, 78, 79, 80, 81, 82, 83, 84, 85, 86, 87, 88, 89, 90, 91, 92, 93, 94, 95, 96, 97, 98, 99, 100, 37, 101, 39, 109, 110, 111, 112, 113, 114, 115, 116, 117, 118, 119, 120, 121, 122, 123, 124, 125, 126, 127, 128, 129] (by decide +kernel) (by decide +kernel)) (goodIn_sub (fun _ h => List.mem_cons_of_mem _ (List.mem_append_left _ (List.mem_append_right _ h))) (by decide +kernel))) (goodIn_sub (fun _ h => List.mem_cons_of_mem _ (List.mem_append_right _ h)) (by decide +kernel))
set_option maxRecDepth 20000 in
theorem gL_cellHolds_L_cellOf : GoodIn wsL_cellHolds (va_wsS RL 81 yL_cellOf wsL_cellOf) := goodIn_app (goodIn_of _ (by decide +kernel)) ggL_cellHolds_L_cellOf
set_option maxRecDepth 20000 in
theorem ggL_cellHolds_L_neighbour : GoodIn wsL_cellHolds wsL_neighbour := goodIn_ca (goodIn_r _ [104, 9, 11, 105, 106, 107, 16, 108, 27, 28, 84, 24, 25, 26, 89, 90, 91] (by decide +kernel) (by decide +kernel)) (goodIn_sub (fun _ h => List.mem_cons_of_mem _ (List.mem_append_left _ (List.mem_append_right _ h))) (by decide +kernel))
set_option maxRecDepth 20000 in
theorem gL_cellHolds_L_neighbour : GoodIn wsL_cellHolds (va_wsS RL 106 yL_neighbour wsL_neighbour) := goodIn_app (goodIn_of _ (by decide +kernel)) ggL_cellHolds_L_neighbour
theorem dL_cellHolds_0 : decode cL_cellHolds 0 = .ok (.iconst 1, 1) := by decide +kernel
theorem dL_cellHolds_1 : decode cL_cellHolds 1 = .ok (.istore_n 2, 1) := by decide +kernel
theorem dL_cellHolds_2 : decode cL_cellHolds 2 = .ok (.iconst 0, 1) := by decide +kernel
theorem dL_cellHolds_3 : decode cL_cellHolds 3 = .ok (.istore_n 3, 1) := by decide +kernel
theorem dL_cellHolds_4 : decode cL_cellHolds 4 = .ok (.iconst 0, 1) := by decide +kernel
theorem dL_cellHolds_5 : decode cL_cellHolds 5 = .ok (.istore 4, 2) := by decide +kernel
theorem dL_cellHolds_7 : decode cL_cellHolds 7 = .ok (.iload 4, 2) := by decide +kernel
theorem dL_cellHolds_9 : decode cL_cellHolds 9 = .ok (.iconst 5, 1) := by decide +kernel
theorem dL_cellHolds_10 : decode cL_cellHolds 10 = .ok (.if_icmp .ge 217, 3) := by decide +kernel
theorem dL_cellHolds_13 : decode cL_cellHolds 13 = .ok (.iload_n 2, 1) := by decide +kernel
theorem dL_cellHolds_14 : decode cL_cellHolds 14 = .ok (.ifCond .eq 213, 3) := by decide +kernel
theorem dL_cellHolds_17 : decode cL_cellHolds 17 = .ok (.aload_n 0, 1) := by decide +kernel
theorem dL_cellHolds_18 : decode cL_cellHolds 18 = .ok (.iload_n 1, 1) := by decide +kernel
theorem dL_cellHolds_19 : decode cL_cellHolds 19 = .ok (.iload 4, 2) := by decide +kernel
theorem dL_cellHolds_21 : decode cL_cellHolds 21 = .ok (.iconst 1, 1) := by decide +kernel
theorem dL_cellHolds_22 : decode cL_cellHolds 22 = .ok (.invokestatic 88, 3) := by decide +kernel
theorem dL_cellHolds_25 : decode cL_cellHolds 25 = .ok (.lstore 5, 2) := by decide +kernel
theorem dL_cellHolds_27 : decode cL_cellHolds 27 = .ok (.aload_n 0, 1) := by decide +kernel
theorem dL_cellHolds_28 : decode cL_cellHolds 28 = .ok (.iload_n 1, 1) := by decide +kernel
theorem dL_cellHolds_29 : decode cL_cellHolds 29 = .ok (.iload 4, 2) := by decide +kernel
theorem dL_cellHolds_31 : decode cL_cellHolds 31 = .ok (.iconst 2, 1) := by decide +kernel
theorem dL_cellHolds_32 : decode cL_cellHolds 32 = .ok (.invokestatic 88, 3) := by decide +kernel
theorem dL_cellHolds_35 : decode cL_cellHolds 35 = .ok (.aload_n 0, 1) := by decide +kernel
theorem dL_cellHolds_36 : decode cL_cellHolds 36 = .ok (.iload_n 1, 1) := by decide +kernel
theorem dL_cellHolds_37 : decode cL_cellHolds 37 = .ok (.iload 4, 2) := by decide +kernel
theorem dL_cellHolds_39 : decode cL_cellHolds 39 = .ok (.iconst 3, 1) := by decide +kernel
theorem dL_cellHolds_40 : decode cL_cellHolds 40 = .ok (.invokestatic 88, 3) := by decide +kernel
theorem dL_cellHolds_43 : decode cL_cellHolds 43 = .ok (.ladd, 1) := by decide +kernel
theorem dL_cellHolds_44 : decode cL_cellHolds 44 = .ok (.lstore 7, 2) := by decide +kernel
theorem dL_cellHolds_46 : decode cL_cellHolds 46 = .ok (.lload 5, 2) := by decide +kernel
theorem dL_cellHolds_48 : decode cL_cellHolds 48 = .ok (.lconst 0, 1) := by decide +kernel
theorem dL_cellHolds_49 : decode cL_cellHolds 49 = .ok (.lcmp, 1) := by decide +kernel
theorem dL_cellHolds_50 : decode cL_cellHolds 50 = .ok (.ifCond .ge 12, 3) := by decide +kernel
theorem dL_cellHolds_53 : decode cL_cellHolds 53 = .ok (.lload 5, 2) := by decide +kernel
theorem dL_cellHolds_55 : decode cL_cellHolds 55 = .ok (.ldc2_w 102, 3) := by decide +kernel
theorem dL_cellHolds_58 : decode cL_cellHolds 58 = .ok (.ldiv, 1) := by decide +kernel
theorem dL_cellHolds_59 : decode cL_cellHolds 59 = .ok (.goto 32, 3) := by decide +kernel
theorem dL_cellHolds_62 : decode cL_cellHolds 62 = .ok (.lload 5, 2) := by decide +kernel
theorem dL_cellHolds_64 : decode cL_cellHolds 64 = .ok (.ldc2_w 86, 3) := by decide +kernel
theorem dL_cellHolds_67 : decode cL_cellHolds 67 = .ok (.lload 7, 2) := by decide +kernel
theorem dL_cellHolds_69 : decode cL_cellHolds 69 = .ok (.lmul, 1) := by decide +kernel
theorem dL_cellHolds_70 : decode cL_cellHolds 70 = .ok (.lcmp, 1) := by decide +kernel
theorem dL_cellHolds_71 : decode cL_cellHolds 71 = .ok (.ifCond .le 19, 3) := by decide +kernel
theorem dL_cellHolds_74 : decode cL_cellHolds 74 = .ok (.lload 5, 2) := by decide +kernel
theorem dL_cellHolds_76 : decode cL_cellHolds 76 = .ok (.ldc2_w 86, 3) := by decide +kernel
theorem dL_cellHolds_79 : decode cL_cellHolds 79 = .ok (.lload 7, 2) := by decide +kernel
theorem dL_cellHolds_81 : decode cL_cellHolds 81 = .ok (.lmul, 1) := by decide +kernel
theorem dL_cellHolds_82 : decode cL_cellHolds 82 = .ok (.lsub, 1) := by decide +kernel
theorem dL_cellHolds_83 : decode cL_cellHolds 83 = .ok (.ldc2_w 102, 3) := by decide +kernel
theorem dL_cellHolds_86 : decode cL_cellHolds 86 = .ok (.ldiv, 1) := by decide +kernel
theorem dL_cellHolds_87 : decode cL_cellHolds 87 = .ok (.goto 4, 3) := by decide +kernel
theorem dL_cellHolds_90 : decode cL_cellHolds 90 = .ok (.lconst 0, 1) := by decide +kernel
theorem dL_cellHolds_91 : decode cL_cellHolds 91 = .ok (.lstore 9, 2) := by decide +kernel
theorem dL_cellHolds_93 : decode cL_cellHolds 93 = .ok (.lload 5, 2) := by decide +kernel
theorem dL_cellHolds_95 : decode cL_cellHolds 95 = .ok (.lconst 0, 1) := by decide +kernel
theorem dL_cellHolds_96 : decode cL_cellHolds 96 = .ok (.lcmp, 1) := by decide +kernel
theorem dL_cellHolds_97 : decode cL_cellHolds 97 = .ok (.ifCond .ge 7, 3) := by decide +kernel
theorem dL_cellHolds_100 : decode cL_cellHolds 100 = .ok (.lconst 0, 1) := by decide +kernel
theorem dL_cellHolds_101 : decode cL_cellHolds 101 = .ok (.goto 9, 3) := by decide +kernel
theorem dL_cellHolds_104 : decode cL_cellHolds 104 = .ok (.lload 5, 2) := by decide +kernel
theorem dL_cellHolds_106 : decode cL_cellHolds 106 = .ok (.ldc2_w 86, 3) := by decide +kernel
theorem dL_cellHolds_109 : decode cL_cellHolds 109 = .ok (.ldiv, 1) := by decide +kernel
theorem dL_cellHolds_110 : decode cL_cellHolds 110 = .ok (.lstore 11, 2) := by decide +kernel
theorem dL_cellHolds_112 : decode cL_cellHolds 112 = .ok (.iload_n 3, 1) := by decide +kernel
theorem dL_cellHolds_113 : decode cL_cellHolds 113 = .ok (.iload_n 3, 1) := by decide +kernel
theorem dL_cellHolds_114 : decode cL_cellHolds 114 = .ok (.iload 4, 2) := by decide +kernel
theorem dL_cellHolds_116 : decode cL_cellHolds 116 = .ok (.if_icmp .ne 14, 3) := by decide +kernel
theorem dL_cellHolds_119 : decode cL_cellHolds 119 = .ok (.lload 5, 2) := by decide +kernel
theorem dL_cellHolds_121 : decode cL_cellHolds 121 = .ok (.lconst 0, 1) := by decide +kernel
theorem dL_cellHolds_122 : decode cL_cellHolds 122 = .ok (.lcmp, 1) := by decide +kernel
theorem dL_cellHolds_123 : decode cL_cellHolds 123 = .ok (.ifCond .lt 7, 3) := by decide +kernel
theorem dL_cellHolds_126 : decode cL_cellHolds 126 = .ok (.iconst 1, 1) := by decide +kernel
theorem dL_cellHolds_127 : decode cL_cellHolds 127 = .ok (.goto 4, 3) := by decide +kernel
theorem dL_cellHolds_130 : decode cL_cellHolds 130 = .ok (.iconst 0, 1) := by decide +kernel
theorem dL_cellHolds_131 : decode cL_cellHolds 131 = .ok (.iadd, 1) := by decide +kernel
theorem dL_cellHolds_132 : decode cL_cellHolds 132 = .ok (.istore_n 3, 1) := by decide +kernel
theorem dL_cellHolds_133 : decode cL_cellHolds 133 = .ok (.aload_n 0, 1) := by decide +kernel
theorem dL_cellHolds_134 : decode cL_cellHolds 134 = .ok (.iload_n 1, 1) := by decide +kernel
theorem dL_cellHolds_135 : decode cL_cellHolds 135 = .ok (.iload 4, 2) := by decide +kernel
theorem dL_cellHolds_137 : decode cL_cellHolds 137 = .ok (.iconst 0, 1) := by decide +kernel
theorem dL_cellHolds_138 : decode cL_cellHolds 138 = .ok (.invokestatic 88, 3) := by decide +kernel
theorem dL_cellHolds_141 : decode cL_cellHolds 141 = .ok (.lload 9, 2) := by decide +kernel
theorem dL_cellHolds_143 : decode cL_cellHolds 143 = .ok (.lcmp, 1) := by decide +kernel
theorem dL_cellHolds_144 : decode cL_cellHolds 144 = .ok (.ifCond .ne 75, 3) := by decide +kernel
theorem dL_cellHolds_147 : decode cL_cellHolds 147 = .ok (.aload_n 0, 1) := by decide +kernel
theorem dL_cellHolds_148 : decode cL_cellHolds 148 = .ok (.iload_n 1, 1) := by decide +kernel
theorem dL_cellHolds_149 : decode cL_cellHolds 149 = .ok (.iload 4, 2) := by decide +kernel
theorem dL_cellHolds_151 : decode cL_cellHolds 151 = .ok (.iconst 5, 1) := by decide +kernel
theorem dL_cellHolds_152 : decode cL_cellHolds 152 = .ok (.invokestatic 88, 3) := by decide +kernel
theorem dL_cellHolds_155 : decode cL_cellHolds 155 = .ok (.lload 11, 2) := by decide +kernel
theorem dL_cellHolds_157 : decode cL_cellHolds 157 = .ok (.lload 7, 2) := by decide +kernel
theorem dL_cellHolds_159 : decode cL_cellHolds 159 = .ok (.lcmp, 1) := by decide +kernel
theorem dL_cellHolds_160 : decode cL_cellHolds 160 = .ok (.ifCond .le 8, 3) := by decide +kernel
theorem dL_cellHolds_163 : decode cL_cellHolds 163 = .ok (.lload 7, 2) := by decide +kernel
theorem dL_cellHolds_165 : decode cL_cellHolds 165 = .ok (.goto 5, 3) := by decide +kernel
theorem dL_cellHolds_168 : decode cL_cellHolds 168 = .ok (.lload 11, 2) := by decide +kernel
theorem dL_cellHolds_170 : decode cL_cellHolds 170 = .ok (.lcmp, 1) := by decide +kernel
theorem dL_cellHolds_171 : decode cL_cellHolds 171 = .ok (.ifCond .ne 48, 3) := by decide +kernel
theorem dL_cellHolds_174 : decode cL_cellHolds 174 = .ok (.aload_n 0, 1) := by decide +kernel
theorem dL_cellHolds_175 : decode cL_cellHolds 175 = .ok (.iload_n 1, 1) := by decide +kernel
theorem dL_cellHolds_176 : decode cL_cellHolds 176 = .ok (.iload 4, 2) := by decide +kernel
theorem dL_cellHolds_178 : decode cL_cellHolds 178 = .ok (.iconst 4, 1) := by decide +kernel
theorem dL_cellHolds_179 : decode cL_cellHolds 179 = .ok (.invokestatic 88, 3) := by decide +kernel
theorem dL_cellHolds_182 : decode cL_cellHolds 182 = .ok (.lconst 0, 1) := by decide +kernel
theorem dL_cellHolds_183 : decode cL_cellHolds 183 = .ok (.lcmp, 1) := by decide +kernel
theorem dL_cellHolds_184 : decode cL_cellHolds 184 = .ok (.ifCond .lt 35, 3) := by decide +kernel
theorem dL_cellHolds_187 : decode cL_cellHolds 187 = .ok (.aload_n 0, 1) := by decide +kernel
theorem dL_cellHolds_188 : decode cL_cellHolds 188 = .ok (.iload_n 1, 1) := by decide +kernel
theorem dL_cellHolds_189 : decode cL_cellHolds 189 = .ok (.iload 4, 2) := by decide +kernel
theorem dL_cellHolds_191 : decode cL_cellHolds 191 = .ok (.iconst 3, 1) := by decide +kernel
theorem dL_cellHolds_192 : decode cL_cellHolds 192 = .ok (.invokestatic 88, 3) := by decide +kernel
theorem dL_cellHolds_195 : decode cL_cellHolds 195 = .ok (.lconst 0, 1) := by decide +kernel
theorem dL_cellHolds_196 : decode cL_cellHolds 196 = .ok (.lcmp, 1) := by decide +kernel
theorem dL_cellHolds_197 : decode cL_cellHolds 197 = .ok (.ifCond .lt 22, 3) := by decide +kernel
theorem dL_cellHolds_200 : decode cL_cellHolds 200 = .ok (.aload_n 0, 1) := by decide +kernel
theorem dL_cellHolds_201 : decode cL_cellHolds 201 = .ok (.iload_n 1, 1) := by decide +kernel
theorem dL_cellHolds_202 : decode cL_cellHolds 202 = .ok (.iload 4, 2) := by decide +kernel
theorem dL_cellHolds_204 : decode cL_cellHolds 204 = .ok (.iconst 3, 1) := by decide +kernel
theorem dL_cellHolds_205 : decode cL_cellHolds 205 = .ok (.invokestatic 88, 3) := by decide +kernel
theorem dL_cellHolds_208 : decode cL_cellHolds 208 = .ok (.ldc2_w 91, 3) := by decide +kernel
theorem dL_cellHolds_211 : decode cL_cellHolds 211 = .ok (.lcmp, 1) := by decide +kernel
theorem dL_cellHolds_212 : decode cL_cellHolds 212 = .ok (.ifCond .gt 7, 3) := by decide +kernel
theorem dL_cellHolds_215 : decode cL_cellHolds 215 = .ok (.iconst 1, 1) := by decide +kernel
theorem dL_cellHolds_216 : decode cL_cellHolds 216 = .ok (.goto 4, 3) := by decide +kernel
theorem dL_cellHolds_219 : decode cL_cellHolds 219 = .ok (.iconst 0, 1) := by decide +kernel
theorem dL_cellHolds_220 : decode cL_cellHolds 220 = .ok (.istore_n 2, 1) := by decide +kernel
theorem dL_cellHolds_221 : decode cL_cellHolds 221 = .ok (.iinc 4 1, 3) := by decide +kernel
theorem dL_cellHolds_224 : decode cL_cellHolds 224 = .ok (.goto (-217), 3) := by decide +kernel
theorem dL_cellHolds_227 : decode cL_cellHolds 227 = .ok (.iload_n 2, 1) := by decide +kernel
theorem dL_cellHolds_228 : decode cL_cellHolds 228 = .ok (.ifCond .eq 20, 3) := by decide +kernel
theorem dL_cellHolds_231 : decode cL_cellHolds 231 = .ok (.aload_n 0, 1) := by decide +kernel
theorem dL_cellHolds_232 : decode cL_cellHolds 232 = .ok (.iload_n 1, 1) := by decide +kernel
theorem dL_cellHolds_233 : decode cL_cellHolds 233 = .ok (.bipush 7, 2) := by decide +kernel
theorem dL_cellHolds_235 : decode cL_cellHolds 235 = .ok (.invokestatic 81, 3) := by decide +kernel
theorem dL_cellHolds_238 : decode cL_cellHolds 238 = .ok (.iload_n 3, 1) := by decide +kernel
theorem dL_cellHolds_239 : decode cL_cellHolds 239 = .ok (.i2l, 1) := by decide +kernel
theorem dL_cellHolds_240 : decode cL_cellHolds 240 = .ok (.lcmp, 1) := by decide +kernel
theorem dL_cellHolds_241 : decode cL_cellHolds 241 = .ok (.ifCond .ne 7, 3) := by decide +kernel
theorem dL_cellHolds_244 : decode cL_cellHolds 244 = .ok (.iconst 1, 1) := by decide +kernel
theorem dL_cellHolds_245 : decode cL_cellHolds 245 = .ok (.goto 4, 3) := by decide +kernel
theorem dL_cellHolds_248 : decode cL_cellHolds 248 = .ok (.iconst 0, 1) := by decide +kernel
theorem dL_cellHolds_249 : decode cL_cellHolds 249 = .ok (.istore_n 2, 1) := by decide +kernel
theorem dL_cellHolds_250 : decode cL_cellHolds 250 = .ok (.ldc2_w 104, 3) := by decide +kernel
theorem dL_cellHolds_253 : decode cL_cellHolds 253 = .ok (.lstore 4, 2) := by decide +kernel
theorem dL_cellHolds_255 : decode cL_cellHolds 255 = .ok (.iconst 0, 1) := by decide +kernel
theorem dL_cellHolds_256 : decode cL_cellHolds 256 = .ok (.istore 6, 2) := by decide +kernel
theorem dL_cellHolds_258 : decode cL_cellHolds 258 = .ok (.iconst 0, 1) := by decide +kernel
theorem dL_cellHolds_259 : decode cL_cellHolds 259 = .ok (.istore 7, 2) := by decide +kernel
theorem dL_cellHolds_261 : decode cL_cellHolds 261 = .ok (.iload 7, 2) := by decide +kernel
theorem dL_cellHolds_263 : decode cL_cellHolds 263 = .ok (.iconst 4, 1) := by decide +kernel
theorem dL_cellHolds_264 : decode cL_cellHolds 264 = .ok (.if_icmp .ge 134, 3) := by decide +kernel
theorem dL_cellHolds_267 : decode cL_cellHolds 267 = .ok (.iload_n 2, 1) := by decide +kernel
