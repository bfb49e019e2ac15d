set_option maxRecDepth 20000 in
theorem gJx4a65c_init_da8c8_Jxc12de_init_da8c8 : GoodIn wsJx4a65c_init_da8c8 (wsJxc12de_init_da8c8) := ggJx4a65c_init_da8c8_Jxc12de_init_da8c8
theorem dJx4a65c_init_da8c8_0 : decode cJx4a65c_init_da8c8 0 = .ok (.aload_n 0, 1) := by decide +kernel
theorem dJx4a65c_init_da8c8_1 : decode cJx4a65c_init_da8c8 1 = .ok (.invokespecial 1, 3) := by decide +kernel
theorem dJx4a65c_init_da8c8_4 : decode cJx4a65c_init_da8c8 4 = .ok (.aload_n 0, 1) := by decide +kernel
theorem dJx4a65c_init_da8c8_5 : decode cJx4a65c_init_da8c8 5 = .ok (.getstatic 39, 3) := by decide +kernel
theorem dJx4a65c_init_da8c8_8 : decode cJx4a65c_init_da8c8 8 = .ok (.putfield 9, 3) := by decide +kernel
theorem dJx4a65c_init_da8c8_11 : decode cJx4a65c_init_da8c8 11 = .ok (.return_, 1) := by decide +kernel
set_option maxRecDepth 20000 in
theorem ggJx4a65c_grow_92f84_J8_newLength_cabcc : GoodIn wsJx4a65c_grow_92f84 wsJ8_newLength_cabcc := goodIn_r _ [11, 12, 4, 5, 6, 13, 14, 15, 10, 16] (by decide +kernel) (by decide +kernel)
set_option maxRecDepth 20000 in
theorem gJx4a65c_grow_92f84_J8_newLength_cabcc : GoodIn wsJx4a65c_grow_92f84 (va_wsS RJx4a65c 73 yJ8_newLength_cabcc wsJ8_newLength_cabcc) := goodIn_app (goodIn_of _ (by decide +kernel)) ggJx4a65c_grow_92f84_J8_newLength_cabcc
set_option maxRecDepth 20000 in
theorem ggJx4a65c_grow_92f84_J7_copyOf_1904c : GoodIn wsJx4a65c_grow_92f84 wsJ7_copyOf_1904c := goodIn_r _ [20, 21, 22, 23, 24, 25, 26, 19, 27, 28, 29, 30, 31, 5, 32, 33, 34, 35, 36] (by decide +kernel) (by decide +kernel)
set_option maxRecDepth 20000 in
theorem gJx4a65c_grow_92f84_J7_copyOf_1904c : GoodIn wsJx4a65c_grow_92f84 (va_wsS RJx4a65c 66 yJ7_copyOf_1904c wsJ7_copyOf_1904c) := goodIn_app (goodIn_of _ (by decide +kernel)) ggJx4a65c_grow_92f84_J7_copyOf_1904c
theorem dJx4a65c_grow_92f84_0 : decode cJx4a65c_grow_92f84 0 = .ok (.aload_n 0, 1) := by decide +kernel
theorem dJx4a65c_grow_92f84_1 : decode cJx4a65c_grow_92f84 1 = .ok (.getfield 9, 3) := by decide +kernel
theorem dJx4a65c_grow_92f84_4 : decode cJx4a65c_grow_92f84 4 = .ok (.arraylength, 1) := by decide +kernel
theorem dJx4a65c_grow_92f84_5 : decode cJx4a65c_grow_92f84 5 = .ok (.istore_n 2, 1) := by decide +kernel
theorem dJx4a65c_grow_92f84_6 : decode cJx4a65c_grow_92f84 6 = .ok (.iload_n 2, 1) := by decide +kernel
theorem dJx4a65c_grow_92f84_7 : decode cJx4a65c_grow_92f84 7 = .ok (.ifCond .gt 13, 3) := by decide +kernel
theorem dJx4a65c_grow_92f84_10 : decode cJx4a65c_grow_92f84 10 = .ok (.aload_n 0, 1) := by decide +kernel
theorem dJx4a65c_grow_92f84_11 : decode cJx4a65c_grow_92f84 11 = .ok (.getfield 9, 3) := by decide +kernel
theorem dJx4a65c_grow_92f84_14 : decode cJx4a65c_grow_92f84 14 = .ok (.getstatic 39, 3) := by decide +kernel
theorem dJx4a65c_grow_92f84_17 : decode cJx4a65c_grow_92f84 17 = .ok (.if_acmp .eq 28, 3) := by decide +kernel
theorem dJx4a65c_grow_92f84_20 : decode cJx4a65c_grow_92f84 20 = .ok (.iload_n 2, 1) := by decide +kernel
theorem dJx4a65c_grow_92f84_21 : decode cJx4a65c_grow_92f84 21 = .ok (.iload_n 1, 1) := by decide +kernel
theorem dJx4a65c_grow_92f84_22 : decode cJx4a65c_grow_92f84 22 = .ok (.iload_n 2, 1) := by decide +kernel
theorem dJx4a65c_grow_92f84_23 : decode cJx4a65c_grow_92f84 23 = .ok (.isub, 1) := by decide +kernel
theorem dJx4a65c_grow_92f84_24 : decode cJx4a65c_grow_92f84 24 = .ok (.iload_n 2, 1) := by decide +kernel
theorem dJx4a65c_grow_92f84_25 : decode cJx4a65c_grow_92f84 25 = .ok (.iconst 1, 1) := by decide +kernel
theorem dJx4a65c_grow_92f84_26 : decode cJx4a65c_grow_92f84 26 = .ok (.ishr, 1) := by decide +kernel
theorem dJx4a65c_grow_92f84_27 : decode cJx4a65c_grow_92f84 27 = .ok (.invokestatic 73, 3) := by decide +kernel
theorem dJx4a65c_grow_92f84_30 : decode cJx4a65c_grow_92f84 30 = .ok (.istore_n 3, 1) := by decide +kernel
theorem dJx4a65c_grow_92f84_31 : decode cJx4a65c_grow_92f84 31 = .ok (.aload_n 0, 1) := by decide +kernel
theorem dJx4a65c_grow_92f84_32 : decode cJx4a65c_grow_92f84 32 = .ok (.aload_n 0, 1) := by decide +kernel
theorem dJx4a65c_grow_92f84_33 : decode cJx4a65c_grow_92f84 33 = .ok (.getfield 9, 3) := by decide +kernel
theorem dJx4a65c_grow_92f84_36 : decode cJx4a65c_grow_92f84 36 = .ok (.iload_n 3, 1) := by decide +kernel
theorem dJx4a65c_grow_92f84_37 : decode cJx4a65c_grow_92f84 37 = .ok (.invokestatic 66, 3) := by decide +kernel
theorem dJx4a65c_grow_92f84_40 : decode cJx4a65c_grow_92f84 40 = .ok (.dup_x1, 1) := by decide +kernel
theorem dJx4a65c_grow_92f84_41 : decode cJx4a65c_grow_92f84 41 = .ok (.putfield 9, 3) := by decide +kernel
theorem dJx4a65c_grow_92f84_44 : decode cJx4a65c_grow_92f84 44 = .ok (.areturn, 1) := by decide +kernel
theorem dJx4a65c_grow_92f84_45 : decode cJx4a65c_grow_92f84 45 = .ok (.aload_n 0, 1) := by decide +kernel
theorem dJx4a65c_grow_92f84_46 : decode cJx4a65c_grow_92f84 46 = .ok (.bipush 10, 2) := by decide +kernel
theorem dJx4a65c_grow_92f84_48 : decode cJx4a65c_grow_92f84 48 = .ok (.iload_n 1, 1) := by decide +kernel
theorem dJx4a65c_grow_92f84_49 : decode cJx4a65c_grow_92f84 49 = .ok (.invokestatic 79, 3) := by decide +kernel
theorem dJx4a65c_grow_92f84_52 : decode cJx4a65c_grow_92f84 52 = .ok (.anewarray 7, 3) := by decide +kernel
theorem dJx4a65c_grow_92f84_55 : decode cJx4a65c_grow_92f84 55 = .ok (.dup_x1, 1) := by decide +kernel
theorem dJx4a65c_grow_92f84_56 : decode cJx4a65c_grow_92f84 56 = .ok (.putfield 9, 3) := by decide +kernel
theorem dJx4a65c_grow_92f84_59 : decode cJx4a65c_grow_92f84 59 = .ok (.areturn, 1) := by decide +kernel
set_option maxRecDepth 20000 in
theorem ggJx4a65c_grow_d5877_Jx4a65c_grow_92f84 : GoodIn wsJx4a65c_grow_d5877 wsJx4a65c_grow_92f84 := goodIn_r _ [6, 7, 8, 9, 10, 11, 12, 13, 14, 15, 16, 17, 18, 19, 20, 21, 22, 23, 24, 25, 26, 27, 28, 29, 30, 31, 32, 33, 34, 35, 36, 37, 38, 39, 40, 41, 42, 43, 44, 45] (by decide +kernel) (by decide +kernel)
set_option maxRecDepth 20000 in
theorem gJx4a65c_grow_d5877_Jx4a65c_grow_92f84 : GoodIn wsJx4a65c_grow_d5877 (wsV RJx4a65c 69 RJx4a65c yJx4a65c_grow_92f84 wsJx4a65c_grow_92f84) := goodIn_app (goodIn_of _ (by decide +kernel)) ggJx4a65c_grow_d5877_Jx4a65c_grow_92f84
theorem dJx4a65c_grow_d5877_0 : decode cJx4a65c_grow_d5877 0 = .ok (.aload_n 0, 1) := by decide +kernel
theorem dJx4a65c_grow_d5877_1 : decode cJx4a65c_grow_d5877 1 = .ok (.aload_n 0, 1) := by decide +kernel
theorem dJx4a65c_grow_d5877_2 : decode cJx4a65c_grow_d5877 2 = .ok (.getfield 48, 3) := by decide +kernel
theorem dJx4a65c_grow_d5877_5 : decode cJx4a65c_grow_d5877 5 = .ok (.iconst 1, 1) := by decide +kernel
theorem dJx4a65c_grow_d5877_6 : decode cJx4a65c_grow_d5877 6 = .ok (.iadd, 1) := by decide +kernel
theorem dJx4a65c_grow_d5877_7 : decode cJx4a65c_grow_d5877 7 = .ok (.invokevirtual 69, 3) := by decide +kernel
theorem dJx4a65c_grow_d5877_10 : decode cJx4a65c_grow_d5877 10 = .ok (.areturn, 1) := by decide +kernel
theorem dJx4a65c_size_8abf5_0 : decode cJx4a65c_size_8abf5 0 = .ok (.aload_n 0, 1) := by decide +kernel
theorem dJx4a65c_size_8abf5_1 : decode cJx4a65c_size_8abf5 1 = .ok (.getfield 48, 3) := by decide +kernel
theorem dJx4a65c_size_8abf5_4 : decode cJx4a65c_size_8abf5 4 = .ok (.ireturn, 1) := by decide +kernel
theorem dJx4a65c_elementData_915e3_0 : decode cJx4a65c_elementData_915e3 0 = .ok (.aload_n 0, 1) := by decide +kernel
theorem dJx4a65c_elementData_915e3_1 : decode cJx4a65c_elementData_915e3 1 = .ok (.getfield 9, 3) := by decide +kernel
theorem dJx4a65c_elementData_915e3_4 : decode cJx4a65c_elementData_915e3 4 = .ok (.iload_n 1, 1) := by decide +kernel
theorem dJx4a65c_elementData_915e3_5 : decode cJx4a65c_elementData_915e3 5 = .ok (.aaload, 1) := by decide +kernel
theorem dJx4a65c_elementData_915e3_6 : decode cJx4a65c_elementData_915e3 6 = .ok (.areturn, 1) := by decide +kernel
set_option maxRecDepth 20000 in
theorem ggJx4a65c_get_915e3_J15_checkIndex_7cf53 : GoodIn wsJx4a65c_get_915e3 wsJ15_checkIndex_7cf53 := goodIn_r _ [5, 6, 7, 8, 9] (by decide +kernel) (by decide +kernel)
set_option maxRecDepth 20000 in
theorem gJx4a65c_get_915e3_J15_checkIndex_7cf53 : GoodIn wsJx4a65c_get_915e3 (va_wsS RJx4a65c 118 yJ15_checkIndex_7cf53 wsJ15_checkIndex_7cf53) := goodIn_app (goodIn_of _ (by decide +kernel)) ggJx4a65c_get_915e3_J15_checkIndex_7cf53
set_option maxRecDepth 20000 in
theorem ggJx4a65c_get_915e3_Jx4a65c_elementData_915e3 : GoodIn wsJx4a65c_get_915e3 wsJx4a65c_elementData_915e3 := goodIn_r _ [14, 15, 16, 17, 18] (by decide +kernel) (by decide +kernel)
set_option maxRecDepth 20000 in
theorem gJx4a65c_get_915e3_Jx4a65c_elementData_915e3 : GoodIn wsJx4a65c_get_915e3 (wsV RJx4a65c 123 RJx4a65c yJx4a65c_elementData_915e3 wsJx4a65c_elementData_915e3) := goodIn_app (goodIn_of _ (by decide +kernel)) ggJx4a65c_get_915e3_Jx4a65c_elementData_915e3
theorem dJx4a65c_get_915e3_0 : decode cJx4a65c_get_915e3 0 = .ok (.iload_n 1, 1) := by decide +kernel
theorem dJx4a65c_get_915e3_1 : decode cJx4a65c_get_915e3 1 = .ok (.aload_n 0, 1) := by decide +kernel
theorem dJx4a65c_get_915e3_2 : decode cJx4a65c_get_915e3 2 = .ok (.getfield 48, 3) := by decide +kernel
theorem dJx4a65c_get_915e3_5 : decode cJx4a65c_get_915e3 5 = .ok (.invokestatic 118, 3) := by decide +kernel
theorem dJx4a65c_get_915e3_8 : decode cJx4a65c_get_915e3 8 = .ok (.pop, 1) := by decide +kernel
theorem dJx4a65c_get_915e3_9 : decode cJx4a65c_get_915e3 9 = .ok (.aload_n 0, 1) := by decide +kernel
theorem dJx4a65c_get_915e3_10 : decode cJx4a65c_get_915e3 10 = .ok (.iload_n 1, 1) := by decide +kernel
theorem dJx4a65c_get_915e3_11 : decode cJx4a65c_get_915e3 11 = .ok (.invokevirtual 123, 3) := by decide +kernel
theorem dJx4a65c_get_915e3_14 : decode cJx4a65c_get_915e3 14 = .ok (.areturn, 1) := by decide +kernel
set_option maxRecDepth 20000 in
theorem ggJx4a65c_add_72be8_Jx4a65c_grow_d5877 : GoodIn wsJx4a65c_add_72be8 wsJx4a65c_grow_d5877 := goodIn_r _ [6, 1, 7, 8, 9, 5, 10, 11, 12, 13, 14, 15, 16, 17, 18, 19, 20, 21, 22, 23, 24, 25, 26, 27, 28, 29, 30, 31, 32, 33, 34, 35, 36, 37, 38, 39, 40, 41, 42, 43, 44, 45, 46, 47, 48, 49] (by decide +kernel) (by decide +kernel)
set_option maxRecDepth 20000 in
theorem gJx4a65c_add_72be8_Jx4a65c_grow_d5877 : GoodIn wsJx4a65c_add_72be8 (wsV RJx4a65c 129 RJx4a65c yJx4a65c_grow_d5877 wsJx4a65c_grow_d5877) := goodIn_app (goodIn_of _ (by decide +kernel)) ggJx4a65c_add_72be8_Jx4a65c_grow_d5877
theorem dJx4a65c_add_72be8_0 : decode cJx4a65c_add_72be8 0 = .ok (.iload_n 3, 1) := by decide +kernel
theorem dJx4a65c_add_72be8_1 : decode cJx4a65c_add_72be8 1 = .ok (.aload_n 2, 1) := by decide +kernel
theorem dJx4a65c_add_72be8_2 : decode cJx4a65c_add_72be8 2 = .ok (.arraylength, 1) := by decide +kernel
theorem dJx4a65c_add_72be8_3 : decode cJx4a65c_add_72be8 3 = .ok (.if_icmp .ne 8, 3) := by decide +kernel
theorem dJx4a65c_add_72be8_6 : decode cJx4a65c_add_72be8 6 = .ok (.aload_n 0, 1) := by decide +kernel
theorem dJx4a65c_add_72be8_7 : decode cJx4a65c_add_72be8 7 = .ok (.invokevirtual 129, 3) := by decide +kernel
theorem dJx4a65c_add_72be8_10 : decode cJx4a65c_add_72be8 10 = .ok (.astore_n 2, 1) := by decide +kernel
theorem dJx4a65c_add_72be8_11 : decode cJx4a65c_add_72be8 11 = .ok (.aload_n 2, 1) := by decide +kernel
theorem dJx4a65c_add_72be8_12 : decode cJx4a65c_add_72be8 12 = .ok (.iload_n 3, 1) := by decide +kernel
theorem dJx4a65c_add_72be8_13 : decode cJx4a65c_add_72be8 13 = .ok (.aload_n 1, 1) := by decide +kernel
theorem dJx4a65c_add_72be8_14 : decode cJx4a65c_add_72be8 14 = .ok (.aastore, 1) := by decide +kernel
theorem dJx4a65c_add_72be8_15 : decode cJx4a65c_add_72be8 15 = .ok (.aload_n 0, 1) := by decide +kernel
theorem dJx4a65c_add_72be8_16 : decode cJx4a65c_add_72be8 16 = .ok (.iload_n 3, 1) := by decide +kernel
theorem dJx4a65c_add_72be8_17 : decode cJx4a65c_add_72be8 17 = .ok (.iconst 1, 1) := by decide +kernel
theorem dJx4a65c_add_72be8_18 : decode cJx4a65c_add_72be8 18 = .ok (.iadd, 1) := by decide +kernel
theorem dJx4a65c_add_72be8_19 : decode cJx4a65c_add_72be8 19 = .ok (.putfield 48, 3) := by decide +kernel
theorem dJx4a65c_add_72be8_22 : decode cJx4a65c_add_72be8 22 = .ok (.return_, 1) := by decide +kernel
set_option maxRecDepth 20000 in
theorem ggJx4a65c_add_9ea2d_Jx4a65c_add_72be8 : GoodIn wsJx4a65c_add_9ea2d wsJx4a65c_add_72be8 := goodIn_r _ [9, 4, 10, 11, 12, 8, 13, 14, 15, 16, 17, 3, 18, 19, 20, 21, 22, 23, 24, 25, 26, 27, 28, 29, 30, 31, 32, 33, 34, 35, 36, 37, 38, 39, 40, 41, 42, 43, 44, 45, 46, 47, 48, 49, 50, 51, 52, 53, 54, 55] (by decide +kernel) (by decide +kernel)
set_option maxRecDepth 20000 in
theorem gJx4a65c_add_9ea2d_Jx4a65c_add_72be8 : GoodIn wsJx4a65c_add_9ea2d (wsV RJx4a65c 131 RJx4a65c yJx4a65c_add_72be8 wsJx4a65c_add_72be8) := goodIn_app (goodIn_of _ (by decide +kernel)) ggJx4a65c_add_9ea2d_Jx4a65c_add_72be8
theorem dJx4a65c_add_9ea2d_0 : decode cJx4a65c_add_9ea2d 0 = .ok (.aload_n 0, 1) := by decide +kernel
theorem dJx4a65c_add_9ea2d_1 : decode cJx4a65c_add_9ea2d 1 = .ok (.dup, 1) := by decide +kernel
theorem dJx4a65c_add_9ea2d_2 : decode cJx4a65c_add_9ea2d 2 = .ok (.getfield 63, 3) := by decide +kernel
theorem dJx4a65c_add_9ea2d_5 : decode cJx4a65c_add_9ea2d 5 = .ok (.iconst 1, 1) := by decide +kernel
theorem dJx4a65c_add_9ea2d_6 : decode cJx4a65c_add_9ea2d 6 = .ok (.iadd, 1) := by decide +kernel
theorem dJx4a65c_add_9ea2d_7 : decode cJx4a65c_add_9ea2d 7 = .ok (.putfield 63, 3) := by decide +kernel
theorem dJx4a65c_add_9ea2d_10 : decode cJx4a65c_add_9ea2d 10 = .ok (.aload_n 0, 1) := by decide +kernel
theorem dJx4a65c_add_9ea2d_11 : decode cJx4a65c_add_9ea2d 11 = .ok (.aload_n 1, 1) := by decide +kernel
theorem dJx4a65c_add_9ea2d_12 : decode cJx4a65c_add_9ea2d 12 = .ok (.aload_n 0, 1) := by decide +kernel
theorem dJx4a65c_add_9ea2d_13 : decode cJx4a65c_add_9ea2d 13 = .ok (.getfield 9, 3) := by decide +kernel
theorem dJx4a65c_add_9ea2d_16 : decode cJx4a65c_add_9ea2d 16 = .ok (.aload_n 0, 1) := by decide +kernel
theorem dJx4a65c_add_9ea2d_17 : decode cJx4a65c_add_9ea2d 17 = .ok (.getfield 48, 3) := by decide +kernel
theorem dJx4a65c_add_9ea2d_20 : decode cJx4a65c_add_9ea2d 20 = .ok (.invokevirtual 131, 3) := by decide +kernel
theorem dJx4a65c_add_9ea2d_23 : decode cJx4a65c_add_9ea2d 23 = .ok (.iconst 1, 1) := by decide +kernel
theorem dJx4a65c_add_9ea2d_24 : decode cJx4a65c_add_9ea2d 24 = .ok (.ireturn, 1) := by decide +kernel
set_option maxRecDepth 20000 in
theorem ggJ7_copyOf_1904c_J7_copyOf_6403c : GoodIn wsJ7_copyOf_1904c wsJ7_copyOf_6403c := goodIn_r _ [8, 9, 10, 11, 12, 13, 14, 15, 16, 17, 18] (by decide +kernel) (by decide +kernel)
set_option maxRecDepth 20000 in
theorem gJ7_copyOf_1904c_J7_copyOf_6403c : GoodIn wsJ7_copyOf_1904c (va_wsS RJ7 300 yJ7_copyOf_6403c wsJ7_copyOf_6403c) := goodIn_app (goodIn_of _ (by decide +kernel)) ggJ7_copyOf_1904c_J7_copyOf_6403c
theorem dJ7_copyOf_1904c_0 : decode cJ7_copyOf_1904c 0 = .ok (.aload_n 0, 1) := by decide +kernel
theorem dJ7_copyOf_1904c_1 : decode cJ7_copyOf_1904c 1 = .ok (.iload_n 1, 1) := by decide +kernel
theorem dJ7_copyOf_1904c_2 : decode cJ7_copyOf_1904c 2 = .ok (.aload_n 0, 1) := by decide +kernel
theorem dJ7_copyOf_1904c_3 : decode cJ7_copyOf_1904c 3 = .ok (.invokevirtual 86, 3) := by decide +kernel
theorem dJ7_copyOf_1904c_6 : decode cJ7_copyOf_1904c 6 = .ok (.invokestatic 300, 3) := by decide +kernel
theorem dJ7_copyOf_1904c_9 : decode cJ7_copyOf_1904c 9 = .ok (.areturn, 1) := by decide +kernel
theorem dJ7_copyOf_6403c_0 : decode cJ7_copyOf_6403c 0 = .ok (.aload_n 2, 1) := by decide +kernel
theorem dJ7_copyOf_6403c_1 : decode cJ7_copyOf_6403c 1 = .ok (.ldc 110, 2) := by decide +kernel
theorem dJ7_copyOf_6403c_3 : decode cJ7_copyOf_6403c 3 = .ok (.if_acmp .ne 10, 3) := by decide +kernel
theorem dJ7_copyOf_6403c_6 : decode cJ7_copyOf_6403c 6 = .ok (.iload_n 1, 1) := by decide +kernel
theorem dJ7_copyOf_6403c_7 : decode cJ7_copyOf_6403c 7 = .ok (.anewarray 2, 3) := by decide +kernel
theorem dJ7_copyOf_6403c_10 : decode cJ7_copyOf_6403c 10 = .ok (.goto 14, 3) := by decide +kernel
theorem dJ7_copyOf_6403c_13 : decode cJ7_copyOf_6403c 13 = .ok (.aload_n 2, 1) := by decide +kernel
theorem dJ7_copyOf_6403c_14 : decode cJ7_copyOf_6403c 14 = .ok (.invokevirtual 90, 3) := by decide +kernel
theorem dJ7_copyOf_6403c_17 : decode cJ7_copyOf_6403c 17 = .ok (.iload_n 1, 1) := by decide +kernel
theorem dJ7_copyOf_6403c_18 : decode cJ7_copyOf_6403c 18 = .ok (.invokestatic 95, 3) := by decide +kernel
theorem dJ7_copyOf_6403c_21 : decode cJ7_copyOf_6403c 21 = .ok (.checkcast 110, 3) := by decide +kernel
theorem dJ7_copyOf_6403c_24 : decode cJ7_copyOf_6403c 24 = .ok (.astore_n 3, 1) := by decide +kernel
theorem dJ7_copyOf_6403c_25 : decode cJ7_copyOf_6403c 25 = .ok (.aload_n 0, 1) := by decide +kernel
theorem dJ7_copyOf_6403c_26 : decode cJ7_copyOf_6403c 26 = .ok (.iconst 0, 1) := by decide +kernel
theorem dJ7_copyOf_6403c_27 : decode cJ7_copyOf_6403c 27 = .ok (.aload_n 3, 1) := by decide +kernel
theorem dJ7_copyOf_6403c_28 : decode cJ7_copyOf_6403c 28 = .ok (.iconst 0, 1) := by decide +kernel
theorem dJ7_copyOf_6403c_29 : decode cJ7_copyOf_6403c 29 = .ok (.aload_n 0, 1) := by decide +kernel
theorem dJ7_copyOf_6403c_30 : decode cJ7_copyOf_6403c 30 = .ok (.arraylength, 1) := by decide +kernel
theorem dJ7_copyOf_6403c_31 : decode cJ7_copyOf_6403c 31 = .ok (.iload_n 1, 1) := by decide +kernel
theorem dJ7_copyOf_6403c_32 : decode cJ7_copyOf_6403c 32 = .ok (.invokestatic 304, 3) := by decide +kernel
theorem dJ7_copyOf_6403c_35 : decode cJ7_copyOf_6403c 35 = .ok (.invokestatic 150, 3) := by decide +kernel
theorem dJ7_copyOf_6403c_38 : decode cJ7_copyOf_6403c 38 = .ok (.aload_n 3, 1) := by decide +kernel
theorem dJ7_copyOf_6403c_39 : decode cJ7_copyOf_6403c 39 = .ok (.areturn, 1) := by decide +kernel
set_option maxRecDepth 20000 in
theorem ggJ15_checkIndex_7cf53_J3_checkIndex_8e157 : GoodIn wsJ15_checkIndex_7cf53 wsJ3_checkIndex_8e157 := goodIn_r _ [4] (by decide +kernel) (by decide +kernel)
set_option maxRecDepth 20000 in
theorem gJ15_checkIndex_7cf53_J3_checkIndex_8e157 : GoodIn wsJ15_checkIndex_7cf53 (va_wsS RJ15 105 yJ3_checkIndex_8e157 wsJ3_checkIndex_8e157) := goodIn_app (goodIn_of _ (by decide +kernel)) ggJ15_checkIndex_7cf53_J3_checkIndex_8e157
theorem dJ15_checkIndex_7cf53_0 : decode cJ15_checkIndex_7cf53 0 = .ok (.iload_n 0, 1) := by decide +kernel
theorem dJ15_checkIndex_7cf53_1 : decode cJ15_checkIndex_7cf53 1 = .ok (.iload_n 1, 1) := by decide +kernel
theorem dJ15_checkIndex_7cf53_2 : decode cJ15_checkIndex_7cf53 2 = .ok (.aconst_null, 1) := by decide +kernel
theorem dJ15_checkIndex_7cf53_3 : decode cJ15_checkIndex_7cf53 3 = .ok (.invokestatic 105, 3) := by decide +kernel
theorem dJ15_checkIndex_7cf53_6 : decode cJ15_checkIndex_7cf53 6 = .ok (.ireturn, 1) := by decide +kernel
set_option maxRecDepth 20000 in
theorem ggJ8_newLength_cabcc_J8_hugeLength_7cf53 : GoodIn wsJ8_newLength_cabcc wsJ8_hugeLength_7cf53 := goodIn_r _ [9, 5] (by decide +kernel) (by decide +kernel)
set_option maxRecDepth 20000 in
theorem gJ8_newLength_cabcc_J8_hugeLength_7cf53 : GoodIn wsJ8_newLength_cabcc (va_wsS RJ8 201 yJ8_hugeLength_7cf53 wsJ8_hugeLength_7cf53) := goodIn_app (goodIn_of _ (by decide +kernel)) ggJ8_newLength_cabcc_J8_hugeLength_7cf53
theorem dJ8_newLength_cabcc_0 : decode cJ8_newLength_cabcc 0 = .ok (.iload_n 0, 1) := by decide +kernel
theorem dJ8_newLength_cabcc_1 : decode cJ8_newLength_cabcc 1 = .ok (.iload_n 1, 1) := by decide +kernel
theorem dJ8_newLength_cabcc_2 : decode cJ8_newLength_cabcc 2 = .ok (.iload_n 2, 1) := by decide +kernel
theorem dJ8_newLength_cabcc_3 : decode cJ8_newLength_cabcc 3 = .ok (.invokestatic 194, 3) := by decide +kernel
theorem dJ8_newLength_cabcc_6 : decode cJ8_newLength_cabcc 6 = .ok (.iadd, 1) := by decide +kernel
theorem dJ8_newLength_cabcc_7 : decode cJ8_newLength_cabcc 7 = .ok (.istore_n 3, 1) := by decide +kernel
theorem dJ8_newLength_cabcc_8 : decode cJ8_newLength_cabcc 8 = .ok (.iconst 0, 1) := by decide +kernel
theorem dJ8_newLength_cabcc_9 : decode cJ8_newLength_cabcc 9 = .ok (.iload_n 3, 1) := by decide +kernel
theorem dJ8_newLength_cabcc_10 : decode cJ8_newLength_cabcc 10 = .ok (.if_icmp .ge 11, 3) := by decide +kernel
theorem dJ8_newLength_cabcc_13 : decode cJ8_newLength_cabcc 13 = .ok (.iload_n 3, 1) := by decide +kernel
theorem dJ8_newLength_cabcc_14 : decode cJ8_newLength_cabcc 14 = .ok (.ldc 200, 2) := by decide +kernel
theorem dJ8_newLength_cabcc_16 : decode cJ8_newLength_cabcc 16 = .ok (.if_icmp .gt 5, 3) := by decide +kernel
theorem dJ8_newLength_cabcc_19 : decode cJ8_newLength_cabcc 19 = .ok (.iload_n 3, 1) := by decide +kernel
theorem dJ8_newLength_cabcc_20 : decode cJ8_newLength_cabcc 20 = .ok (.ireturn, 1) := by decide +kernel
theorem dJ8_newLength_cabcc_21 : decode cJ8_newLength_cabcc 21 = .ok (.iload_n 0, 1) := by decide +kernel
theorem dJ8_newLength_cabcc_22 : decode cJ8_newLength_cabcc 22 = .ok (.iload_n 1, 1) := by decide +kernel
theorem dJ8_newLength_cabcc_23 : decode cJ8_newLength_cabcc 23 = .ok (.invokestatic 201, 3) := by decide +kernel
theorem dJ8_newLength_cabcc_26 : decode cJ8_newLength_cabcc 26 = .ok (.ireturn, 1) := by decide +kernel
theorem dJ8_hugeLength_7cf53_0 : decode cJ8_hugeLength_7cf53 0 = .ok (.iload_n 0, 1) := by decide +kernel
theorem dJ8_hugeLength_7cf53_1 : decode cJ8_hugeLength_7cf53 1 = .ok (.iload_n 1, 1) := by decide +kernel
theorem dJ8_hugeLength_7cf53_2 : decode cJ8_hugeLength_7cf53 2 = .ok (.iadd, 1) := by decide +kernel
theorem dJ8_hugeLength_7cf53_3 : decode cJ8_hugeLength_7cf53 3 = .ok (.istore_n 2, 1) := by decide +kernel
theorem dJ8_hugeLength_7cf53_4 : decode cJ8_hugeLength_7cf53 4 = .ok (.iload_n 2, 1) := by decide +kernel
theorem dJ8_hugeLength_7cf53_5 : decode cJ8_hugeLength_7cf53 5 = .ok (.ifCond .ge 44, 3) := by decide +kernel
theorem dJ8_hugeLength_7cf53_8 : decode cJ8_hugeLength_7cf53 8 = .ok (.new 204, 3) := by decide +kernel
theorem dJ8_hugeLength_7cf53_11 : decode cJ8_hugeLength_7cf53 11 = .ok (.dup, 1) := by decide +kernel
theorem dJ8_hugeLength_7cf53_12 : decode cJ8_hugeLength_7cf53 12 = .ok (.new 89, 3) := by decide +kernel
theorem dJ8_hugeLength_7cf53_15 : decode cJ8_hugeLength_7cf53 15 = .ok (.dup, 1) := by decide +kernel
theorem dJ8_hugeLength_7cf53_16 : decode cJ8_hugeLength_7cf53 16 = .ok (.invokespecial 91, 3) := by decide +kernel
theorem dJ8_hugeLength_7cf53_19 : decode cJ8_hugeLength_7cf53 19 = .ok (.ldc 206, 2) := by decide +kernel
theorem dJ8_hugeLength_7cf53_21 : decode cJ8_hugeLength_7cf53 21 = .ok (.invokevirtual 94, 3) := by decide +kernel
theorem dJ8_hugeLength_7cf53_24 : decode cJ8_hugeLength_7cf53 24 = .ok (.iload_n 0, 1) := by decide +kernel
theorem dJ8_hugeLength_7cf53_25 : decode cJ8_hugeLength_7cf53 25 = .ok (.invokevirtual 98, 3) := by decide +kernel
theorem dJ8_hugeLength_7cf53_28 : decode cJ8_hugeLength_7cf53 28 = .ok (.ldc 208, 2) := by decide +kernel
theorem dJ8_hugeLength_7cf53_30 : decode cJ8_hugeLength_7cf53 30 = .ok (.invokevirtual 94, 3) := by decide +kernel
theorem dJ8_hugeLength_7cf53_33 : decode cJ8_hugeLength_7cf53 33 = .ok (.iload_n 1, 1) := by decide +kernel
theorem dJ8_hugeLength_7cf53_34 : decode cJ8_hugeLength_7cf53 34 = .ok (.invokevirtual 98, 3) := by decide +kernel
theorem dJ8_hugeLength_7cf53_37 : decode cJ8_hugeLength_7cf53 37 = .ok (.ldc 210, 2) := by decide +kernel
theorem dJ8_hugeLength_7cf53_39 : decode cJ8_hugeLength_7cf53 39 = .ok (.invokevirtual 94, 3) := by decide +kernel
theorem dJ8_hugeLength_7cf53_42 : decode cJ8_hugeLength_7cf53 42 = .ok (.invokevirtual 101, 3) := by decide +kernel
theorem dJ8_hugeLength_7cf53_45 : decode cJ8_hugeLength_7cf53 45 = .ok (.invokespecial 212, 3) := by decide +kernel
theorem dJ8_hugeLength_7cf53_48 : decode cJ8_hugeLength_7cf53 48 = .ok (.athrow, 1) := by decide +kernel
theorem dJ8_hugeLength_7cf53_49 : decode cJ8_hugeLength_7cf53 49 = .ok (.iload_n 2, 1) := by decide +kernel
theorem dJ8_hugeLength_7cf53_50 : decode cJ8_hugeLength_7cf53 50 = .ok (.ldc 200, 2) := by decide +kernel
theorem dJ8_hugeLength_7cf53_52 : decode cJ8_hugeLength_7cf53 52 = .ok (.if_icmp .gt 6, 3) := by decide +kernel
theorem dJ8_hugeLength_7cf53_55 : decode cJ8_hugeLength_7cf53 55 = .ok (.ldc 200, 2) := by decide +kernel
theorem dJ8_hugeLength_7cf53_57 : decode cJ8_hugeLength_7cf53 57 = .ok (.ireturn, 1) := by decide +kernel
theorem dJ8_hugeLength_7cf53_58 : decode cJ8_hugeLength_7cf53 58 = .ok (.iload_n 2, 1) := by decide +kernel
theorem dJ8_hugeLength_7cf53_59 : decode cJ8_hugeLength_7cf53 59 = .ok (.ireturn, 1) := by decide +kernel
theorem dJ3_checkIndex_8e157_0 : decode cJ3_checkIndex_8e157 0 = .ok (.iload_n 0, 1) := by decide +kernel
theorem dJ3_checkIndex_8e157_1 : decode cJ3_checkIndex_8e157 1 = .ok (.ifCond .lt 8, 3) := by decide +kernel
theorem dJ3_checkIndex_8e157_4 : decode cJ3_checkIndex_8e157 4 = .ok (.iload_n 0, 1) := by decide +kernel
theorem dJ3_checkIndex_8e157_5 : decode cJ3_checkIndex_8e157 5 = .ok (.iload_n 1, 1) := by decide +kernel
theorem dJ3_checkIndex_8e157_6 : decode cJ3_checkIndex_8e157 6 = .ok (.if_icmp .lt 10, 3) := by decide +kernel
theorem dJ3_checkIndex_8e157_9 : decode cJ3_checkIndex_8e157 9 = .ok (.aload_n 2, 1) := by decide +kernel
theorem dJ3_checkIndex_8e157_10 : decode cJ3_checkIndex_8e157 10 = .ok (.iload_n 0, 1) := by decide +kernel
theorem dJ3_checkIndex_8e157_11 : decode cJ3_checkIndex_8e157 11 = .ok (.iload_n 1, 1) := by decide +kernel
theorem dJ3_checkIndex_8e157_12 : decode cJ3_checkIndex_8e157 12 = .ok (.invokestatic 95, 3) := by decide +kernel
theorem dJ3_checkIndex_8e157_15 : decode cJ3_checkIndex_8e157 15 = .ok (.athrow, 1) := by decide +kernel
theorem dJ3_checkIndex_8e157_16 : decode cJ3_checkIndex_8e157 16 = .ok (.iload_n 0, 1) := by decide +kernel
theorem dJ3_checkIndex_8e157_17 : decode cJ3_checkIndex_8e157 17 = .ok (.ireturn, 1) := by decide +kernel
set_option maxRecDepth 20000 in
theorem ggL_ground_X5_ground : GoodIn wsL_ground wsX5_ground := goodIn_ca (goodIn_ca (goodIn_r _ [7, 8, 9, 10, 11, 12, 13, 14, 15, 16, 6, 17, 18, 19, 20, 21, 22, 23, 24, 25, 26, 27, 28, 29, 30, 31, 32, 33, 34, 35, 36, 37, 38, 39, 40, 41, 42, 43, 44, 45, 46, 47, 48, 49, 50, 51, 52, 53, 54, 55, 56, 57, 58] (by decide +kernel) (by decide +kernel)) (goodIn_sub (fun _ h => List.mem_cons_of_mem _ (List.mem_append_left _ (List.mem_append_right _ h))) (by decide +kernel))) (goodIn_sub (fun _ h => List.mem_cons_of_mem _ (List.mem_append_right _ h)) (by decide +kernel))
set_option maxRecDepth 20000 in
theorem gL_ground_X5_ground : GoodIn wsL_ground (wsV RL 7 RX5 yX5_ground wsX5_ground) := goodIn_app (goodIn_of _ (by decide +kernel)) ggL_ground_X5_ground
theorem dL_ground_0 : decode cL_ground 0 = .ok (.aload_n 0, 1) := by decide +kernel
theorem dL_ground_1 : decode cL_ground 1 = .ok (.iload_n 1, 1) := by decide +kernel
theorem dL_ground_2 : decode cL_ground 2 = .ok (.iload_n 2, 1) := by decide +kernel
theorem dL_ground_3 : decode cL_ground 3 = .ok (.iload_n 3, 1) := by decide +kernel
theorem dL_ground_4 : decode cL_ground 4 = .ok (.iload 4, 2) := by decide +kernel
theorem dL_ground_6 : decode cL_ground 6 = .ok (.iload 5, 2) := by decide +kernel
theorem dL_ground_8 : decode cL_ground 8 = .ok (.iload 6, 2) := by decide +kernel
theorem dL_ground_10 : decode cL_ground 10 = .ok (.invokevirtual 7, 3) := by decide +kernel
theorem dL_ground_13 : decode cL_ground 13 = .ok (.goto 11, 3) := by decide +kernel
theorem dL_ground_16 : decode cL_ground 16 = .ok (.astore 7, 2) := by decide +kernel
theorem dL_ground_18 : decode cL_ground 18 = .ok (.iconst 1, 1) := by decide +kernel
theorem dL_ground_19 : decode cL_ground 19 = .ok (.ireturn, 1) := by decide +kernel
theorem dL_ground_20 : decode cL_ground 20 = .ok (.astore 7, 2) := by decide +kernel
theorem dL_ground_22 : decode cL_ground 22 = .ok (.iconst 2, 1) := by decide +kernel
theorem dL_ground_23 : decode cL_ground 23 = .ok (.ireturn, 1) := by decide +kernel
theorem dL_ground_24 : decode cL_ground 24 = .ok (.iconst 0, 1) := by decide +kernel
theorem dL_ground_25 : decode cL_ground 25 = .ok (.ireturn, 1) := by decide +kernel
set_option maxRecDepth 20000 in
theorem ggL_moss_X5_moss : GoodIn wsL_moss wsX5_moss := goodIn_ca (goodIn_ca (goodIn_r _ [7, 8, 9, 10, 11, 6, 12, 13, 14, 15, 16, 17, 18, 19, 20, 21, 22, 23, 24, 25, 26, 27, 28, 29, 30, 31, 32, 33, 34, 35, 36] (by decide +kernel) (by decide +kernel)) (goodIn_sub (fun _ h => List.mem_cons_of_mem _ (List.mem_append_left _ (List.mem_append_right _ h))) (by decide +kernel))) (goodIn_sub (fun _ h => List.mem_cons_of_mem _ (List.mem_append_right _ h)) (by decide +kernel))
set_option maxRecDepth 20000 in
theorem gL_moss_X5_moss : GoodIn wsL_moss (wsV RL 17 RX5 yX5_moss wsX5_moss) := goodIn_app (goodIn_of _ (by decide +kernel)) ggL_moss_X5_moss
theorem dL_moss_0 : decode cL_moss 0 = .ok (.aload_n 3, 1) := by decide +kernel
theorem dL_moss_1 : decode cL_moss 1 = .ok (.iconst 0, 1) := by decide +kernel
theorem dL_moss_2 : decode cL_moss 2 = .ok (.aload_n 0, 1) := by decide +kernel
theorem dL_moss_3 : decode cL_moss 3 = .ok (.iload_n 1, 1) := by decide +kernel
theorem dL_moss_4 : decode cL_moss 4 = .ok (.iload_n 2, 1) := by decide +kernel
theorem dL_moss_5 : decode cL_moss 5 = .ok (.invokevirtual 17, 3) := by decide +kernel
theorem dL_moss_8 : decode cL_moss 8 = .ok (.i2l, 1) := by decide +kernel
theorem dL_moss_9 : decode cL_moss 9 = .ok (.lastore, 1) := by decide +kernel
theorem dL_moss_10 : decode cL_moss 10 = .ok (.goto 11, 3) := by decide +kernel
theorem dL_moss_13 : decode cL_moss 13 = .ok (.astore 4, 2) := by decide +kernel
theorem dL_moss_15 : decode cL_moss 15 = .ok (.iconst 1, 1) := by decide +kernel
theorem dL_moss_16 : decode cL_moss 16 = .ok (.ireturn, 1) := by decide +kernel
theorem dL_moss_17 : decode cL_moss 17 = .ok (.astore 4, 2) := by decide +kernel
theorem dL_moss_19 : decode cL_moss 19 = .ok (.iconst 2, 1) := by decide +kernel
theorem dL_moss_20 : decode cL_moss 20 = .ok (.ireturn, 1) := by decide +kernel
theorem dL_moss_21 : decode cL_moss 21 = .ok (.iconst 0, 1) := by decide +kernel
theorem dL_moss_22 : decode cL_moss 22 = .ok (.ireturn, 1) := by decide +kernel
set_option maxRecDepth 20000 in
theorem ggL_pass_X5_pass : GoodIn wsL_pass wsX5_pass := goodIn_ca (goodIn_ca (goodIn_r _ [7, 8, 9, 10, 6, 11, 12, 13, 14, 15, 16, 17, 18, 19, 20, 21, 22, 23, 24, 25, 26, 27, 28, 29, 30, 31, 32, 33, 34, 35, 36, 37, 38, 39, 40, 41, 42, 43, 44, 45, 46, 47, 48, 49, 50, 51, 52, 53, 54, 55, 56, 57, 58, 59, 60, 61, 62, 63, 64, 65, 66, 67, 68, 69, 70, 71, 72, 73, 74, 75, 76, 77, 78, 79, 80, 81, 82, 83, 84, 85, 86, 87, 88, 89, 90, 91, 92, 93, 94, 95, 96, 97, 98, 99, 100, 101, 102, 103, 104, 105, 106, 107, 108, 109, 110, 111, 112, 113, 114, 115, 116, 117, 118, 119, 120, 121, 122, 123, 124, 125, 126, 127, 128, 129, 130, 131, 132, 133, 134, 135, 136, 137, 138, 139, 140, 141, 142, 143, 144, 145, 146, 147, 148, 149, 150, 151, 152, 153, 154, 155, 156, 157, 158, 159, 160, 161, 162, 163, 164, 165, 166, 167, 168, 169, 170, 171, 172, 173, 174, 175, 176, 177, 178, 179, 180, 181, 182, 183, 184, 185, 186, 187, 188, 189, 190, 191, 192, 193, 194, 195, 196, 197, 198, 199, 200, 201, 202, 203, 204, 205, 206, 207, 208, 209, 210, 211, 212, 213, 214, 215, 216, 217, 218, 219, 220, 221, 222, 223, 224, 225, 226, 227, 228, 229, 230, 231] (by decide +kernel) (by decide +kernel)) (goodIn_sub (fun _ h => List.mem_cons_of_mem _ (List.mem_append_left _ (List.mem_append_right _ h))) (by decide +kernel))) (goodIn_sub (fun _ h => List.mem_cons_of_mem _ (List.mem_append_right _ h)) (by decide +kernel))
set_option maxRecDepth 20000 in
theorem gL_pass_X5_pass : GoodIn wsL_pass (wsV RL 21 RX5 yX5_pass wsX5_pass) := goodIn_app (goodIn_of _ (by decide +kernel)) ggL_pass_X5_pass
theorem dL_pass_0 : decode cL_pass 0 = .ok (.aload 4, 2) := by decide +kernel
theorem dL_pass_2 : decode cL_pass 2 = .ok (.iconst 0, 1) := by decide +kernel
theorem dL_pass_3 : decode cL_pass 3 = .ok (.aload_n 0, 1) := by decide +kernel
theorem dL_pass_4 : decode cL_pass 4 = .ok (.iload_n 1, 1) := by decide +kernel
theorem dL_pass_5 : decode cL_pass 5 = .ok (.iload_n 2, 1) := by decide +kernel
theorem dL_pass_6 : decode cL_pass 6 = .ok (.iload_n 3, 1) := by decide +kernel
theorem dL_pass_7 : decode cL_pass 7 = .ok (.invokevirtual 21, 3) := by decide +kernel
theorem dL_pass_10 : decode cL_pass 10 = .ok (.i2l, 1) := by decide +kernel
theorem dL_pass_11 : decode cL_pass 11 = .ok (.lastore, 1) := by decide +kernel
theorem dL_pass_12 : decode cL_pass 12 = .ok (.goto 11, 3) := by decide +kernel
theorem dL_pass_15 : decode cL_pass 15 = .ok (.astore 5, 2) := by decide +kernel
theorem dL_pass_17 : decode cL_pass 17 = .ok (.iconst 1, 1) := by decide +kernel
theorem dL_pass_18 : decode cL_pass 18 = .ok (.ireturn, 1) := by decide +kernel
theorem dL_pass_19 : decode cL_pass 19 = .ok (.astore 5, 2) := by decide +kernel
theorem dL_pass_21 : decode cL_pass 21 = .ok (.iconst 2, 1) := by decide +kernel
theorem dL_pass_22 : decode cL_pass 22 = .ok (.ireturn, 1) := by decide +kernel
theorem dL_pass_23 : decode cL_pass 23 = .ok (.iconst 0, 1) := by decide +kernel
theorem dL_pass_24 : decode cL_pass 24 = .ok (.ireturn, 1) := by decide +kernel
set_option maxRecDepth 20000 in
theorem ggL_fire_X5_fire : GoodIn wsL_fire wsX5_fire := goodIn_ca (goodIn_ca (goodIn_r _ [7, 8, 9, 10, 11, 12, 13, 14, 15, 6, 16, 17, 18, 19, 20, 21, 22, 23, 24, 25, 26, 27, 28, 29, 30, 31, 32, 33, 34, 35, 36, 37, 38, 39, 40, 41, 42, 43, 44, 45, 46, 47, 48, 49, 50] (by decide +kernel) (by decide +kernel)) (goodIn_sub (fun _ h => List.mem_cons_of_mem _ (List.mem_append_left _ (List.mem_append_right _ h))) (by decide +kernel))) (goodIn_sub (fun _ h => List.mem_cons_of_mem _ (List.mem_append_right _ h)) (by decide +kernel))
set_option maxRecDepth 20000 in
theorem gL_fire_X5_fire : GoodIn wsL_fire (wsV RL 27 RX5 yX5_fire wsX5_fire) := goodIn_app (goodIn_of _ (by decide +kernel)) ggL_fire_X5_fire
theorem dL_fire_0 : decode cL_fire 0 = .ok (.aload_n 2, 1) := by decide +kernel
theorem dL_fire_1 : decode cL_fire 1 = .ok (.iconst 0, 1) := by decide +kernel
theorem dL_fire_2 : decode cL_fire 2 = .ok (.aload_n 0, 1) := by decide +kernel
theorem dL_fire_3 : decode cL_fire 3 = .ok (.iload_n 1, 1) := by decide +kernel
theorem dL_fire_4 : decode cL_fire 4 = .ok (.invokevirtual 27, 3) := by decide +kernel
theorem dL_fire_7 : decode cL_fire 7 = .ok (.i2l, 1) := by decide +kernel
theorem dL_fire_8 : decode cL_fire 8 = .ok (.lastore, 1) := by decide +kernel
theorem dL_fire_9 : decode cL_fire 9 = .ok (.goto 9, 3) := by decide +kernel
theorem dL_fire_12 : decode cL_fire 12 = .ok (.astore_n 3, 1) := by decide +kernel
theorem dL_fire_13 : decode cL_fire 13 = .ok (.iconst 1, 1) := by decide +kernel
theorem dL_fire_14 : decode cL_fire 14 = .ok (.ireturn, 1) := by decide +kernel
theorem dL_fire_15 : decode cL_fire 15 = .ok (.astore_n 3, 1) := by decide +kernel
theorem dL_fire_16 : decode cL_fire 16 = .ok (.iconst 2, 1) := by decide +kernel
theorem dL_fire_17 : decode cL_fire 17 = .ok (.ireturn, 1) := by decide +kernel
theorem dL_fire_18 : decode cL_fire 18 = .ok (.iconst 0, 1) := by decide +kernel
theorem dL_fire_19 : decode cL_fire 19 = .ok (.ireturn, 1) := by decide +kernel
set_option maxRecDepth 20000 in
theorem ggL_breach_X5_breach : GoodIn wsL_breach wsX5_breach := goodIn_ca (goodIn_ca (goodIn_r _ [7, 8, 9, 10, 11, 12, 13, 6, 14, 15, 16, 17, 18, 19, 20, 21, 22, 23, 24, 25, 26, 27, 28, 29, 30, 31, 32, 33, 34, 35, 36, 37, 38, 39, 40, 41, 42, 43, 44, 45, 46, 47, 48, 49, 50, 51, 52, 53, 54, 55, 56, 57, 58, 59] (by decide +kernel) (by decide +kernel)) (goodIn_sub (fun _ h => List.mem_cons_of_mem _ (List.mem_append_left _ (List.mem_append_right _ h))) (by decide +kernel))) (goodIn_sub (fun _ h => List.mem_cons_of_mem _ (List.mem_append_right _ h)) (by decide +kernel))
set_option maxRecDepth 20000 in
theorem gL_breach_X5_breach : GoodIn wsL_breach (wsV RL 31 RX5 yX5_breach wsX5_breach) := goodIn_app (goodIn_of _ (by decide +kernel)) ggL_breach_X5_breach
theorem dL_breach_0 : decode cL_breach 0 = .ok (.aload_n 2, 1) := by decide +kernel
theorem dL_breach_1 : decode cL_breach 1 = .ok (.iconst 0, 1) := by decide +kernel
theorem dL_breach_2 : decode cL_breach 2 = .ok (.aload_n 0, 1) := by decide +kernel
theorem dL_breach_3 : decode cL_breach 3 = .ok (.iload_n 1, 1) := by decide +kernel
theorem dL_breach_4 : decode cL_breach 4 = .ok (.invokevirtual 31, 3) := by decide +kernel
theorem dL_breach_7 : decode cL_breach 7 = .ok (.i2l, 1) := by decide +kernel
theorem dL_breach_8 : decode cL_breach 8 = .ok (.lastore, 1) := by decide +kernel
theorem dL_breach_9 : decode cL_breach 9 = .ok (.goto 9, 3) := by decide +kernel
theorem dL_breach_12 : decode cL_breach 12 = .ok (.astore_n 3, 1) := by decide +kernel
theorem dL_breach_13 : decode cL_breach 13 = .ok (.iconst 1, 1) := by decide +kernel
theorem dL_breach_14 : decode cL_breach 14 = .ok (.ireturn, 1) := by decide +kernel
theorem dL_breach_15 : decode cL_breach 15 = .ok (.astore_n 3, 1) := by decide +kernel
theorem dL_breach_16 : decode cL_breach 16 = .ok (.iconst 2, 1) := by decide +kernel
theorem dL_breach_17 : decode cL_breach 17 = .ok (.ireturn, 1) := by decide +kernel
theorem dL_breach_18 : decode cL_breach 18 = .ok (.iconst 0, 1) := by decide +kernel
theorem dL_breach_19 : decode cL_breach 19 = .ok (.ireturn, 1) := by decide +kernel
set_option maxRecDepth 20000 in
theorem ggL_house_X5_house : GoodIn wsL_house wsX5_house := goodIn_ca (goodIn_ca (goodIn_r _ [7, 8, 9, 10, 11, 12, 13, 14, 15, 16, 6, 17, 18, 19, 20, 21, 22, 23, 24, 25, 26, 27, 28, 29, 30, 31, 32, 33, 34, 35, 36, 37, 38, 39, 40, 41, 42, 43, 44, 45, 46, 47, 48, 49, 50, 51, 52, 53, 54, 55, 56, 57, 58, 59, 60, 61, 62, 63, 64, 65, 66, 67, 68, 69, 70, 71, 72, 73, 74, 75, 76, 77, 78, 79, 80, 81, 82, 83, 84, 85, 86, 87, 88, 89, 90, 91, 92, 93, 94, 95, 96, 97, 98, 99, 100, 101, 102, 103, 104, 105, 106, 107, 108, 109, 110, 111, 112, 113, 114, 115, 116, 117, 118, 119, 120, 121, 122, 123, 124, 125] (by decide +kernel) (by decide +kernel)) (goodIn_sub (fun _ h => List.mem_cons_of_mem _ (List.mem_append_left _ (List.mem_append_right _ h))) (by decide +kernel))) (goodIn_sub (fun _ h => List.mem_cons_of_mem _ (List.mem_append_right _ h)) (by decide +kernel))
set_option maxRecDepth 20000 in
theorem gL_house_X5_house : GoodIn wsL_house (wsV RL 34 RX5 yX5_house wsX5_house) := goodIn_app (goodIn_of _ (by decide +kernel)) ggL_house_X5_house
theorem dL_house_0 : decode cL_house 0 = .ok (.aload 4, 2) := by decide +kernel
theorem dL_house_2 : decode cL_house 2 = .ok (.iconst 0, 1) := by decide +kernel
theorem dL_house_3 : decode cL_house 3 = .ok (.aload_n 0, 1) := by decide +kernel
theorem dL_house_4 : decode cL_house 4 = .ok (.iload_n 1, 1) := by decide +kernel
theorem dL_house_5 : decode cL_house 5 = .ok (.iload_n 2, 1) := by decide +kernel
theorem dL_house_6 : decode cL_house 6 = .ok (.iload_n 3, 1) := by decide +kernel
theorem dL_house_7 : decode cL_house 7 = .ok (.invokevirtual 34, 3) := by decide +kernel
theorem dL_house_10 : decode cL_house 10 = .ok (.i2l, 1) := by decide +kernel
theorem dL_house_11 : decode cL_house 11 = .ok (.lastore, 1) := by decide +kernel
theorem dL_house_12 : decode cL_house 12 = .ok (.goto 11, 3) := by decide +kernel
theorem dL_house_15 : decode cL_house 15 = .ok (.astore 5, 2) := by decide +kernel
theorem dL_house_17 : decode cL_house 17 = .ok (.iconst 1, 1) := by decide +kernel
theorem dL_house_18 : decode cL_house 18 = .ok (.ireturn, 1) := by decide +kernel
theorem dL_house_19 : decode cL_house 19 = .ok (.astore 5, 2) := by decide +kernel
theorem dL_house_21 : decode cL_house 21 = .ok (.iconst 2, 1) := by decide +kernel
theorem dL_house_22 : decode cL_house 22 = .ok (.ireturn, 1) := by decide +kernel
theorem dL_house_23 : decode cL_house 23 = .ok (.iconst 0, 1) := by decide +kernel
theorem dL_house_24 : decode cL_house 24 = .ok (.ireturn, 1) := by decide +kernel
set_option maxRecDepth 20000 in
theorem ggL_borehole_X5_borehole : GoodIn wsL_borehole wsX5_borehole := goodIn_ca (goodIn_ca (goodIn_ca (goodIn_r _ [8, 9, 10, 11, 12, 13, 14, 15, 7, 16, 17, 18, 19, 20, 21, 22, 23, 24, 25, 26, 27, 28, 29, 30, 31, 32, 33, 34, 35, 36, 37, 38, 39, 40, 41, 42, 43, 44, 45, 46, 47, 48, 49, 50, 51, 52, 53, 54, 55, 56, 57, 58, 59, 60, 61, 62, 63, 64, 65, 66, 67, 68, 69, 70, 71, 72, 73, 74, 75, 76, 77, 78, 79, 80, 81, 82, 83, 84, 85, 86, 87, 88, 89, 90, 91, 92, 93, 94, 95, 96, 97, 98, 99, 100, 101, 102, 103, 104, 105, 106, 107, 108, 109, 110, 111, 112, 113, 114, 115, 116, 117, 118] (by decide +kernel) (by decide +kernel)) (goodIn_sub (fun _ h => List.mem_cons_of_mem _ (List.mem_append_left _ (List.mem_append_left _ (List.mem_append_right _ h)))) (by decide +kernel))) (goodIn_sub (fun _ h => List.mem_cons_of_mem _ (List.mem_append_left _ (List.mem_append_right _ h))) (by decide +kernel))) (goodIn_sub (fun _ h => List.mem_cons_of_mem _ (List.mem_append_right _ h)) (by decide +kernel))
set_option maxRecDepth 20000 in
theorem gL_borehole_X5_borehole : GoodIn wsL_borehole (wsV RL 38 RX5 yX5_borehole wsX5_borehole) := goodIn_app (goodIn_of _ (by decide +kernel)) ggL_borehole_X5_borehole
theorem dL_borehole_0 : decode cL_borehole 0 = .ok (.aload_n 3, 1) := by decide +kernel
theorem dL_borehole_1 : decode cL_borehole 1 = .ok (.iconst 0, 1) := by decide +kernel
theorem dL_borehole_2 : decode cL_borehole 2 = .ok (.aload_n 0, 1) := by decide +kernel
theorem dL_borehole_3 : decode cL_borehole 3 = .ok (.iload_n 1, 1) := by decide +kernel
theorem dL_borehole_4 : decode cL_borehole 4 = .ok (.iload_n 2, 1) := by decide +kernel
theorem dL_borehole_5 : decode cL_borehole 5 = .ok (.invokevirtual 38, 3) := by decide +kernel
theorem dL_borehole_8 : decode cL_borehole 8 = .ok (.i2l, 1) := by decide +kernel
theorem dL_borehole_9 : decode cL_borehole 9 = .ok (.lastore, 1) := by decide +kernel
theorem dL_borehole_10 : decode cL_borehole 10 = .ok (.goto 15, 3) := by decide +kernel
theorem dL_borehole_13 : decode cL_borehole 13 = .ok (.astore 4, 2) := by decide +kernel
theorem dL_borehole_15 : decode cL_borehole 15 = .ok (.iconst 1, 1) := by decide +kernel
theorem dL_borehole_16 : decode cL_borehole 16 = .ok (.ireturn, 1) := by decide +kernel
theorem dL_borehole_17 : decode cL_borehole 17 = .ok (.astore 4, 2) := by decide +kernel
theorem dL_borehole_19 : decode cL_borehole 19 = .ok (.iconst 2, 1) := by decide +kernel
theorem dL_borehole_20 : decode cL_borehole 20 = .ok (.ireturn, 1) := by decide +kernel
theorem dL_borehole_21 : decode cL_borehole 21 = .ok (.astore 4, 2) := by decide +kernel
theorem dL_borehole_23 : decode cL_borehole 23 = .ok (.iconst 3, 1) := by decide +kernel
theorem dL_borehole_24 : decode cL_borehole 24 = .ok (.ireturn, 1) := by decide +kernel
theorem dL_borehole_25 : decode cL_borehole 25 = .ok (.iconst 0, 1) := by decide +kernel
theorem dL_borehole_26 : decode cL_borehole 26 = .ok (.ireturn, 1) := by decide +kernel
set_option maxRecDepth 20000 in
theorem ggL_claim_X5_claim : GoodIn wsL_claim wsX5_claim := goodIn_ca (goodIn_ca (goodIn_r _ [7, 8, 9, 10, 11, 12, 13, 14, 15, 16, 17, 18, 19, 20, 21, 22, 23, 6, 24, 25, 26, 27, 28, 29, 30, 31, 32, 33, 34, 35, 36, 37, 38, 39, 40, 41, 42, 43, 44, 45, 46, 47, 48, 49, 50, 51, 52, 53, 54, 55, 56, 57, 58, 59, 60, 61, 62, 63, 64, 65, 66, 67, 68, 69, 70, 71, 72, 73, 74, 75, 76, 77, 78, 79, 80, 81, 82, 83, 84, 85, 86, 87, 88, 89, 90, 91, 92, 93, 94, 95, 96, 97, 98, 99, 100, 101, 102, 103, 104, 105, 106, 107, 108, 109, 110, 111, 112, 113, 114, 115, 116, 117, 118, 119, 120, 121, 122, 123, 124, 125, 126, 127, 128, 129, 130, 131, 132, 133, 134, 135, 136, 137, 138, 139, 140, 141, 142, 143, 144, 145, 146, 147, 148, 149, 150, 151, 152, 153, 154, 155, 156, 157, 158, 159, 160, 161, 162, 163, 164, 165, 166, 167, 168, 169, 170] (by decide +kernel) (by decide +kernel)) (goodIn_sub (fun _ h => List.mem_cons_of_mem _ (List.mem_append_left _ (List.mem_append_right _ h))) (by decide +kernel))) (goodIn_sub (fun _ h => List.mem_cons_of_mem _ (List.mem_append_right _ h)) (by decide +kernel))
set_option maxRecDepth 20000 in
theorem gL_claim_X5_claim : GoodIn wsL_claim (wsV RL 41 RX5 yX5_claim wsX5_claim) := goodIn_app (goodIn_of _ (by decide +kernel)) ggL_claim_X5_claim
theorem dL_claim_0 : decode cL_claim 0 = .ok (.aload_n 2, 1) := by decide +kernel
theorem dL_claim_1 : decode cL_claim 1 = .ok (.iconst 0, 1) := by decide +kernel
theorem dL_claim_2 : decode cL_claim 2 = .ok (.aload_n 0, 1) := by decide +kernel
theorem dL_claim_3 : decode cL_claim 3 = .ok (.iload_n 1, 1) := by decide +kernel
theorem dL_claim_4 : decode cL_claim 4 = .ok (.invokevirtual 41, 3) := by decide +kernel
theorem dL_claim_7 : decode cL_claim 7 = .ok (.i2l, 1) := by decide +kernel
theorem dL_claim_8 : decode cL_claim 8 = .ok (.lastore, 1) := by decide +kernel
theorem dL_claim_9 : decode cL_claim 9 = .ok (.goto 9, 3) := by decide +kernel
theorem dL_claim_12 : decode cL_claim 12 = .ok (.astore_n 3, 1) := by decide +kernel
theorem dL_claim_13 : decode cL_claim 13 = .ok (.iconst 1, 1) := by decide +kernel
theorem dL_claim_14 : decode cL_claim 14 = .ok (.ireturn, 1) := by decide +kernel
theorem dL_claim_15 : decode cL_claim 15 = .ok (.astore_n 3, 1) := by decide +kernel
theorem dL_claim_16 : decode cL_claim 16 = .ok (.iconst 2, 1) := by decide +kernel
theorem dL_claim_17 : decode cL_claim 17 = .ok (.ireturn, 1) := by decide +kernel
theorem dL_claim_18 : decode cL_claim 18 = .ok (.iconst 0, 1) := by decide +kernel
theorem dL_claim_19 : decode cL_claim 19 = .ok (.ireturn, 1) := by decide +kernel
set_option maxRecDepth 20000 in
theorem ggL_cellOf_X5_cellOf : GoodIn wsL_cellOf wsX5_cellOf := goodIn_ca (goodIn_ca (goodIn_r _ [7, 8, 9, 10, 11, 12, 13, 14, 15, 16, 6, 17, 18, 19, 20, 21, 22, 23, 24, 25, 26, 27, 28, 29, 30, 31, 32, 33, 34, 35, 36, 37, 38, 39, 40, 41, 42, 43, 44, 45, 46, 47, 48, 49, 50, 51, 52, 53, 54, 55, 56, 57, 58, 59, 60, 61, 62, 63, 64, 65, 66, 67, 68, 69, 70, 71, 72, 73, 74, 75, 76, 77, 78, 79] (by decide +kernel) (by decide +kernel)) (goodIn_sub (fun _ h => List.mem_cons_of_mem _ (List.mem_append_left _ (List.mem_append_right _ h))) (by decide +kernel))) (goodIn_sub (fun _ h => List.mem_cons_of_mem _ (List.mem_append_right _ h)) (by decide +kernel))
set_option maxRecDepth 20000 in
theorem gL_cellOf_X5_cellOf : GoodIn wsL_cellOf (wsV RL 44 RX5 yX5_cellOf wsX5_cellOf) := goodIn_app (goodIn_of _ (by decide +kernel)) ggL_cellOf_X5_cellOf
theorem dL_cellOf_0 : decode cL_cellOf 0 = .ok (.aload_n 3, 1) := by decide +kernel
theorem dL_cellOf_1 : decode cL_cellOf 1 = .ok (.iconst 0, 1) := by decide +kernel
theorem dL_cellOf_2 : decode cL_cellOf 2 = .ok (.aload_n 0, 1) := by decide +kernel
theorem dL_cellOf_3 : decode cL_cellOf 3 = .ok (.iload_n 1, 1) := by decide +kernel
theorem dL_cellOf_4 : decode cL_cellOf 4 = .ok (.iload_n 2, 1) := by decide +kernel
theorem dL_cellOf_5 : decode cL_cellOf 5 = .ok (.invokevirtual 44, 3) := by decide +kernel
theorem dL_cellOf_8 : decode cL_cellOf 8 = .ok (.i2l, 1) := by decide +kernel
theorem dL_cellOf_9 : decode cL_cellOf 9 = .ok (.lastore, 1) := by decide +kernel
theorem dL_cellOf_10 : decode cL_cellOf 10 = .ok (.goto 11, 3) := by decide +kernel
theorem dL_cellOf_13 : decode cL_cellOf 13 = .ok (.astore 4, 2) := by decide +kernel
theorem dL_cellOf_15 : decode cL_cellOf 15 = .ok (.iconst 1, 1) := by decide +kernel
theorem dL_cellOf_16 : decode cL_cellOf 16 = .ok (.ireturn, 1) := by decide +kernel
theorem dL_cellOf_17 : decode cL_cellOf 17 = .ok (.astore 4, 2) := by decide +kernel
theorem dL_cellOf_19 : decode cL_cellOf 19 = .ok (.iconst 2, 1) := by decide +kernel
theorem dL_cellOf_20 : decode cL_cellOf 20 = .ok (.ireturn, 1) := by decide +kernel
theorem dL_cellOf_21 : decode cL_cellOf 21 = .ok (.iconst 0, 1) := by decide +kernel
theorem dL_cellOf_22 : decode cL_cellOf 22 = .ok (.ireturn, 1) := by decide +kernel
set_option maxRecDepth 20000 in
theorem ggL_layerOf_X5_layerOf : GoodIn wsL_layerOf wsX5_layerOf := goodIn_ca (goodIn_ca (goodIn_r _ [7, 8, 9, 10, 11, 12, 13, 14, 15, 6, 16, 17, 18, 19, 20, 21, 22, 23, 24, 25, 26, 27, 28, 29, 30, 31, 32, 33, 34, 35, 36, 37, 38, 39, 40, 41, 42, 43, 44, 45, 46, 47, 48, 49, 50, 51, 52, 53, 54, 55, 56, 57, 58, 59, 60, 61, 62, 63, 64, 65, 66, 67] (by decide +kernel) (by decide +kernel)) (goodIn_sub (fun _ h => List.mem_cons_of_mem _ (List.mem_append_left _ (List.mem_append_right _ h))) (by decide +kernel))) (goodIn_sub (fun _ h => List.mem_cons_of_mem _ (List.mem_append_right _ h)) (by decide +kernel))
set_option maxRecDepth 20000 in
theorem gL_layerOf_X5_layerOf : GoodIn wsL_layerOf (wsV RL 47 RX5 yX5_layerOf wsX5_layerOf) := goodIn_app (goodIn_of _ (by decide +kernel)) ggL_layerOf_X5_layerOf
theorem dL_layerOf_0 : decode cL_layerOf 0 = .ok (.aload 4, 2) := by decide +kernel
theorem dL_layerOf_2 : decode cL_layerOf 2 = .ok (.iconst 0, 1) := by decide +kernel
theorem dL_layerOf_3 : decode cL_layerOf 3 = .ok (.aload_n 0, 1) := by decide +kernel
theorem dL_layerOf_4 : decode cL_layerOf 4 = .ok (.iload_n 1, 1) := by decide +kernel
theorem dL_layerOf_5 : decode cL_layerOf 5 = .ok (.iload_n 2, 1) := by decide +kernel
theorem dL_layerOf_6 : decode cL_layerOf 6 = .ok (.iload_n 3, 1) := by decide +kernel
theorem dL_layerOf_7 : decode cL_layerOf 7 = .ok (.invokevirtual 47, 3) := by decide +kernel
theorem dL_layerOf_10 : decode cL_layerOf 10 = .ok (.i2l, 1) := by decide +kernel
theorem dL_layerOf_11 : decode cL_layerOf 11 = .ok (.lastore, 1) := by decide +kernel
theorem dL_layerOf_12 : decode cL_layerOf 12 = .ok (.goto 11, 3) := by decide +kernel
theorem dL_layerOf_15 : decode cL_layerOf 15 = .ok (.astore 5, 2) := by decide +kernel
theorem dL_layerOf_17 : decode cL_layerOf 17 = .ok (.iconst 1, 1) := by decide +kernel
theorem dL_layerOf_18 : decode cL_layerOf 18 = .ok (.ireturn, 1) := by decide +kernel
theorem dL_layerOf_19 : decode cL_layerOf 19 = .ok (.astore 5, 2) := by decide +kernel
theorem dL_layerOf_21 : decode cL_layerOf 21 = .ok (.iconst 2, 1) := by decide +kernel
theorem dL_layerOf_22 : decode cL_layerOf 22 = .ok (.ireturn, 1) := by decide +kernel
theorem dL_layerOf_23 : decode cL_layerOf 23 = .ok (.iconst 0, 1) := by decide +kernel
theorem dL_layerOf_24 : decode cL_layerOf 24 = .ok (.ireturn, 1) := by decide +kernel
set_option maxRecDepth 20000 in
theorem ggL_neighbour_X5_neighbour : GoodIn wsL_neighbour wsX5_neighbour := goodIn_ca (goodIn_r _ [6, 7, 8, 9, 10, 11, 5, 12, 13, 14, 15] (by decide +kernel) (by decide +kernel)) (goodIn_sub (fun _ h => List.mem_cons_of_mem _ (List.mem_append_right _ h)) (by decide +kernel))
set_option maxRecDepth 20000 in
theorem gL_neighbour_X5_neighbour : GoodIn wsL_neighbour (wsV RL 50 RX5 yX5_neighbour wsX5_neighbour) := goodIn_app (goodIn_of _ (by decide +kernel)) ggL_neighbour_X5_neighbour
theorem dL_neighbour_0 : decode cL_neighbour 0 = .ok (.aload_n 3, 1) := by decide +kernel
theorem dL_neighbour_1 : decode cL_neighbour 1 = .ok (.iconst 0, 1) := by decide +kernel
theorem dL_neighbour_2 : decode cL_neighbour 2 = .ok (.aload_n 0, 1) := by decide +kernel
theorem dL_neighbour_3 : decode cL_neighbour 3 = .ok (.iload_n 1, 1) := by decide +kernel
theorem dL_neighbour_4 : decode cL_neighbour 4 = .ok (.iload_n 2, 1) := by decide +kernel
theorem dL_neighbour_5 : decode cL_neighbour 5 = .ok (.invokevirtual 50, 3) := by decide +kernel
theorem dL_neighbour_8 : decode cL_neighbour 8 = .ok (.i2l, 1) := by decide +kernel
theorem dL_neighbour_9 : decode cL_neighbour 9 = .ok (.lastore, 1) := by decide +kernel
theorem dL_neighbour_10 : decode cL_neighbour 10 = .ok (.goto 7, 3) := by decide +kernel
theorem dL_neighbour_13 : decode cL_neighbour 13 = .ok (.astore 4, 2) := by decide +kernel
theorem dL_neighbour_15 : decode cL_neighbour 15 = .ok (.iconst 1, 1) := by decide +kernel
theorem dL_neighbour_16 : decode cL_neighbour 16 = .ok (.ireturn, 1) := by decide +kernel
theorem dL_neighbour_17 : decode cL_neighbour 17 = .ok (.iconst 0, 1) := by decide +kernel
theorem dL_neighbour_18 : decode cL_neighbour 18 = .ok (.ireturn, 1) := by decide +kernel
set_option maxRecDepth 20000 in
theorem ggL_houseOf_X5_houseOf : GoodIn wsL_houseOf wsX5_houseOf := goodIn_ca (goodIn_ca (goodIn_r _ [7, 8, 9, 10, 11, 12, 13, 14, 15, 16, 17, 18, 19, 20, 21, 22, 6, 23, 24, 25, 26, 27, 28, 29, 30, 31, 32, 33, 34, 35, 36, 37, 38, 39, 40, 41, 42, 43, 44, 45, 46, 47, 48, 49, 50, 51, 52, 53, 54, 55, 56, 57, 58, 59, 60, 61, 62, 63, 64, 65, 66, 67, 68, 69, 70, 71, 72, 73, 74, 75, 76, 77, 78, 79, 80, 81, 82, 83, 84, 85, 86, 87, 88, 89, 90, 91, 92, 93, 94, 95, 96, 97, 98, 99, 100, 101] (by decide +kernel) (by decide +kernel)) (goodIn_sub (fun _ h => List.mem_cons_of_mem _ (List.mem_append_left _ (List.mem_append_right _ h))) (by decide +kernel))) (goodIn_sub (fun _ h => List.mem_cons_of_mem _ (List.mem_append_right _ h)) (by decide +kernel))
set_option maxRecDepth 20000 in
theorem gL_houseOf_X5_houseOf : GoodIn wsL_houseOf (wsV RL 53 RX5 yX5_houseOf wsX5_houseOf) := goodIn_app (goodIn_of _ (by decide +kernel)) ggL_houseOf_X5_houseOf
theorem dL_houseOf_0 : decode cL_houseOf 0 = .ok (.aload_n 3, 1) := by decide +kernel
theorem dL_houseOf_1 : decode cL_houseOf 1 = .ok (.iconst 0, 1) := by decide +kernel
theorem dL_houseOf_2 : decode cL_houseOf 2 = .ok (.aload_n 0, 1) := by decide +kernel
theorem dL_houseOf_3 : decode cL_houseOf 3 = .ok (.iload_n 1, 1) := by decide +kernel
theorem dL_houseOf_4 : decode cL_houseOf 4 = .ok (.iload_n 2, 1) := by decide +kernel
theorem dL_houseOf_5 : decode cL_houseOf 5 = .ok (.invokevirtual 53, 3) := by decide +kernel
theorem dL_houseOf_8 : decode cL_houseOf 8 = .ok (.i2l, 1) := by decide +kernel
theorem dL_houseOf_9 : decode cL_houseOf 9 = .ok (.lastore, 1) := by decide +kernel
theorem dL_houseOf_10 : decode cL_houseOf 10 = .ok (.goto 11, 3) := by decide +kernel
theorem dL_houseOf_13 : decode cL_houseOf 13 = .ok (.astore 4, 2) := by decide +kernel
theorem dL_houseOf_15 : decode cL_houseOf 15 = .ok (.iconst 1, 1) := by decide +kernel
theorem dL_houseOf_16 : decode cL_houseOf 16 = .ok (.ireturn, 1) := by decide +kernel
theorem dL_houseOf_17 : decode cL_houseOf 17 = .ok (.astore 4, 2) := by decide +kernel
theorem dL_houseOf_19 : decode cL_houseOf 19 = .ok (.iconst 2, 1) := by decide +kernel
theorem dL_houseOf_20 : decode cL_houseOf 20 = .ok (.ireturn, 1) := by decide +kernel
theorem dL_houseOf_21 : decode cL_houseOf 21 = .ok (.iconst 0, 1) := by decide +kernel
theorem dL_houseOf_22 : decode cL_houseOf 22 = .ok (.ireturn, 1) := by decide +kernel
set_option maxRecDepth 20000 in
theorem ggL_reading_X5_reading : GoodIn wsL_reading wsX5_reading := goodIn_ca (goodIn_r _ [6, 7, 8, 9, 10, 11, 12, 13, 14, 15, 16, 17, 18, 5, 19, 20, 21, 22, 23, 24, 25, 26, 27, 28, 29, 30, 31, 32, 33, 34, 35, 36, 37, 38, 39, 40, 41, 42, 43, 44, 45, 46, 47, 48, 49, 50, 51, 52, 53, 54, 55, 56, 57, 58, 59, 60, 61, 62, 63, 64, 65, 66] (by decide +kernel) (by decide +kernel)) (goodIn_sub (fun _ h => List.mem_cons_of_mem _ (List.mem_append_right _ h)) (by decide +kernel))
set_option maxRecDepth 20000 in
theorem gL_reading_X5_reading : GoodIn wsL_reading (wsV RL 56 RX5 yX5_reading wsX5_reading) := goodIn_app (goodIn_of _ (by decide +kernel)) ggL_reading_X5_reading
theorem dL_reading_0 : decode cL_reading 0 = .ok (.aload 4, 2) := by decide +kernel
theorem dL_reading_2 : decode cL_reading 2 = .ok (.iconst 0, 1) := by decide +kernel
theorem dL_reading_3 : decode cL_reading 3 = .ok (.aload_n 0, 1) := by decide +kernel
theorem dL_reading_4 : decode cL_reading 4 = .ok (.iload_n 1, 1) := by decide +kernel
theorem dL_reading_5 : decode cL_reading 5 = .ok (.iload_n 2, 1) := by decide +kernel
theorem dL_reading_6 : decode cL_reading 6 = .ok (.iload_n 3, 1) := by decide +kernel
theorem dL_reading_7 : decode cL_reading 7 = .ok (.invokevirtual 56, 3) := by decide +kernel
theorem dL_reading_10 : decode cL_reading 10 = .ok (.i2l, 1) := by decide +kernel
theorem dL_reading_11 : decode cL_reading 11 = .ok (.lastore, 1) := by decide +kernel
theorem dL_reading_12 : decode cL_reading 12 = .ok (.goto 7, 3) := by decide +kernel
theorem dL_reading_15 : decode cL_reading 15 = .ok (.astore 5, 2) := by decide +kernel
theorem dL_reading_17 : decode cL_reading 17 = .ok (.iconst 1, 1) := by decide +kernel
theorem dL_reading_18 : decode cL_reading 18 = .ok (.ireturn, 1) := by decide +kernel
theorem dL_reading_19 : decode cL_reading 19 = .ok (.iconst 0, 1) := by decide +kernel
theorem dL_reading_20 : decode cL_reading 20 = .ok (.ireturn, 1) := by decide +kernel
set_option maxRecDepth 20000 in
theorem ggL_claimOf_X5_claimOf : GoodIn wsL_claimOf wsX5_claimOf := goodIn_ca (goodIn_r _ [6, 7, 8, 9, 10, 11, 12, 13, 14, 15, 16, 17, 5, 18, 19, 20, 21, 22, 23, 24, 25, 26, 27, 28, 29, 30, 31, 32, 33, 34, 35, 36, 37, 38, 39, 40, 41, 42, 43, 44, 45, 46, 47, 48, 49, 50, 51, 52, 53, 54] (by decide +kernel) (by decide +kernel)) (goodIn_sub (fun _ h => List.mem_cons_of_mem _ (List.mem_append_right _ h)) (by decide +kernel))
set_option maxRecDepth 20000 in
theorem gL_claimOf_X5_claimOf : GoodIn wsL_claimOf (wsV RL 59 RX5 yX5_claimOf wsX5_claimOf) := goodIn_app (goodIn_of _ (by decide +kernel)) ggL_claimOf_X5_claimOf
theorem dL_claimOf_0 : decode cL_claimOf 0 = .ok (.aload_n 2, 1) := by decide +kernel
theorem dL_claimOf_1 : decode cL_claimOf 1 = .ok (.iconst 0, 1) := by decide +kernel
theorem dL_claimOf_2 : decode cL_claimOf 2 = .ok (.aload_n 0, 1) := by decide +kernel
theorem dL_claimOf_3 : decode cL_claimOf 3 = .ok (.iload_n 1, 1) := by decide +kernel
theorem dL_claimOf_4 : decode cL_claimOf 4 = .ok (.invokevirtual 59, 3) := by decide +kernel
theorem dL_claimOf_7 : decode cL_claimOf 7 = .ok (.i2l, 1) := by decide +kernel
theorem dL_claimOf_8 : decode cL_claimOf 8 = .ok (.lastore, 1) := by decide +kernel
theorem dL_claimOf_9 : decode cL_claimOf 9 = .ok (.goto 6, 3) := by decide +kernel
theorem dL_claimOf_12 : decode cL_claimOf 12 = .ok (.astore_n 3, 1) := by decide +kernel
theorem dL_claimOf_13 : decode cL_claimOf 13 = .ok (.iconst 1, 1) := by decide +kernel
theorem dL_claimOf_14 : decode cL_claimOf 14 = .ok (.ireturn, 1) := by decide +kernel
theorem dL_claimOf_15 : decode cL_claimOf 15 = .ok (.iconst 0, 1) := by decide +kernel
theorem dL_claimOf_16 : decode cL_claimOf 16 = .ok (.ireturn, 1) := by decide +kernel
set_option maxRecDepth 20000 in
theorem ggL_claimAnew_X5_claimAnew : GoodIn wsL_claimAnew wsX5_claimAnew := goodIn_ca (goodIn_r _ [6, 7, 8, 9, 10, 11, 12, 13, 14, 15, 16, 17, 18, 19, 5, 20, 21, 22, 23, 24, 25, 26, 27, 28, 29, 30, 31, 32, 33, 34, 35, 36, 37, 38, 39, 40, 41, 42, 43, 44, 45, 46, 47, 48, 49, 50, 51, 52, 53, 54, 55, 56, 57, 58, 59, 60, 61, 62, 63, 64, 65, 66, 67, 68, 69, 70, 71, 72, 73, 74, 75, 76, 77, 78, 79, 80, 81, 82, 83, 84, 85, 86, 87, 88, 89, 90, 91, 92, 93, 94, 95, 96, 97, 98, 99, 100] (by decide +kernel) (by decide +kernel)) (goodIn_sub (fun _ h => List.mem_cons_of_mem _ (List.mem_append_right _ h)) (by decide +kernel))
set_option maxRecDepth 20000 in
theorem gL_claimAnew_X5_claimAnew : GoodIn wsL_claimAnew (wsV RL 62 RX5 yX5_claimAnew wsX5_claimAnew) := goodIn_app (goodIn_of _ (by decide +kernel)) ggL_claimAnew_X5_claimAnew
theorem dL_claimAnew_0 : decode cL_claimAnew 0 = .ok (.aload_n 2, 1) := by decide +kernel
theorem dL_claimAnew_1 : decode cL_claimAnew 1 = .ok (.iconst 0, 1) := by decide +kernel
theorem dL_claimAnew_2 : decode cL_claimAnew 2 = .ok (.aload_n 0, 1) := by decide +kernel
theorem dL_claimAnew_3 : decode cL_claimAnew 3 = .ok (.iload_n 1, 1) := by decide +kernel
theorem dL_claimAnew_4 : decode cL_claimAnew 4 = .ok (.invokevirtual 62, 3) := by decide +kernel
theorem dL_claimAnew_7 : decode cL_claimAnew 7 = .ok (.i2l, 1) := by decide +kernel
theorem dL_claimAnew_8 : decode cL_claimAnew 8 = .ok (.lastore, 1) := by decide +kernel
theorem dL_claimAnew_9 : decode cL_claimAnew 9 = .ok (.goto 6, 3) := by decide +kernel
theorem dL_claimAnew_12 : decode cL_claimAnew 12 = .ok (.astore_n 3, 1) := by decide +kernel
theorem dL_claimAnew_13 : decode cL_claimAnew 13 = .ok (.iconst 1, 1) := by decide +kernel
theorem dL_claimAnew_14 : decode cL_claimAnew 14 = .ok (.ireturn, 1) := by decide +kernel
theorem dL_claimAnew_15 : decode cL_claimAnew 15 = .ok (.iconst 0, 1) := by decide +kernel
theorem dL_claimAnew_16 : decode cL_claimAnew 16 = .ok (.ireturn, 1) := by decide +kernel
set_option maxRecDepth 20000 in
theorem ggL_balance_X5_balance : GoodIn wsL_balance wsX5_balance := goodIn_ca (goodIn_r _ [6, 7, 8, 9, 5, 10, 11, 12, 13, 14, 15, 16, 17, 18, 19, 20, 21, 22, 23, 24, 25, 26, 27, 28, 29, 30, 31, 32, 33, 34, 35, 36, 37, 38, 39, 40, 41, 42, 43, 44, 45, 46, 47, 48, 49, 50, 51, 52, 53, 54, 55, 56, 57, 58, 59, 60, 61, 62, 63, 64, 65] (by decide +kernel) (by decide +kernel)) (goodIn_sub (fun _ h => List.mem_cons_of_mem _ (List.mem_append_right _ h)) (by decide +kernel))
set_option maxRecDepth 20000 in
theorem gL_balance_X5_balance : GoodIn wsL_balance (wsV RL 65 RX5 yX5_balance wsX5_balance) := goodIn_app (goodIn_of _ (by decide +kernel)) ggL_balance_X5_balance
theorem dL_balance_0 : decode cL_balance 0 = .ok (.aload_n 3, 1) := by decide +kernel
theorem dL_balance_1 : decode cL_balance 1 = .ok (.iconst 0, 1) := by decide +kernel
theorem dL_balance_2 : decode cL_balance 2 = .ok (.aload_n 0, 1) := by decide +kernel
theorem dL_balance_3 : decode cL_balance 3 = .ok (.iload_n 1, 1) := by decide +kernel
theorem dL_balance_4 : decode cL_balance 4 = .ok (.iload_n 2, 1) := by decide +kernel
theorem dL_balance_5 : decode cL_balance 5 = .ok (.invokevirtual 65, 3) := by decide +kernel
theorem dL_balance_8 : decode cL_balance 8 = .ok (.lastore, 1) := by decide +kernel
theorem dL_balance_9 : decode cL_balance 9 = .ok (.goto 7, 3) := by decide +kernel
theorem dL_balance_12 : decode cL_balance 12 = .ok (.astore 4, 2) := by decide +kernel
theorem dL_balance_14 : decode cL_balance 14 = .ok (.iconst 1, 1) := by decide +kernel
theorem dL_balance_15 : decode cL_balance 15 = .ok (.ireturn, 1) := by decide +kernel
theorem dL_balance_16 : decode cL_balance 16 = .ok (.iconst 0, 1) := by decide +kernel
theorem dL_balance_17 : decode cL_balance 17 = .ok (.ireturn, 1) := by decide +kernel
set_option maxRecDepth 20000 in
theorem ggL_air_X5_air : GoodIn wsL_air wsX5_air := goodIn_ca (goodIn_r _ [6, 7, 8, 9, 5, 10, 11, 12, 13, 14, 15, 16, 17, 18, 19, 20, 21, 22] (by decide +kernel) (by decide +kernel)) (goodIn_sub (fun _ h => List.mem_cons_of_mem _ (List.mem_append_right _ h)) (by decide +kernel))
set_option maxRecDepth 20000 in
theorem gL_air_X5_air : GoodIn wsL_air (wsV RL 69 RX5 yX5_air wsX5_air) := goodIn_app (goodIn_of _ (by decide +kernel)) ggL_air_X5_air
theorem dL_air_0 : decode cL_air 0 = .ok (.aload_n 2, 1) := by decide +kernel
theorem dL_air_1 : decode cL_air 1 = .ok (.iconst 0, 1) := by decide +kernel
theorem dL_air_2 : decode cL_air 2 = .ok (.aload_n 0, 1) := by decide +kernel
theorem dL_air_3 : decode cL_air 3 = .ok (.iload_n 1, 1) := by decide +kernel
theorem dL_air_4 : decode cL_air 4 = .ok (.invokevirtual 69, 3) := by decide +kernel
theorem dL_air_7 : decode cL_air 7 = .ok (.lastore, 1) := by decide +kernel
theorem dL_air_8 : decode cL_air 8 = .ok (.goto 6, 3) := by decide +kernel
theorem dL_air_11 : decode cL_air 11 = .ok (.astore_n 3, 1) := by decide +kernel
theorem dL_air_12 : decode cL_air 12 = .ok (.iconst 1, 1) := by decide +kernel
theorem dL_air_13 : decode cL_air 13 = .ok (.ireturn, 1) := by decide +kernel
theorem dL_air_14 : decode cL_air 14 = .ok (.iconst 0, 1) := by decide +kernel
theorem dL_air_15 : decode cL_air 15 = .ok (.ireturn, 1) := by decide +kernel
set_option maxRecDepth 20000 in
theorem ggL_law_X5_init : GoodIn wsL_law wsX5_init := goodIn_r _ [9, 10, 11, 12, 13, 14, 15, 16, 17, 18, 19, 20, 6, 21, 22, 23, 24, 25, 26, 27, 28, 29, 30, 31, 32, 33, 34, 35, 36, 37, 38, 39, 40, 41, 42, 43, 44, 45, 46, 47, 48, 49, 50, 51, 52, 53, 54, 55, 56, 57, 58, 59, 60, 61, 62, 63, 64, 2, 65, 66, 67, 68, 69, 70, 71, 72, 73, 74, 75, 76, 77, 78, 736, 737, 738, 739, 740, 741, 742, 743, 744, 745, 778, 779, 780, 781, 782, 783, 784, 785, 786, 787, 788, 789, 790, 791] (by decide +kernel) (by decide +kernel)
set_option maxRecDepth 20000 in
theorem gL_law_X5_init : GoodIn wsL_law (wsX5_init) := ggL_law_X5_init
set_option maxRecDepth 20000 in
theorem ggL_law_X6_init : GoodIn wsL_law wsX6_init := goodIn_r _ [81, 82, 11, 12, 23, 83, 84, 85, 86, 87, 88, 89, 90, 91, 92, 93, 94, 95, 25, 96, 97, 98, 99, 100, 101, 102, 103, 104, 105, 106, 107, 108, 109, 746, 747, 748, 749, 750, 751, 752, 753, 754, 755, 756, 757, 758, 759, 760, 761, 762, 763, 764, 765, 766, 767, 768, 769, 770, 771, 772, 773, 774, 775, 776, 777] (by decide +kernel) (by decide +kernel)
set_option maxRecDepth 20000 in
theorem gL_law_X6_init : GoodIn wsL_law (wsX6_init) := ggL_law_X6_init
set_option maxRecDepth 20000 in
theorem ggL_law_L_ground : GoodIn wsL_law wsL_ground := goodIn_ca (goodIn_ca (goodIn_r _ [113, 114, 115, 116, 117, 118, 2, 119, 14, 120, 21, 121, 122, 123, 124, 125, 126, 127, 128, 129, 130, 131, 132, 133, 134, 135, 72, 73, 49, 74, 59, 60, 75, 76, 77, 78, 58, 61, 736, 737, 738, 739, 740, 741, 742, 743, 744, 745, 781, 782, 783, 784, 785, 786, 787, 788, 789, 790, 791] (by decide +kernel) (by decide +kernel)) (goodIn_sub (fun _ h => List.mem_append_left _ (List.mem_append_left _ (List.mem_append_right _ h))) (by decide +kernel))) (goodIn_sub (fun _ h => List.mem_append_left _ (List.mem_append_right _ h)) (by decide +kernel))
set_option maxRecDepth 20000 in
theorem gL_law_L_ground : GoodIn wsL_law (va_wsS RL 77 yL_ground wsL_ground) := goodIn_app (goodIn_of _ (by decide +kernel)) ggL_law_L_ground
set_option maxRecDepth 20000 in
theorem ggL_law_X6_ground : GoodIn wsL_law wsX6_ground := goodIn_r _ [139, 105, 91, 107, 89, 90, 109, 92, 140, 141, 5, 142, 143, 144, 145, 146, 147, 148, 149, 150, 746, 747, 748, 749, 750, 751, 752, 753, 754, 755, 756, 757, 758, 759, 760, 761, 762, 763, 764, 765, 766, 767, 768, 769, 770, 771, 772, 773, 774, 775, 776, 777] (by decide +kernel) (by decide +kernel)
set_option maxRecDepth 20000 in
theorem gL_law_X6_ground : GoodIn wsL_law (wsV RL 82 RX6 yX6_ground wsX6_ground) := goodIn_app (goodIn_of _ (by decide +kernel)) ggL_law_X6_ground
set_option maxRecDepth 20000 in
theorem ggL_law_X6_thrown : GoodIn wsL_law wsX6_thrown := goodIn_r _ [154, 150, 746, 747, 748, 749, 750, 751, 752, 753, 754, 755, 756, 757, 758, 759, 760, 761, 762, 763, 764, 765, 766, 767, 768, 769, 770, 771, 772, 773, 774, 775, 776, 777] (by decide +kernel) (by decide +kernel)
set_option maxRecDepth 20000 in
theorem gL_law_X6_thrown : GoodIn wsL_law (wsV RL 83 RX6 yX6_thrown wsX6_thrown) := goodIn_app (goodIn_of _ (by decide +kernel)) ggL_law_X6_thrown
set_option maxRecDepth 20000 in
theorem ggL_law_L_moss : GoodIn wsL_law wsL_moss := goodIn_ca (goodIn_ca (goodIn_r _ [157, 114, 115, 158, 159, 160, 2, 161, 14, 162, 125, 126, 127, 128, 129, 130, 131, 132, 133, 134, 736, 737, 738, 739, 740, 741, 742, 743, 744, 745, 781, 782, 783, 784, 785, 786, 787] (by decide +kernel) (by decide +kernel)) (goodIn_sub (fun _ h => List.mem_append_left _ (List.mem_append_left _ (List.mem_append_right _ h))) (by decide +kernel))) (goodIn_sub (fun _ h => List.mem_append_left _ (List.mem_append_right _ h)) (by decide +kernel))
set_option maxRecDepth 20000 in
theorem gL_law_L_moss : GoodIn wsL_law (va_wsS RL 87 yL_moss wsL_moss) := goodIn_app (goodIn_of _ (by decide +kernel)) ggL_law_L_moss
set_option maxRecDepth 20000 in
theorem ggL_law_X6_moss : GoodIn wsL_law wsX6_moss := goodIn_r _ [166, 86, 140, 141, 5, 142, 143, 144, 145, 146, 147, 148, 149, 150, 746, 747, 748, 749, 750, 751, 752, 753, 754, 755, 756, 757, 758, 759, 760, 761, 762, 763, 764, 765, 766, 767, 768, 769, 770, 771, 772, 773, 774, 775, 776, 777] (by decide +kernel) (by decide +kernel)
set_option maxRecDepth 20000 in
theorem gL_law_X6_moss : GoodIn wsL_law (wsV RL 90 RX6 yX6_moss wsX6_moss) := goodIn_app (goodIn_of _ (by decide +kernel)) ggL_law_X6_moss
set_option maxRecDepth 20000 in
theorem ggL_law_L_pass : GoodIn wsL_law wsL_pass := goodIn_ca (goodIn_ca (goodIn_r _ [169, 115, 170, 171, 172, 173, 2, 174, 175, 130, 131, 132, 133, 134, 176, 177, 178, 179, 180, 181, 182, 183, 184, 185, 186, 187, 188, 14, 189, 190, 191, 192, 193, 194, 195, 196, 197, 21, 198, 199, 200, 28, 201, 50, 202, 203, 204, 205, 52, 206, 207, 208, 49, 209, 59, 75, 76, 77, 78, 58, 61, 210, 211, 212, 213, 70, 214, 215, 216, 217, 218, 219, 220, 221, 222, 18, 223, 224, 225, 120, 123, 226, 227, 228, 17, 229, 230, 231, 232, 233, 234, 235, 236, 237, 238, 239, 240, 241, 242, 243, 244, 245, 246, 33, 247, 248, 249, 250, 251, 252, 253, 254, 51, 255, 256, 257, 258, 259, 260, 261, 262, 263, 264, 265, 266, 267, 268, 269, 270, 271, 272, 273, 274, 275, 276, 277, 278, 279, 280, 281, 282, 283, 284, 285, 286, 287, 288, 289, 290, 291, 292, 293, 294, 295, 296, 297, 298, 299, 22, 162, 124, 300, 301, 302, 303, 304, 305, 306, 307, 308, 60, 309, 310, 311, 312, 313, 314, 315, 316, 317, 318, 319, 320, 321, 322, 323, 19, 324, 325, 326, 327, 328, 329, 330, 331, 332, 333, 334, 736, 737, 738, 739, 740, 741, 742, 743, 744, 745, 781, 782, 783, 784, 785, 786, 787, 788, 789, 790, 791, 792, 793, 794, 795, 796, 778, 779, 780, 797, 798, 799, 800, 801] (by decide +kernel) (by decide +kernel)) (goodIn_sub (fun _ h => List.mem_append_left _ (List.mem_append_right _ h)) (by decide +kernel))) (goodIn_sub (fun _ h => List.mem_append_right _ h) (by decide +kernel))
set_option maxRecDepth 20000 in
theorem gL_law_L_pass : GoodIn wsL_law (va_wsS RL 91 yL_pass wsL_pass) := goodIn_app (goodIn_of _ (by decide +kernel)) ggL_law_L_pass
set_option maxRecDepth 20000 in
theorem ggL_law_X6_pass : GoodIn wsL_law wsX6_pass := goodIn_r _ [338, 339, 143, 144, 5, 145, 146, 147, 148, 149, 150, 340, 341, 342, 343, 85, 344, 97, 91, 94, 95, 345, 102, 99, 100, 101, 346, 347, 348, 349, 350, 351, 352, 93, 86, 96, 353, 354, 355, 356, 89, 90, 357, 358, 359, 360, 84, 361, 362, 363, 364, 365, 366, 367, 105, 368, 369, 370, 371, 83, 372, 373, 374, 375, 376, 377, 378, 379, 380, 381, 382, 383, 384, 385, 386, 87, 387, 388, 389, 390, 92, 391, 392, 393, 746, 747, 748, 749, 750, 751, 752, 753, 754, 755, 756, 757, 758, 759, 760, 761, 762, 763, 764, 765, 766, 767, 768, 769, 770, 771, 772, 773, 774, 775, 776, 777] (by decide +kernel) (by decide +kernel)
set_option maxRecDepth 20000 in
theorem gL_law_X6_pass : GoodIn wsL_law (wsV RL 94 RX6 yX6_pass wsX6_pass) := goodIn_app (goodIn_of _ (by decide +kernel)) ggL_law_X6_pass
set_option maxRecDepth 20000 in
theorem ggL_law_L_fire : GoodIn wsL_law wsL_fire := goodIn_ca (goodIn_ca (goodIn_r _ [396, 114, 170, 397, 398, 399, 2, 400, 14, 189, 120, 124, 162, 22, 125, 126, 127, 128, 129, 300, 211, 212, 28, 213, 70, 176, 177, 178, 179, 180, 736, 737, 738, 739, 740, 741, 742, 743, 744, 745, 781, 782, 783, 784, 785, 786, 787, 788, 789, 790, 791] (by decide +kernel) (by decide +kernel)) (goodIn_sub (fun _ h => List.mem_append_left _ (List.mem_append_left _ (List.mem_append_right _ h))) (by decide +kernel))) (goodIn_sub (fun _ h => List.mem_append_right _ h) (by decide +kernel))
set_option maxRecDepth 20000 in
theorem gL_law_L_fire : GoodIn wsL_law (va_wsS RL 95 yL_fire wsL_fire) := goodIn_app (goodIn_of _ (by decide +kernel)) ggL_law_L_fire
set_option maxRecDepth 20000 in
theorem ggL_law_X6_fire : GoodIn wsL_law wsX6_fire := goodIn_r _ [404, 85, 92, 86, 393, 140, 141, 5, 142, 143, 144, 145, 357, 358, 359, 360, 84, 146, 147, 148, 149, 150, 746, 747, 748, 749, 750, 751, 752, 753, 754, 755, 756, 757, 758, 759, 760, 761, 762, 763, 764, 765, 766, 767, 768, 769, 770, 771, 772, 773, 774, 775, 776, 777] (by decide +kernel) (by decide +kernel)
set_option maxRecDepth 20000 in
theorem gL_law_X6_fire : GoodIn wsL_law (wsV RL 98 RX6 yX6_fire wsX6_fire) := goodIn_app (goodIn_of _ (by decide +kernel)) ggL_law_X6_fire
set_option maxRecDepth 20000 in
theorem ggL_law_L_breach : GoodIn wsL_law wsL_breach := goodIn_ca (goodIn_ca (goodIn_r _ [407, 114, 170, 408, 409, 410, 2, 411, 14, 269, 24, 412, 125, 126, 127, 128, 129, 176, 177, 178, 179, 180, 413, 414, 415, 416, 417, 418, 419, 420, 26, 421, 422, 423, 424, 274, 425, 426, 427, 428, 275, 276, 277, 736, 737, 738, 739, 740, 741, 742, 743, 744, 745, 781, 782, 783, 784, 785, 786, 787] (by decide +kernel) (by decide +kernel)) (goodIn_sub (fun _ h => List.mem_append_left _ (List.mem_append_left _ (List.mem_append_right _ h))) (by decide +kernel))) (goodIn_sub (fun _ h => List.mem_append_right _ h) (by decide +kernel))
set_option maxRecDepth 20000 in
theorem gL_law_L_breach : GoodIn wsL_law (va_wsS RL 99 yL_breach wsL_breach) := goodIn_app (goodIn_of _ (by decide +kernel)) ggL_law_L_breach
set_option maxRecDepth 20000 in
theorem ggL_law_X6_breach : GoodIn wsL_law wsX6_breach := goodIn_r _ [432, 84, 88, 433, 140, 141, 5, 142, 143, 144, 145, 146, 147, 148, 149, 150, 434, 435, 436, 437, 380, 381, 382, 746, 747, 748, 749, 750, 751, 752, 753, 754, 755, 756, 757, 758, 759, 760, 761, 762, 763, 764, 765, 766, 767, 768, 769, 770, 771, 772, 773, 774, 775, 776, 777] (by decide +kernel) (by decide +kernel)
set_option maxRecDepth 20000 in
theorem gL_law_X6_breach : GoodIn wsL_law (wsV RL 101 RX6 yX6_breach wsX6_breach) := goodIn_app (goodIn_of _ (by decide +kernel)) ggL_law_X6_breach
set_option maxRecDepth 20000 in
theorem ggL_law_L_house : GoodIn wsL_law wsL_house := goodIn_ca (goodIn_ca (goodIn_r _ [440, 114, 170, 441, 442, 443, 2, 444, 14, 445, 18, 446, 447, 448, 175, 125, 126, 127, 128, 129, 300, 211, 212, 28, 213, 70, 226, 227, 228, 17, 229, 230, 176, 177, 178, 179, 180, 449, 450, 451, 452, 11, 12, 453, 454, 455, 456, 457, 458, 459, 460, 461, 462, 33, 463, 464, 465, 466, 467, 468, 469, 470, 471, 472, 473, 474, 32, 475, 203, 192, 204, 476, 477, 478, 479, 480, 481, 482, 483, 484, 485, 486, 487, 488, 489, 490, 491, 492, 493, 494, 495, 496, 497, 498, 499, 191, 193, 500, 501, 502, 503, 736, 737, 738, 739, 740, 741, 742, 743, 744, 745, 781, 782, 783, 784, 785, 786, 787, 792, 793, 794, 795, 796, 778, 779, 780] (by decide +kernel) (by decide +kernel)) (goodIn_sub (fun _ h => List.mem_append_left _ (List.mem_append_left _ (List.mem_append_right _ h))) (by decide +kernel))) (goodIn_sub (fun _ h => List.mem_append_right _ h) (by decide +kernel))
set_option maxRecDepth 20000 in
theorem gL_law_L_house : GoodIn wsL_law (va_wsS RL 102 yL_house wsL_house) := goodIn_app (goodIn_of _ (by decide +kernel)) ggL_law_L_house
set_option maxRecDepth 20000 in
theorem ggL_law_X6_house : GoodIn wsL_law wsX6_house := goodIn_r _ [507, 344, 94, 95, 96, 98, 339, 140, 141, 5, 142, 143, 144, 145, 508, 509, 510, 511, 357, 358, 359, 360, 84, 146, 147, 148, 149, 150, 746, 747, 748, 749, 750, 751, 752, 753, 754, 755, 756, 757, 758, 759, 760, 761, 762, 763, 764, 765, 766, 767, 768, 769, 770, 771, 772, 773, 774, 775, 776, 777] (by decide +kernel) (by decide +kernel)
set_option maxRecDepth 20000 in
theorem gL_law_X6_house : GoodIn wsL_law (wsV RL 105 RX6 yX6_house wsX6_house) := goodIn_app (goodIn_of _ (by decide +kernel)) ggL_law_X6_house
set_option maxRecDepth 20000 in
theorem ggL_law_L_borehole : GoodIn wsL_law wsL_borehole := goodIn_ca (goodIn_ca (goodIn_ca (goodIn_r _ [514, 114, 115, 170, 515, 516, 517, 2, 518, 19, 519, 520, 329, 175, 125, 126, 127, 128, 129, 130, 131, 132, 133, 134, 226, 227, 228, 17, 229, 230, 176, 177, 178, 179, 180, 521, 522, 523, 524, 11, 12, 525, 332, 526, 527, 203, 192, 204, 23, 333, 457, 458, 459, 460, 461, 462, 33, 463, 464, 465, 466, 467, 468, 469, 470, 471, 472, 473, 474, 32, 475, 476, 477, 478, 479, 480, 481, 482, 483, 484, 485, 486, 487, 488, 489, 490, 491, 492, 493, 494, 495, 496, 497, 498, 499, 191, 193, 500, 501, 502, 503, 736, 737, 738, 739, 740, 741, 742, 743, 744, 745, 797, 798, 799, 800, 801, 778, 779, 780] (by decide +kernel) (by decide +kernel)) (goodIn_sub (fun _ h => List.mem_append_left _ (List.mem_append_left _ (List.mem_append_right _ h))) (by decide +kernel))) (goodIn_sub (fun _ h => List.mem_append_left _ (List.mem_append_right _ h)) (by decide +kernel))) (goodIn_sub (fun _ h => List.mem_append_right _ h) (by decide +kernel))
set_option maxRecDepth 20000 in
theorem gL_law_L_borehole : GoodIn wsL_law (va_wsS RL 106 yL_borehole wsL_borehole) := goodIn_app (goodIn_of _ (by decide +kernel)) ggL_law_L_borehole
set_option maxRecDepth 20000 in
theorem ggL_law_X6_borehole : GoodIn wsL_law wsX6_borehole := goodIn_r _ [531, 345, 99, 100, 101, 339, 140, 141, 5, 142, 143, 144, 145, 146, 147, 148, 149, 150, 746, 747, 748, 749, 750, 751, 752, 753, 754, 755, 756, 757, 758, 759, 760, 761, 762, 763, 764, 765, 766, 767, 768, 769, 770, 771, 772, 773, 774, 775, 776, 777] (by decide +kernel) (by decide +kernel)
set_option maxRecDepth 20000 in
theorem gL_law_X6_borehole : GoodIn wsL_law (wsV RL 108 RX6 yX6_borehole wsX6_borehole) := goodIn_app (goodIn_of _ (by decide +kernel)) ggL_law_X6_borehole
set_option maxRecDepth 20000 in
theorem ggL_law_L_claim : GoodIn wsL_law wsL_claim := goodIn_ca (goodIn_ca (goodIn_r _ [534, 114, 170, 535, 536, 537, 2, 538, 18, 20, 223, 539, 540, 541, 175, 315, 226, 227, 228, 17, 229, 230, 125, 126, 127, 128, 129, 176, 177, 178, 179, 180, 231, 232, 233, 234, 235, 236, 237, 238, 239, 240, 241, 242, 243, 244, 245, 246, 33, 542, 543, 544, 545, 190, 191, 192, 193, 546, 547, 548, 549, 550, 551, 552, 553, 554, 19, 324, 325, 225, 314, 555, 556, 557, 329, 558, 526, 331, 559, 560, 561, 562, 333, 563, 564, 565, 566, 11, 12, 567, 568, 569, 570, 571, 457, 458, 459, 460, 461, 462, 463, 464, 465, 466, 467, 468, 469, 470, 471, 472, 473, 474, 32, 475, 203, 204, 476, 477, 478, 479, 480, 481, 482, 483, 484, 485, 486, 487, 488, 489, 490, 491, 492, 493, 494, 495, 496, 497, 498, 499, 500, 501, 502, 503, 736, 737, 738, 739, 740, 741, 742, 743, 744, 745, 802, 803, 804, 805, 792, 793, 794, 795, 796, 778, 779, 780, 797, 798, 799, 800, 801] (by decide +kernel) (by decide +kernel)) (goodIn_sub (fun _ h => List.mem_append_left _ (List.mem_append_left _ (List.mem_append_right _ h))) (by decide +kernel))) (goodIn_sub (fun _ h => List.mem_append_right _ h) (by decide +kernel))
set_option maxRecDepth 20000 in
theorem gL_law_L_claim : GoodIn wsL_law (va_wsS RL 109 yL_claim wsL_claim) := goodIn_app (goodIn_of _ (by decide +kernel)) ggL_law_L_claim
set_option maxRecDepth 20000 in
theorem ggL_law_X6_claim : GoodIn wsL_law wsX6_claim := goodIn_r _ [575, 576, 103, 577, 578, 579, 5, 580, 344, 143, 144, 145, 146, 147, 148, 149, 150, 581, 582, 583, 584, 98, 339, 345, 99, 94, 101, 102, 95, 97, 346, 347, 348, 746, 747, 748, 749, 750, 751, 752, 753, 754, 755, 756, 757, 758, 759, 760, 761, 762, 763, 764, 765, 766, 767, 768, 769, 770, 771, 772, 773, 774, 775, 776, 777] (by decide +kernel) (by decide +kernel)
set_option maxRecDepth 20000 in
theorem gL_law_X6_claim : GoodIn wsL_law (wsV RL 111 RX6 yX6_claim wsX6_claim) := goodIn_app (goodIn_of _ (by decide +kernel)) ggL_law_X6_claim
set_option maxRecDepth 20000 in
theorem ggL_law_X5_month : GoodIn wsL_law wsX5_month := goodIn_r _ [588, 175, 736, 737, 738, 739, 740, 741, 742, 743, 744, 745] (by decide +kernel) (by decide +kernel)
set_option maxRecDepth 20000 in
theorem gL_law_X5_month : GoodIn wsL_law (wsV RL 112 RX5 yX5_month wsX5_month) := goodIn_app (goodIn_of _ (by decide +kernel)) ggL_law_X5_month
set_option maxRecDepth 20000 in
theorem ggL_law_X6_month : GoodIn wsL_law wsX6_month := goodIn_r _ [592, 150, 339, 746, 747, 748, 749, 750, 751, 752, 753, 754, 755, 756, 757, 758, 759, 760, 761, 762, 763, 764, 765, 766, 767, 768, 769, 770, 771, 772, 773, 774, 775, 776, 777] (by decide +kernel) (by decide +kernel)
set_option maxRecDepth 20000 in
theorem gL_law_X6_month : GoodIn wsL_law (wsV RL 115 RX6 yX6_month wsX6_month) := goodIn_app (goodIn_of _ (by decide +kernel)) ggL_law_X6_month
set_option maxRecDepth 20000 in
theorem ggL_law_L_cellOf : GoodIn wsL_law wsL_cellOf := goodIn_ca (goodIn_ca (goodIn_r _ [595, 114, 115, 596, 597, 598, 2, 599, 14, 600, 269, 189, 162, 601, 445, 125, 126, 127, 128, 129, 130, 131, 132, 133, 134, 413, 414, 415, 416, 417, 418, 419, 420, 26, 421, 422, 423, 424, 24, 274, 425, 426, 427, 428, 275, 276, 277, 602, 603, 604, 28, 605, 50, 606, 317, 318, 49, 319, 59, 736, 737, 738, 739, 740, 741, 742, 743, 744, 745, 781, 782, 783, 784, 785, 786, 787, 788, 789, 790, 791] (by decide +kernel) (by decide +kernel)) (goodIn_sub (fun _ h => List.mem_append_left _ (List.mem_append_left _ (List.mem_append_right _ h))) (by decide +kernel))) (goodIn_sub (fun _ h => List.mem_append_left _ (List.mem_append_right _ h)) (by decide +kernel))
set_option maxRecDepth 20000 in
theorem gL_law_L_cellOf : GoodIn wsL_law (va_wsS RL 116 yL_cellOf wsL_cellOf) := goodIn_app (goodIn_of _ (by decide +kernel)) ggL_law_L_cellOf
set_option maxRecDepth 20000 in
theorem ggL_law_X6_cellOf : GoodIn wsL_law wsX6_cellOf := goodIn_r _ [610, 83, 84, 85, 86, 87, 140, 141, 5, 142, 143, 144, 145, 146, 147, 148, 149, 150, 508, 509, 510, 511, 344, 94, 611, 612, 613, 614, 88, 434, 435, 436, 437, 380, 381, 382, 615, 616, 617, 618, 91, 746, 747, 748, 749, 750, 751, 752, 753, 754, 755, 756, 757, 758, 759, 760, 761, 762, 763, 764, 765, 766, 767, 768, 769, 770, 771, 772, 773, 774, 775, 776, 777] (by decide +kernel) (by decide +kernel)
set_option maxRecDepth 20000 in
theorem gL_law_X6_cellOf : GoodIn wsL_law (wsV RL 118 RX6 yX6_cellOf wsX6_cellOf) := goodIn_app (goodIn_of _ (by decide +kernel)) ggL_law_X6_cellOf
set_option maxRecDepth 20000 in
theorem ggL_law_L_layerOf : GoodIn wsL_law wsL_layerOf := goodIn_ca (goodIn_ca (goodIn_r _ [621, 114, 115, 622, 623, 624, 2, 625, 14, 120, 123, 121, 122, 124, 125, 126, 127, 128, 129, 130, 131, 132, 133, 134, 626, 207, 208, 49, 209, 59, 75, 76, 77, 78, 58, 61, 627, 261, 262, 263, 259, 203, 192, 204, 264, 191, 193, 736, 737, 738, 739, 740, 741, 742, 743, 744, 745, 781, 782, 783, 784, 785, 786, 787, 788, 789, 790, 791] (by decide +kernel) (by decide +kernel)) (goodIn_sub (fun _ h => List.mem_append_left _ (List.mem_append_left _ (List.mem_append_right _ h))) (by decide +kernel))) (goodIn_sub (fun _ h => List.mem_append_left _ (List.mem_append_right _ h)) (by decide +kernel))
set_option maxRecDepth 20000 in
theorem gL_law_L_layerOf : GoodIn wsL_law (va_wsS RL 119 yL_layerOf wsL_layerOf) := goodIn_app (goodIn_of _ (by decide +kernel)) ggL_law_L_layerOf
set_option maxRecDepth 20000 in
theorem ggL_law_X6_layerOf : GoodIn wsL_law wsX6_layerOf := goodIn_r _ [631, 91, 89, 90, 92, 140, 141, 5, 142, 143, 144, 145, 146, 147, 148, 149, 150, 353, 354, 355, 356, 372, 373, 374, 375, 346, 347, 348, 746, 747, 748, 749, 750, 751, 752, 753, 754, 755, 756, 757, 758, 759, 760, 761, 762, 763, 764, 765, 766, 767, 768, 769, 770, 771, 772, 773, 774, 775, 776, 777] (by decide +kernel) (by decide +kernel)
set_option maxRecDepth 20000 in
theorem gL_law_X6_layerOf : GoodIn wsL_law (wsV RL 121 RX6 yX6_layerOf wsX6_layerOf) := goodIn_app (goodIn_of _ (by decide +kernel)) ggL_law_X6_layerOf
set_option maxRecDepth 20000 in
theorem ggL_law_L_neighbour : GoodIn wsL_law wsL_neighbour := goodIn_ca (goodIn_r _ [634, 114, 635, 636, 637, 2, 638, 128, 129, 274, 125, 126, 127, 275, 276, 277] (by decide +kernel) (by decide +kernel)) (goodIn_sub (fun _ h => List.mem_append_left _ (List.mem_append_left _ (List.mem_append_right _ h))) (by decide +kernel))
set_option maxRecDepth 20000 in
theorem gL_law_L_neighbour : GoodIn wsL_law (va_wsS RL 122 yL_neighbour wsL_neighbour) := goodIn_app (goodIn_of _ (by decide +kernel)) ggL_law_L_neighbour
set_option maxRecDepth 20000 in
theorem ggL_law_X6_neighbour : GoodIn wsL_law wsX6_neighbour := goodIn_r _ [642, 140, 141, 5, 142, 143, 144, 145, 146, 147, 148, 149, 150, 380, 381, 382, 746, 747, 748, 749, 750, 751, 752, 753, 754, 755, 756, 757, 758, 759, 760, 761, 762, 763, 764, 765, 766, 767, 768, 769, 770, 771, 772, 773, 774, 775, 776, 777] (by decide +kernel) (by decide +kernel)
set_option maxRecDepth 20000 in
theorem gL_law_X6_neighbour : GoodIn wsL_law (wsV RL 124 RX6 yX6_neighbour wsX6_neighbour) := goodIn_app (goodIn_of _ (by decide +kernel)) ggL_law_X6_neighbour
set_option maxRecDepth 20000 in
theorem ggL_law_X5_lakes : GoodIn wsL_law wsX5_lakes := goodIn_r _ [646, 417, 418, 419, 2, 420, 26, 421, 422, 423, 424, 24, 274, 425, 426, 427, 428, 14, 269, 275, 276, 277, 647, 648, 649, 650, 300, 211, 212, 28, 213, 70, 736, 737, 738, 739, 740, 741, 742, 743, 744, 745, 781, 782, 783, 784, 785, 786, 787] (by decide +kernel) (by decide +kernel)
set_option maxRecDepth 20000 in
theorem gL_law_X5_lakes : GoodIn wsL_law (wsV RL 125 RX5 yX5_lakes wsX5_lakes) := goodIn_app (goodIn_of _ (by decide +kernel)) ggL_law_X5_lakes
set_option maxRecDepth 20000 in
theorem ggL_law_X6_lakes : GoodIn wsL_law wsX6_lakes := goodIn_r _ [654, 150, 88, 434, 435, 436, 5, 437, 84, 380, 381, 382, 357, 358, 359, 360, 746, 747, 748, 749, 750, 751, 752, 753, 754, 755, 756, 757, 758, 759, 760, 761, 762, 763, 764, 765, 766, 767, 768, 769, 770, 771, 772, 773, 774, 775, 776, 777] (by decide +kernel) (by decide +kernel)
set_option maxRecDepth 20000 in
theorem gL_law_X6_lakes : GoodIn wsL_law (wsV RL 128 RX6 yX6_lakes wsX6_lakes) := goodIn_app (goodIn_of _ (by decide +kernel)) ggL_law_X6_lakes
set_option maxRecDepth 20000 in
theorem ggL_law_L_houseOf : GoodIn wsL_law wsL_houseOf := goodIn_ca (goodIn_ca (goodIn_r _ [657, 114, 115, 658, 659, 660, 2, 661, 18, 223, 225, 314, 315, 550, 175, 226, 227, 228, 17, 229, 230, 125, 126, 127, 128, 129, 130, 131, 132, 133, 134, 231, 232, 233, 234, 235, 236, 237, 238, 239, 240, 241, 242, 243, 244, 245, 246, 33, 542, 543, 544, 545, 190, 191, 192, 193, 546, 547, 548, 549, 551, 552, 553, 554, 19, 324, 325, 555, 556, 557, 329, 558, 526, 331, 559, 560, 561, 562, 333, 736, 737, 738, 739, 740, 741, 742, 743, 744, 745, 792, 793, 794, 795, 796, 778, 779, 780, 797, 798, 799, 800, 801] (by decide +kernel) (by decide +kernel)) (goodIn_sub (fun _ h => List.mem_append_left _ (List.mem_append_left _ (List.mem_append_right _ h))) (by decide +kernel))) (goodIn_sub (fun _ h => List.mem_append_left _ (List.mem_append_right _ h)) (by decide +kernel))
set_option maxRecDepth 20000 in
theorem gL_law_L_houseOf : GoodIn wsL_law (va_wsS RL 129 yL_houseOf wsL_houseOf) := goodIn_app (goodIn_of _ (by decide +kernel)) ggL_law_L_houseOf
set_option maxRecDepth 20000 in
theorem ggL_law_X6_houseOf : GoodIn wsL_law wsX6_houseOf := goodIn_r _ [665, 94, 95, 97, 98, 577, 578, 579, 5, 580, 344, 143, 144, 145, 146, 147, 148, 149, 150, 581, 582, 583, 584, 339, 345, 99, 101, 102, 346, 347, 348, 746, 747, 748, 749, 750, 751, 752, 753, 754, 755, 756, 757, 758, 759, 760, 761, 762, 763, 764, 765, 766, 767, 768, 769, 770, 771, 772, 773, 774, 775, 776, 777] (by decide +kernel) (by decide +kernel)
set_option maxRecDepth 20000 in
theorem gL_law_X6_houseOf : GoodIn wsL_law (wsV RL 131 RX6 yX6_houseOf wsX6_houseOf) := goodIn_app (goodIn_of _ (by decide +kernel)) ggL_law_X6_houseOf
set_option maxRecDepth 20000 in
theorem ggL_law_L_reading : GoodIn wsL_law wsL_reading := goodIn_ca (goodIn_r _ [668, 114, 669, 670, 671, 2, 672, 128, 129, 19, 324, 226, 227, 228, 17, 229, 230, 125, 126, 127, 231, 232, 233, 234, 235, 236, 237, 238, 239, 240, 241, 242, 243, 244, 245, 246, 33, 555, 556, 557, 329, 558, 526, 331, 559, 560, 561, 562, 333, 736, 737, 738, 739, 740, 741, 742, 743, 744, 745, 778, 779, 780, 797, 798, 799, 800, 801] (by decide +kernel) (by decide +kernel)) (goodIn_sub (fun _ h => List.mem_append_left _ (List.mem_append_left _ (List.mem_append_right _ h))) (by decide +kernel))
set_option maxRecDepth 20000 in
theorem gL_law_L_reading : GoodIn wsL_law (va_wsS RL 132 yL_reading wsL_reading) := goodIn_app (goodIn_of _ (by decide +kernel)) ggL_law_L_reading
set_option maxRecDepth 20000 in
theorem ggL_law_X6_reading : GoodIn wsL_law wsX6_reading := goodIn_r _ [676, 345, 101, 339, 102, 143, 144, 5, 145, 146, 147, 148, 149, 150, 746, 747, 748, 749, 750, 751, 752, 753, 754, 755, 756, 757, 758, 759, 760, 761, 762, 763, 764, 765, 766, 767, 768, 769, 770, 771, 772, 773, 774, 775, 776, 777] (by decide +kernel) (by decide +kernel)
set_option maxRecDepth 20000 in
theorem gL_law_X6_reading : GoodIn wsL_law (wsV RL 134 RX6 yX6_reading wsX6_reading) := goodIn_app (goodIn_of _ (by decide +kernel)) ggL_law_X6_reading
set_option maxRecDepth 20000 in
theorem ggL_law_L_claimOf : GoodIn wsL_law wsL_claimOf := goodIn_ca (goodIn_r _ [679, 114, 680, 681, 682, 2, 683, 20, 684, 685, 226, 227, 228, 17, 229, 230, 125, 126, 127, 128, 129, 231, 232, 233, 234, 235, 236, 237, 238, 239, 240, 241, 242, 243, 244, 245, 246, 33, 736, 737, 738, 739, 740, 741, 742, 743, 744, 745, 802, 803, 804, 805, 778, 779, 780] (by decide +kernel) (by decide +kernel)) (goodIn_sub (fun _ h => List.mem_append_left _ (List.mem_append_left _ (List.mem_append_right _ h))) (by decide +kernel))
set_option maxRecDepth 20000 in
theorem gL_law_L_claimOf : GoodIn wsL_law (va_wsS RL 135 yL_claimOf wsL_claimOf) := goodIn_app (goodIn_of _ (by decide +kernel)) ggL_law_L_claimOf
set_option maxRecDepth 20000 in
theorem ggL_law_X6_claimOf : GoodIn wsL_law wsX6_claimOf := goodIn_r _ [689, 576, 103, 143, 144, 5, 145, 146, 147, 148, 149, 150, 746, 747, 748, 749, 750, 751, 752, 753, 754, 755, 756, 757, 758, 759, 760, 761, 762, 763, 764, 765, 766, 767, 768, 769, 770, 771, 772, 773, 774, 775, 776, 777] (by decide +kernel) (by decide +kernel)
set_option maxRecDepth 20000 in
theorem gL_law_X6_claimOf : GoodIn wsL_law (wsV RL 137 RX6 yX6_claimOf wsX6_claimOf) := goodIn_app (goodIn_of _ (by decide +kernel)) ggL_law_X6_claimOf
set_option maxRecDepth 20000 in
theorem ggL_law_L_claimAnew : GoodIn wsL_law wsL_claimAnew := goodIn_ca (goodIn_r _ [692, 114, 693, 694, 695, 2, 696, 20, 684, 697, 698, 699, 226, 227, 228, 17, 229, 230, 125, 126, 127, 128, 129, 231, 232, 233, 234, 235, 236, 237, 238, 239, 240, 241, 242, 243, 244, 245, 246, 33, 542, 543, 544, 545, 190, 191, 192, 193, 546, 547, 548, 549, 550, 551, 552, 553, 554, 19, 324, 325, 225, 314, 555, 556, 557, 329, 558, 526, 331, 559, 560, 561, 562, 333, 736, 737, 738, 739, 740, 741, 742, 743, 744, 745, 802, 803, 804, 805, 778, 779, 780, 792, 793, 794, 795, 796, 797, 798, 799, 800, 801] (by decide +kernel) (by decide +kernel)) (goodIn_sub (fun _ h => List.mem_append_left _ (List.mem_append_left _ (List.mem_append_right _ h))) (by decide +kernel))
set_option maxRecDepth 20000 in
theorem gL_law_L_claimAnew : GoodIn wsL_law (va_wsS RL 138 yL_claimAnew wsL_claimAnew) := goodIn_app (goodIn_of _ (by decide +kernel)) ggL_law_L_claimAnew
set_option maxRecDepth 20000 in
theorem ggL_law_X6_claimAnew : GoodIn wsL_law wsX6_claimAnew := goodIn_r _ [703, 704, 687, 688, 5, 689, 576, 103, 143, 144, 145, 146, 147, 148, 149, 150, 746, 747, 748, 749, 750, 751, 752, 753, 754, 755, 756, 757, 758, 759, 760, 761, 762, 763, 764, 765, 766, 767, 768, 769, 770, 771, 772, 773, 774, 775, 776, 777] (by decide +kernel) (by decide +kernel)
set_option maxRecDepth 20000 in
theorem gL_law_X6_claimAnew : GoodIn wsL_law (wsV RL 140 RX6 yX6_claimAnew wsX6_claimAnew) := goodIn_app (goodIn_of _ (by decide +kernel)) ggL_law_X6_claimAnew
set_option maxRecDepth 20000 in
theorem ggL_law_L_balance : GoodIn wsL_law wsL_balance := goodIn_ca (goodIn_r _ [707, 115, 708, 709, 710, 2, 711, 21, 130, 131, 132, 133, 134, 62, 63, 64, 65, 14, 66, 67, 68, 28, 69, 70, 50, 71, 72, 73, 49, 74, 59, 60, 75, 76, 77, 78, 58, 61, 712, 713, 714, 715, 716, 412, 22, 736, 737, 738, 739, 740, 741, 742, 743, 744, 745, 781, 782, 783, 784, 785, 786, 787, 788, 789, 790, 791] (by decide +kernel) (by decide +kernel)) (goodIn_sub (fun _ h => List.mem_append_left _ (List.mem_append_right _ h)) (by decide +kernel))
set_option maxRecDepth 20000 in
theorem gL_law_L_balance : GoodIn wsL_law (va_wsS RL 141 yL_balance wsL_balance) := goodIn_app (goodIn_of _ (by decide +kernel)) ggL_law_L_balance
set_option maxRecDepth 20000 in
theorem ggL_law_X6_balance : GoodIn wsL_law wsX6_balance := goodIn_r _ [720, 105, 107, 109, 391, 433, 393, 392, 143, 144, 5, 145, 146, 147, 148, 149, 150, 721, 722, 723, 724, 91, 89, 90, 92, 84, 746, 747, 748, 749, 750, 751, 752, 753, 754, 755, 756, 757, 758, 759, 760, 761, 762, 763, 764, 765, 766, 767, 768, 769, 770, 771, 772, 773, 774, 775, 776, 777] (by decide +kernel) (by decide +kernel)
set_option maxRecDepth 20000 in
theorem gL_law_X6_balance : GoodIn wsL_law (wsV RL 143 RX6 yX6_balance wsX6_balance) := goodIn_app (goodIn_of _ (by decide +kernel)) ggL_law_X6_balance
set_option maxRecDepth 20000 in
theorem ggL_law_L_air : GoodIn wsL_law wsL_air := goodIn_ca (goodIn_r _ [727, 115, 728, 729, 730, 2, 731, 22, 130, 131, 132, 133, 134, 736, 737, 738, 739, 740, 741, 742, 743, 744, 745] (by decide +kernel) (by decide +kernel)) (goodIn_sub (fun _ h => List.mem_append_left _ (List.mem_append_right _ h)) (by decide +kernel))
set_option maxRecDepth 20000 in
theorem gL_law_L_air : GoodIn wsL_law (va_wsS RL 144 yL_air wsL_air) := goodIn_app (goodIn_of _ (by decide +kernel)) ggL_law_L_air
set_option maxRecDepth 20000 in
theorem ggL_law_X6_air : GoodIn wsL_law wsX6_air := goodIn_r _ [735, 393, 392, 143, 144, 5, 145, 146, 147, 148, 149, 150, 746, 747, 748, 749, 750, 751, 752, 753, 754, 755, 756, 757, 758, 759, 760, 761, 762, 763, 764, 765, 766, 767, 768, 769, 770, 771, 772, 773, 774, 775, 776, 777] (by decide +kernel) (by decide +kernel)
set_option maxRecDepth 20000 in
theorem gL_law_X6_air : GoodIn wsL_law (wsV RL 146 RX6 yX6_air wsX6_air) := goodIn_app (goodIn_of _ (by decide +kernel)) ggL_law_X6_air
theorem dL_law_0 : decode cL_law 0 = .ok (.new 8, 3) := by decide +kernel
theorem dL_law_3 : decode cL_law 3 = .ok (.dup, 1) := by decide +kernel
theorem dL_law_4 : decode cL_law 4 = .ok (.invokespecial 73, 3) := by decide +kernel
theorem dL_law_7 : decode cL_law 7 = .ok (.astore_n 1, 1) := by decide +kernel
theorem dL_law_8 : decode cL_law 8 = .ok (.new 74, 3) := by decide +kernel
theorem dL_law_11 : decode cL_law 11 = .ok (.dup, 1) := by decide +kernel
theorem dL_law_12 : decode cL_law 12 = .ok (.invokespecial 76, 3) := by decide +kernel
theorem dL_law_15 : decode cL_law 15 = .ok (.astore_n 2, 1) := by decide +kernel
theorem dL_law_16 : decode cL_law 16 = .ok (.iconst 1, 1) := by decide +kernel
theorem dL_law_17 : decode cL_law 17 = .ok (.newarray .long, 2) := by decide +kernel
theorem dL_law_19 : decode cL_law 19 = .ok (.astore_n 3, 1) := by decide +kernel
theorem dL_law_20 : decode cL_law 20 = .ok (.iconst 0, 1) := by decide +kernel
theorem dL_law_21 : decode cL_law 21 = .ok (.istore 4, 2) := by decide +kernel
theorem dL_law_23 : decode cL_law 23 = .ok (.iload 4, 2) := by decide +kernel
theorem dL_law_25 : decode cL_law 25 = .ok (.aload_n 0, 1) := by decide +kernel
theorem dL_law_26 : decode cL_law 26 = .ok (.arraylength, 1) := by decide +kernel
theorem dL_law_27 : decode cL_law 27 = .ok (.bipush 7, 2) := by decide +kernel
theorem dL_law_29 : decode cL_law 29 = .ok (.isub, 1) := by decide +kernel
theorem dL_law_30 : decode cL_law 30 = .ok (.if_icmp .gt 1310, 3) := by decide +kernel
theorem dL_law_33 : decode cL_law 33 = .ok (.aload_n 0, 1) := by decide +kernel
theorem dL_law_34 : decode cL_law 34 = .ok (.iload 4, 2) := by decide +kernel
theorem dL_law_36 : decode cL_law 36 = .ok (.iaload, 1) := by decide +kernel
theorem dL_law_37 : decode cL_law 37 = .ok (.bipush 31, 2) := by decide +kernel
theorem dL_law_39 : decode cL_law 39 = .ok (.iand, 1) := by decide +kernel
theorem dL_law_40 : decode cL_law 40 = .ok (.tableswitch 1294 0 18 #[92, 190, 258, 338, 394, 450, 546, 614, 670, 683, 751, 831, 899, 912, 980, 1060, 1116, 1172, 1239], 92) := by decide +kernel
theorem dL_law_132 : decode cL_law 132 = .ok (.aload_n 1, 1) := by decide +kernel
theorem dL_law_133 : decode cL_law 133 = .ok (.aload_n 0, 1) := by decide +kernel
theorem dL_law_134 : decode cL_law 134 = .ok (.iload 4, 2) := by decide +kernel
theorem dL_law_136 : decode cL_law 136 = .ok (.iconst 1, 1) := by decide +kernel
theorem dL_law_137 : decode cL_law 137 = .ok (.iadd, 1) := by decide +kernel
theorem dL_law_138 : decode cL_law 138 = .ok (.iaload, 1) := by decide +kernel
theorem dL_law_139 : decode cL_law 139 = .ok (.aload_n 0, 1) := by decide +kernel
theorem dL_law_140 : decode cL_law 140 = .ok (.iload 4, 2) := by decide +kernel
theorem dL_law_142 : decode cL_law 142 = .ok (.iconst 2, 1) := by decide +kernel
theorem dL_law_143 : decode cL_law 143 = .ok (.iadd, 1) := by decide +kernel
theorem dL_law_144 : decode cL_law 144 = .ok (.iaload, 1) := by decide +kernel
theorem dL_law_145 : decode cL_law 145 = .ok (.aload_n 0, 1) := by decide +kernel
theorem dL_law_146 : decode cL_law 146 = .ok (.iload 4, 2) := by decide +kernel
theorem dL_law_148 : decode cL_law 148 = .ok (.iconst 3, 1) := by decide +kernel
theorem dL_law_149 : decode cL_law 149 = .ok (.iadd, 1) := by decide +kernel
theorem dL_law_150 : decode cL_law 150 = .ok (.iaload, 1) := by decide +kernel
theorem dL_law_151 : decode cL_law 151 = .ok (.aload_n 0, 1) := by decide +kernel
theorem dL_law_152 : decode cL_law 152 = .ok (.iload 4, 2) := by decide +kernel
theorem dL_law_154 : decode cL_law 154 = .ok (.iconst 4, 1) := by decide +kernel
theorem dL_law_155 : decode cL_law 155 = .ok (.iadd, 1) := by decide +kernel
theorem dL_law_156 : decode cL_law 156 = .ok (.iaload, 1) := by decide +kernel
theorem dL_law_157 : decode cL_law 157 = .ok (.aload_n 0, 1) := by decide +kernel
theorem dL_law_158 : decode cL_law 158 = .ok (.iload 4, 2) := by decide +kernel
theorem dL_law_160 : decode cL_law 160 = .ok (.iconst 5, 1) := by decide +kernel
theorem dL_law_161 : decode cL_law 161 = .ok (.iadd, 1) := by decide +kernel
theorem dL_law_162 : decode cL_law 162 = .ok (.iaload, 1) := by decide +kernel
theorem dL_law_163 : decode cL_law 163 = .ok (.aload_n 0, 1) := by decide +kernel
theorem dL_law_164 : decode cL_law 164 = .ok (.iload 4, 2) := by decide +kernel
theorem dL_law_166 : decode cL_law 166 = .ok (.bipush 6, 2) := by decide +kernel
theorem dL_law_168 : decode cL_law 168 = .ok (.iadd, 1) := by decide +kernel
theorem dL_law_169 : decode cL_law 169 = .ok (.iaload, 1) := by decide +kernel
theorem dL_law_170 : decode cL_law 170 = .ok (.invokestatic 77, 3) := by decide +kernel
theorem dL_law_173 : decode cL_law 173 = .ok (.istore 5, 2) := by decide +kernel
theorem dL_law_175 : decode cL_law 175 = .ok (.aload_n 2, 1) := by decide +kernel
theorem dL_law_176 : decode cL_law 176 = .ok (.aload_n 0, 1) := by decide +kernel
theorem dL_law_177 : decode cL_law 177 = .ok (.iload 4, 2) := by decide +kernel
theorem dL_law_179 : decode cL_law 179 = .ok (.iconst 1, 1) := by decide +kernel
theorem dL_law_180 : decode cL_law 180 = .ok (.iadd, 1) := by decide +kernel
theorem dL_law_181 : decode cL_law 181 = .ok (.iaload, 1) := by decide +kernel
theorem dL_law_182 : decode cL_law 182 = .ok (.aload_n 0, 1) := by decide +kernel
theorem dL_law_183 : decode cL_law 183 = .ok (.iload 4, 2) := by decide +kernel
theorem dL_law_185 : decode cL_law 185 = .ok (.iconst 2, 1) := by decide +kernel
theorem dL_law_186 : decode cL_law 186 = .ok (.iadd, 1) := by decide +kernel
theorem dL_law_187 : decode cL_law 187 = .ok (.iaload, 1) := by decide +kernel
theorem dL_law_188 : decode cL_law 188 = .ok (.aload_n 0, 1) := by decide +kernel
theorem dL_law_189 : decode cL_law 189 = .ok (.iload 4, 2) := by decide +kernel
theorem dL_law_191 : decode cL_law 191 = .ok (.iconst 3, 1) := by decide +kernel
theorem dL_law_192 : decode cL_law 192 = .ok (.iadd, 1) := by decide +kernel
theorem dL_law_193 : decode cL_law 193 = .ok (.iaload, 1) := by decide +kernel
theorem dL_law_194 : decode cL_law 194 = .ok (.aload_n 0, 1) := by decide +kernel
theorem dL_law_195 : decode cL_law 195 = .ok (.iload 4, 2) := by decide +kernel
theorem dL_law_197 : decode cL_law 197 = .ok (.iconst 4, 1) := by decide +kernel
theorem dL_law_198 : decode cL_law 198 = .ok (.iadd, 1) := by decide +kernel
theorem dL_law_199 : decode cL_law 199 = .ok (.iaload, 1) := by decide +kernel
theorem dL_law_200 : decode cL_law 200 = .ok (.aload_n 0, 1) := by decide +kernel
theorem dL_law_201 : decode cL_law 201 = .ok (.iload 4, 2) := by decide +kernel
theorem dL_law_203 : decode cL_law 203 = .ok (.iconst 5, 1) := by decide +kernel
theorem dL_law_204 : decode cL_law 204 = .ok (.iadd, 1) := by decide +kernel
theorem dL_law_205 : decode cL_law 205 = .ok (.iaload, 1) := by decide +kernel
theorem dL_law_206 : decode cL_law 206 = .ok (.aload_n 0, 1) := by decide +kernel
theorem dL_law_207 : decode cL_law 207 = .ok (.iload 4, 2) := by decide +kernel
theorem dL_law_209 : decode cL_law 209 = .ok (.bipush 6, 2) := by decide +kernel
theorem dL_law_211 : decode cL_law 211 = .ok (.iadd, 1) := by decide +kernel
theorem dL_law_212 : decode cL_law 212 = .ok (.iaload, 1) := by decide +kernel
theorem dL_law_213 : decode cL_law 213 = .ok (.invokevirtual 82, 3) := by decide +kernel
theorem dL_law_216 : decode cL_law 216 = .ok (.aload_n 2, 1) := by decide +kernel
theorem dL_law_217 : decode cL_law 217 = .ok (.invokevirtual 83, 3) := by decide +kernel
theorem dL_law_220 : decode cL_law 220 = .ok (.iload 5, 2) := by decide +kernel
theorem dL_law_222 : decode cL_law 222 = .ok (.if_icmp .eq 5, 3) := by decide +kernel
theorem dL_law_225 : decode cL_law 225 = .ok (.iconst 0, 1) := by decide +kernel
theorem dL_law_226 : decode cL_law 226 = .ok (.ireturn, 1) := by decide +kernel
theorem dL_law_227 : decode cL_law 227 = .ok (.goto 1107, 3) := by decide +kernel
theorem dL_law_230 : decode cL_law 230 = .ok (.aload_n 1, 1) := by decide +kernel
theorem dL_law_231 : decode cL_law 231 = .ok (.aload_n 0, 1) := by decide +kernel
theorem dL_law_232 : decode cL_law 232 = .ok (.iload 4, 2) := by decide +kernel
theorem dL_law_234 : decode cL_law 234 = .ok (.iconst 1, 1) := by decide +kernel
theorem dL_law_235 : decode cL_law 235 = .ok (.iadd, 1) := by decide +kernel
theorem dL_law_236 : decode cL_law 236 = .ok (.iaload, 1) := by decide +kernel
theorem dL_law_237 : decode cL_law 237 = .ok (.aload_n 0, 1) := by decide +kernel
theorem dL_law_238 : decode cL_law 238 = .ok (.iload 4, 2) := by decide +kernel
theorem dL_law_240 : decode cL_law 240 = .ok (.iconst 2, 1) := by decide +kernel
theorem dL_law_241 : decode cL_law 241 = .ok (.iadd, 1) := by decide +kernel
theorem dL_law_242 : decode cL_law 242 = .ok (.iaload, 1) := by decide +kernel
theorem dL_law_243 : decode cL_law 243 = .ok (.aload_n 3, 1) := by decide +kernel
theorem dL_law_244 : decode cL_law 244 = .ok (.invokestatic 87, 3) := by decide +kernel
theorem dL_law_247 : decode cL_law 247 = .ok (.istore 5, 2) := by decide +kernel
theorem dL_law_249 : decode cL_law 249 = .ok (.aload_n 2, 1) := by decide +kernel
theorem dL_law_250 : decode cL_law 250 = .ok (.aload_n 0, 1) := by decide +kernel
theorem dL_law_251 : decode cL_law 251 = .ok (.iload 4, 2) := by decide +kernel
