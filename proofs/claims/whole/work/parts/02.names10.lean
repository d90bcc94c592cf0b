theorem dX6_remove_14 : decode cX6_remove 14 = .ok (.aload_n 0, 1) := by decide +kernel
theorem dX6_remove_15 : decode cX6_remove 15 = .ok (.getfield 32, 3) := by decide +kernel
theorem dX6_remove_18 : decode cX6_remove 18 = .ok (.aload_n 0, 1) := by decide +kernel
theorem dX6_remove_19 : decode cX6_remove 19 = .ok (.getfield 23, 3) := by decide +kernel
theorem dX6_remove_22 : decode cX6_remove 22 = .ok (.invokevirtual 79, 3) := by decide +kernel
theorem dX6_remove_25 : decode cX6_remove 25 = .ok (.aload_n 3, 1) := by decide +kernel
theorem dX6_remove_26 : decode cX6_remove 26 = .ok (.iload_n 2, 1) := by decide +kernel
theorem dX6_remove_27 : decode cX6_remove 27 = .ok (.invokevirtual 83, 3) := by decide +kernel
theorem dX6_remove_30 : decode cX6_remove 30 = .ok (.aload_n 3, 1) := by decide +kernel
theorem dX6_remove_31 : decode cX6_remove 31 = .ok (.invokevirtual 89, 3) := by decide +kernel
theorem dX6_remove_34 : decode cX6_remove 34 = .ok (.ireturn, 1) := by decide +kernel
set_option maxRecDepth 20000 in
theorem ggX6_shift_X4_cuesOf : GoodIn wsX6_shift wsX4_cuesOf := goodIn_r _ [8, 9, 10, 86, 87, 88] (by decide +kernel) (by decide +kernel)
set_option maxRecDepth 20000 in
theorem gX6_shift_X4_cuesOf_n71 : GoodIn wsX6_shift (wsX4_cuesOf) := ggX6_shift_X4_cuesOf
set_option maxRecDepth 20000 in
theorem ggX6_shift_X6_checkNumber : GoodIn wsX6_shift wsX6_checkNumber := goodIn_ca (goodIn_r _ [14, 15, 16, 17, 18, 19, 20, 21, 89, 90, 91] (by decide +kernel) (by decide +kernel)) (goodIn_sub (fun _ h => List.mem_cons_of_mem _ (List.mem_append_right _ h)) (by decide +kernel))
set_option maxRecDepth 20000 in
theorem gX6_shift_X6_checkNumber : GoodIn wsX6_shift (va_wsS RX6 75 yX6_checkNumber wsX6_checkNumber) := goodIn_app (goodIn_of _ (by decide +kernel)) ggX6_shift_X6_checkNumber
set_option maxRecDepth 20000 in
theorem ggX6_shift_X1_numberOf : GoodIn wsX6_shift wsX1_numberOf := goodIn_r _ [24, 25, 89, 90, 91] (by decide +kernel) (by decide +kernel)
set_option maxRecDepth 20000 in
theorem gX6_shift_X1_numberOf_n100 : GoodIn wsX6_shift (wsX1_numberOf) := ggX6_shift_X1_numberOf
set_option maxRecDepth 20000 in
theorem ggX6_shift_X6_fitsCue : GoodIn wsX6_shift wsX6_fitsCue := goodIn_r _ [28, 29, 30, 31, 32, 13, 33] (by decide +kernel) (by decide +kernel)
set_option maxRecDepth 20000 in
theorem gX6_shift_X6_fitsCue : GoodIn wsX6_shift (va_wsS RX6 104 yX6_fitsCue wsX6_fitsCue) := goodIn_app (goodIn_of _ (by decide +kernel)) ggX6_shift_X6_fitsCue
set_option maxRecDepth 20000 in
theorem ggX6_shift_X2_push : GoodIn wsX6_shift wsX2_push := goodIn_r _ [37, 38, 39, 40, 41, 6, 42, 43, 44, 35, 45, 46, 47, 48, 49, 50, 51, 52, 18, 9, 10, 53, 54, 55, 56, 57, 58, 59, 60, 61, 62, 63, 25, 21, 64, 65, 66, 67, 68, 69, 70, 71, 13, 72, 92, 93, 86, 87, 88, 89, 90, 91] (by decide +kernel) (by decide +kernel)
set_option maxRecDepth 20000 in
theorem gX6_shift_X2_push_n79 : GoodIn wsX6_shift (wsX2_push) := ggX6_shift_X2_push
set_option maxRecDepth 20000 in
theorem ggX6_shift_X1_change : GoodIn wsX6_shift wsX1_change := goodIn_r _ [75, 25, 76, 13, 77, 89, 90, 91] (by decide +kernel) (by decide +kernel)
set_option maxRecDepth 20000 in
theorem gX6_shift_X1_change_n110 : GoodIn wsX6_shift (wsX1_change) := ggX6_shift_X1_change
theorem dX6_shift_0 : decode cX6_shift 0 = .ok (.aload_n 0, 1) := by decide +kernel
theorem dX6_shift_1 : decode cX6_shift 1 = .ok (.getfield 23, 3) := by decide +kernel
theorem dX6_shift_4 : decode cX6_shift 4 = .ok (.iload_n 1, 1) := by decide +kernel
theorem dX6_shift_5 : decode cX6_shift 5 = .ok (.invokevirtual 71, 3) := by decide +kernel
theorem dX6_shift_8 : decode cX6_shift 8 = .ok (.astore 4, 2) := by decide +kernel
theorem dX6_shift_10 : decode cX6_shift 10 = .ok (.aload 4, 2) := by decide +kernel
theorem dX6_shift_12 : decode cX6_shift 12 = .ok (.iload_n 2, 1) := by decide +kernel
theorem dX6_shift_13 : decode cX6_shift 13 = .ok (.invokestatic 75, 3) := by decide +kernel
theorem dX6_shift_16 : decode cX6_shift 16 = .ok (.iload_n 3, 1) := by decide +kernel
theorem dX6_shift_17 : decode cX6_shift 17 = .ok (.bipush (-99), 2) := by decide +kernel
theorem dX6_shift_19 : decode cX6_shift 19 = .ok (.if_icmp .lt 9, 3) := by decide +kernel
theorem dX6_shift_22 : decode cX6_shift 22 = .ok (.iload_n 3, 1) := by decide +kernel
theorem dX6_shift_23 : decode cX6_shift 23 = .ok (.bipush 99, 2) := by decide +kernel
theorem dX6_shift_25 : decode cX6_shift 25 = .ok (.if_icmp .le 13, 3) := by decide +kernel
theorem dX6_shift_28 : decode cX6_shift 28 = .ok (.new 93, 3) := by decide +kernel
theorem dX6_shift_31 : decode cX6_shift 31 = .ok (.dup, 1) := by decide +kernel
theorem dX6_shift_32 : decode cX6_shift 32 = .ok (.ldc 95, 2) := by decide +kernel
theorem dX6_shift_34 : decode cX6_shift 34 = .ok (.invokespecial 97, 3) := by decide +kernel
theorem dX6_shift_37 : decode cX6_shift 37 = .ok (.athrow, 1) := by decide +kernel
theorem dX6_shift_38 : decode cX6_shift 38 = .ok (.aload 4, 2) := by decide +kernel
theorem dX6_shift_40 : decode cX6_shift 40 = .ok (.iload_n 2, 1) := by decide +kernel
theorem dX6_shift_41 : decode cX6_shift 41 = .ok (.iconst 0, 1) := by decide +kernel
theorem dX6_shift_42 : decode cX6_shift 42 = .ok (.invokevirtual 100, 3) := by decide +kernel
theorem dX6_shift_45 : decode cX6_shift 45 = .ok (.iload_n 3, 1) := by decide +kernel
theorem dX6_shift_46 : decode cX6_shift 46 = .ok (.iadd, 1) := by decide +kernel
theorem dX6_shift_47 : decode cX6_shift 47 = .ok (.istore 5, 2) := by decide +kernel
theorem dX6_shift_49 : decode cX6_shift 49 = .ok (.iconst 0, 1) := by decide +kernel
theorem dX6_shift_50 : decode cX6_shift 50 = .ok (.iload 5, 2) := by decide +kernel
theorem dX6_shift_52 : decode cX6_shift 52 = .ok (.invokestatic 104, 3) := by decide +kernel
theorem dX6_shift_55 : decode cX6_shift 55 = .ok (.ifCond .ne 13, 3) := by decide +kernel
theorem dX6_shift_58 : decode cX6_shift 58 = .ok (.new 93, 3) := by decide +kernel
theorem dX6_shift_61 : decode cX6_shift 61 = .ok (.dup, 1) := by decide +kernel
theorem dX6_shift_62 : decode cX6_shift 62 = .ok (.ldc 108, 2) := by decide +kernel
theorem dX6_shift_64 : decode cX6_shift 64 = .ok (.invokespecial 97, 3) := by decide +kernel
theorem dX6_shift_67 : decode cX6_shift 67 = .ok (.athrow, 1) := by decide +kernel
theorem dX6_shift_68 : decode cX6_shift 68 = .ok (.aload_n 0, 1) := by decide +kernel
theorem dX6_shift_69 : decode cX6_shift 69 = .ok (.getfield 32, 3) := by decide +kernel
theorem dX6_shift_72 : decode cX6_shift 72 = .ok (.aload_n 0, 1) := by decide +kernel
theorem dX6_shift_73 : decode cX6_shift 73 = .ok (.getfield 23, 3) := by decide +kernel
theorem dX6_shift_76 : decode cX6_shift 76 = .ok (.invokevirtual 79, 3) := by decide +kernel
theorem dX6_shift_79 : decode cX6_shift 79 = .ok (.aload 4, 2) := by decide +kernel
theorem dX6_shift_81 : decode cX6_shift 81 = .ok (.iload_n 2, 1) := by decide +kernel
theorem dX6_shift_82 : decode cX6_shift 82 = .ok (.iconst 0, 1) := by decide +kernel
theorem dX6_shift_83 : decode cX6_shift 83 = .ok (.iload 5, 2) := by decide +kernel
theorem dX6_shift_85 : decode cX6_shift 85 = .ok (.invokevirtual 110, 3) := by decide +kernel
theorem dX6_shift_88 : decode cX6_shift 88 = .ok (.iload 5, 2) := by decide +kernel
theorem dX6_shift_90 : decode cX6_shift 90 = .ok (.ireturn, 1) := by decide +kernel
set_option maxRecDepth 20000 in
theorem ggX6_loud_X4_cuesOf : GoodIn wsX6_loud wsX4_cuesOf := goodIn_r _ [8, 9, 10, 86, 87, 88] (by decide +kernel) (by decide +kernel)
set_option maxRecDepth 20000 in
theorem gX6_loud_X4_cuesOf_n71 : GoodIn wsX6_loud (wsX4_cuesOf) := ggX6_loud_X4_cuesOf
set_option maxRecDepth 20000 in
theorem ggX6_loud_X6_checkNumber : GoodIn wsX6_loud wsX6_checkNumber := goodIn_ca (goodIn_r _ [14, 15, 16, 17, 18, 19, 20, 21, 89, 90, 91] (by decide +kernel) (by decide +kernel)) (goodIn_sub (fun _ h => List.mem_cons_of_mem _ (List.mem_append_right _ h)) (by decide +kernel))
set_option maxRecDepth 20000 in
theorem gX6_loud_X6_checkNumber : GoodIn wsX6_loud (va_wsS RX6 75 yX6_checkNumber wsX6_checkNumber) := goodIn_app (goodIn_of _ (by decide +kernel)) ggX6_loud_X6_checkNumber
set_option maxRecDepth 20000 in
theorem ggX6_loud_X6_fitsCue : GoodIn wsX6_loud wsX6_fitsCue := goodIn_r _ [24, 25, 26, 27, 28, 13, 29] (by decide +kernel) (by decide +kernel)
set_option maxRecDepth 20000 in
theorem gX6_loud_X6_fitsCue : GoodIn wsX6_loud (va_wsS RX6 104 yX6_fitsCue wsX6_fitsCue) := goodIn_app (goodIn_of _ (by decide +kernel)) ggX6_loud_X6_fitsCue
set_option maxRecDepth 20000 in
theorem ggX6_loud_X1_numberOf : GoodIn wsX6_loud wsX1_numberOf := goodIn_r _ [32, 33, 89, 90, 91] (by decide +kernel) (by decide +kernel)
set_option maxRecDepth 20000 in
theorem gX6_loud_X1_numberOf_n100 : GoodIn wsX6_loud (wsX1_numberOf) := ggX6_loud_X1_numberOf
set_option maxRecDepth 20000 in
theorem ggX6_loud_X2_push : GoodIn wsX6_loud wsX2_push := goodIn_r _ [37, 38, 39, 40, 41, 6, 42, 43, 44, 35, 45, 46, 47, 48, 49, 50, 51, 52, 18, 9, 10, 53, 54, 55, 56, 57, 58, 59, 60, 61, 62, 63, 33, 21, 64, 65, 66, 67, 68, 69, 70, 71, 13, 72, 92, 93, 86, 87, 88, 89, 90, 91] (by decide +kernel) (by decide +kernel)
set_option maxRecDepth 20000 in
theorem gX6_loud_X2_push_n79 : GoodIn wsX6_loud (wsX2_push) := ggX6_loud_X2_push
set_option maxRecDepth 20000 in
theorem ggX6_loud_X1_change : GoodIn wsX6_loud wsX1_change := goodIn_r _ [75, 33, 76, 13, 77, 89, 90, 91] (by decide +kernel) (by decide +kernel)
set_option maxRecDepth 20000 in
theorem gX6_loud_X1_change_n110 : GoodIn wsX6_loud (wsX1_change) := ggX6_loud_X1_change
theorem dX6_loud_0 : decode cX6_loud 0 = .ok (.aload_n 0, 1) := by decide +kernel
theorem dX6_loud_1 : decode cX6_loud 1 = .ok (.getfield 23, 3) := by decide +kernel
theorem dX6_loud_4 : decode cX6_loud 4 = .ok (.iload_n 1, 1) := by decide +kernel
theorem dX6_loud_5 : decode cX6_loud 5 = .ok (.invokevirtual 71, 3) := by decide +kernel
theorem dX6_loud_8 : decode cX6_loud 8 = .ok (.astore 4, 2) := by decide +kernel
theorem dX6_loud_10 : decode cX6_loud 10 = .ok (.aload 4, 2) := by decide +kernel
theorem dX6_loud_12 : decode cX6_loud 12 = .ok (.iload_n 2, 1) := by decide +kernel
theorem dX6_loud_13 : decode cX6_loud 13 = .ok (.invokestatic 75, 3) := by decide +kernel
theorem dX6_loud_16 : decode cX6_loud 16 = .ok (.iconst 2, 1) := by decide +kernel
theorem dX6_loud_17 : decode cX6_loud 17 = .ok (.iload_n 3, 1) := by decide +kernel
theorem dX6_loud_18 : decode cX6_loud 18 = .ok (.invokestatic 104, 3) := by decide +kernel
theorem dX6_loud_21 : decode cX6_loud 21 = .ok (.ifCond .ne 13, 3) := by decide +kernel
theorem dX6_loud_24 : decode cX6_loud 24 = .ok (.new 93, 3) := by decide +kernel
theorem dX6_loud_27 : decode cX6_loud 27 = .ok (.dup, 1) := by decide +kernel
theorem dX6_loud_28 : decode cX6_loud 28 = .ok (.ldc 113, 2) := by decide +kernel
theorem dX6_loud_30 : decode cX6_loud 30 = .ok (.invokespecial 97, 3) := by decide +kernel
theorem dX6_loud_33 : decode cX6_loud 33 = .ok (.athrow, 1) := by decide +kernel
theorem dX6_loud_34 : decode cX6_loud 34 = .ok (.aload 4, 2) := by decide +kernel
theorem dX6_loud_36 : decode cX6_loud 36 = .ok (.iload_n 2, 1) := by decide +kernel
theorem dX6_loud_37 : decode cX6_loud 37 = .ok (.iconst 2, 1) := by decide +kernel
theorem dX6_loud_38 : decode cX6_loud 38 = .ok (.invokevirtual 100, 3) := by decide +kernel
theorem dX6_loud_41 : decode cX6_loud 41 = .ok (.istore 5, 2) := by decide +kernel
theorem dX6_loud_43 : decode cX6_loud 43 = .ok (.aload_n 0, 1) := by decide +kernel
theorem dX6_loud_44 : decode cX6_loud 44 = .ok (.getfield 32, 3) := by decide +kernel
theorem dX6_loud_47 : decode cX6_loud 47 = .ok (.aload_n 0, 1) := by decide +kernel
theorem dX6_loud_48 : decode cX6_loud 48 = .ok (.getfield 23, 3) := by decide +kernel
theorem dX6_loud_51 : decode cX6_loud 51 = .ok (.invokevirtual 79, 3) := by decide +kernel
theorem dX6_loud_54 : decode cX6_loud 54 = .ok (.aload 4, 2) := by decide +kernel
theorem dX6_loud_56 : decode cX6_loud 56 = .ok (.iload_n 2, 1) := by decide +kernel
theorem dX6_loud_57 : decode cX6_loud 57 = .ok (.iconst 2, 1) := by decide +kernel
theorem dX6_loud_58 : decode cX6_loud 58 = .ok (.iload_n 3, 1) := by decide +kernel
theorem dX6_loud_59 : decode cX6_loud 59 = .ok (.invokevirtual 110, 3) := by decide +kernel
theorem dX6_loud_62 : decode cX6_loud 62 = .ok (.iload 5, 2) := by decide +kernel
theorem dX6_loud_64 : decode cX6_loud 64 = .ok (.ireturn, 1) := by decide +kernel
set_option maxRecDepth 20000 in
theorem ggX6_set_X6_checkSetting : GoodIn wsX6_set wsX6_checkSetting := goodIn_ca (goodIn_ca (goodIn_r _ [6, 7, 8, 9, 10, 11, 12, 13, 14, 5, 15] (by decide +kernel) (by decide +kernel)) (goodIn_sub (fun _ h => List.mem_cons_of_mem _ (List.mem_append_left _ (List.mem_append_right _ h))) (by decide +kernel))) (goodIn_sub (fun _ h => List.mem_cons_of_mem _ (List.mem_append_right _ h)) (by decide +kernel))
set_option maxRecDepth 20000 in
theorem gX6_set_X6_checkSetting : GoodIn wsX6_set (va_wsS RX6 115 yX6_checkSetting wsX6_checkSetting) := goodIn_app (goodIn_of _ (by decide +kernel)) ggX6_set_X6_checkSetting
set_option maxRecDepth 20000 in
theorem ggX6_set_X4_settingOf : GoodIn wsX6_set wsX4_settingOf := goodIn_r _ [19, 20, 77, 78, 79] (by decide +kernel) (by decide +kernel)
set_option maxRecDepth 20000 in
theorem gX6_set_X4_settingOf_n119 : GoodIn wsX6_set (wsX4_settingOf) := ggX6_set_X4_settingOf
set_option maxRecDepth 20000 in
theorem ggX6_set_X2_push : GoodIn wsX6_set wsX2_push := goodIn_r _ [24, 25, 26, 27, 28, 17, 29, 30, 31, 22, 32, 33, 34, 35, 36, 37, 38, 39, 40, 41, 42, 43, 44, 45, 46, 47, 48, 20, 49, 50, 51, 52, 53, 54, 55, 56, 57, 58, 59, 60, 61, 62, 5, 63, 80, 81, 77, 78, 79, 82, 83, 84] (by decide +kernel) (by decide +kernel)
set_option maxRecDepth 20000 in
theorem gX6_set_X2_push_n79 : GoodIn wsX6_set (wsX2_push) := ggX6_set_X2_push
set_option maxRecDepth 20000 in
theorem ggX6_set_X4_change : GoodIn wsX6_set wsX4_change := goodIn_r _ [66, 20, 67, 5, 68, 77, 78, 79] (by decide +kernel) (by decide +kernel)
set_option maxRecDepth 20000 in
theorem gX6_set_X4_change_n123 : GoodIn wsX6_set (wsX4_change) := ggX6_set_X4_change
theorem dX6_set_0 : decode cX6_set 0 = .ok (.iload_n 1, 1) := by decide +kernel
theorem dX6_set_1 : decode cX6_set 1 = .ok (.iload_n 2, 1) := by decide +kernel
theorem dX6_set_2 : decode cX6_set 2 = .ok (.invokestatic 115, 3) := by decide +kernel
theorem dX6_set_5 : decode cX6_set 5 = .ok (.aload_n 0, 1) := by decide +kernel
theorem dX6_set_6 : decode cX6_set 6 = .ok (.getfield 23, 3) := by decide +kernel
theorem dX6_set_9 : decode cX6_set 9 = .ok (.iload_n 1, 1) := by decide +kernel
theorem dX6_set_10 : decode cX6_set 10 = .ok (.invokevirtual 119, 3) := by decide +kernel
theorem dX6_set_13 : decode cX6_set 13 = .ok (.istore_n 3, 1) := by decide +kernel
theorem dX6_set_14 : decode cX6_set 14 = .ok (.aload_n 0, 1) := by decide +kernel
theorem dX6_set_15 : decode cX6_set 15 = .ok (.getfield 32, 3) := by decide +kernel
theorem dX6_set_18 : decode cX6_set 18 = .ok (.aload_n 0, 1) := by decide +kernel
theorem dX6_set_19 : decode cX6_set 19 = .ok (.getfield 23, 3) := by decide +kernel
theorem dX6_set_22 : decode cX6_set 22 = .ok (.invokevirtual 79, 3) := by decide +kernel
theorem dX6_set_25 : decode cX6_set 25 = .ok (.aload_n 0, 1) := by decide +kernel
theorem dX6_set_26 : decode cX6_set 26 = .ok (.getfield 23, 3) := by decide +kernel
theorem dX6_set_29 : decode cX6_set 29 = .ok (.iload_n 1, 1) := by decide +kernel
theorem dX6_set_30 : decode cX6_set 30 = .ok (.iload_n 2, 1) := by decide +kernel
theorem dX6_set_31 : decode cX6_set 31 = .ok (.invokevirtual 123, 3) := by decide +kernel
theorem dX6_set_34 : decode cX6_set 34 = .ok (.iload_n 3, 1) := by decide +kernel
theorem dX6_set_35 : decode cX6_set 35 = .ok (.ireturn, 1) := by decide +kernel
set_option maxRecDepth 20000 in
theorem ggX6_append_X5_isFull : GoodIn wsX6_append wsX5_isFull := goodIn_r _ [9, 10, 11, 26, 27] (by decide +kernel) (by decide +kernel)
set_option maxRecDepth 20000 in
theorem gX6_append_X5_isFull_n127 : GoodIn wsX6_append (wsX5_isFull) := ggX6_append_X5_isFull
set_option maxRecDepth 20000 in
theorem ggX6_append_X5_add : GoodIn wsX6_append wsX5_add := goodIn_r _ [14, 10, 11, 26, 27] (by decide +kernel) (by decide +kernel)
set_option maxRecDepth 20000 in
theorem gX6_append_X5_add_n136 : GoodIn wsX6_append (wsX5_add) := ggX6_append_X5_add
set_option maxRecDepth 20000 in
theorem ggX6_append_X5_size : GoodIn wsX6_append wsX5_size := goodIn_r _ [17, 10, 26, 27] (by decide +kernel) (by decide +kernel)
set_option maxRecDepth 20000 in
theorem gX6_append_X5_size_n139 : GoodIn wsX6_append (wsX5_size) := ggX6_append_X5_size
theorem dX6_append_0 : decode cX6_append 0 = .ok (.iload_n 1, 1) := by decide +kernel
theorem dX6_append_1 : decode cX6_append 1 = .ok (.bipush 33, 2) := by decide +kernel
theorem dX6_append_3 : decode cX6_append 3 = .ok (.if_icmp .lt 9, 3) := by decide +kernel
theorem dX6_append_6 : decode cX6_append 6 = .ok (.iload_n 1, 1) := by decide +kernel
theorem dX6_append_7 : decode cX6_append 7 = .ok (.bipush 126, 2) := by decide +kernel
theorem dX6_append_9 : decode cX6_append 9 = .ok (.if_icmp .le 13, 3) := by decide +kernel
theorem dX6_append_12 : decode cX6_append 12 = .ok (.new 93, 3) := by decide +kernel
theorem dX6_append_15 : decode cX6_append 15 = .ok (.dup, 1) := by decide +kernel
theorem dX6_append_16 : decode cX6_append 16 = .ok (.ldc 125, 2) := by decide +kernel
theorem dX6_append_18 : decode cX6_append 18 = .ok (.invokespecial 97, 3) := by decide +kernel
theorem dX6_append_21 : decode cX6_append 21 = .ok (.athrow, 1) := by decide +kernel
theorem dX6_append_22 : decode cX6_append 22 = .ok (.aload_n 0, 1) := by decide +kernel
theorem dX6_append_23 : decode cX6_append 23 = .ok (.getfield 45, 3) := by decide +kernel
theorem dX6_append_26 : decode cX6_append 26 = .ok (.invokevirtual 127, 3) := by decide +kernel
theorem dX6_append_29 : decode cX6_append 29 = .ok (.ifCond .eq 13, 3) := by decide +kernel
theorem dX6_append_32 : decode cX6_append 32 = .ok (.new 131, 3) := by decide +kernel
theorem dX6_append_35 : decode cX6_append 35 = .ok (.dup, 1) := by decide +kernel
theorem dX6_append_36 : decode cX6_append 36 = .ok (.ldc 133, 2) := by decide +kernel
theorem dX6_append_38 : decode cX6_append 38 = .ok (.invokespecial 135, 3) := by decide +kernel
theorem dX6_append_41 : decode cX6_append 41 = .ok (.athrow, 1) := by decide +kernel
theorem dX6_append_42 : decode cX6_append 42 = .ok (.aload_n 0, 1) := by decide +kernel
theorem dX6_append_43 : decode cX6_append 43 = .ok (.getfield 45, 3) := by decide +kernel
theorem dX6_append_46 : decode cX6_append 46 = .ok (.iload_n 1, 1) := by decide +kernel
theorem dX6_append_47 : decode cX6_append 47 = .ok (.invokevirtual 136, 3) := by decide +kernel
theorem dX6_append_50 : decode cX6_append 50 = .ok (.aload_n 0, 1) := by decide +kernel
theorem dX6_append_51 : decode cX6_append 51 = .ok (.getfield 45, 3) := by decide +kernel
theorem dX6_append_54 : decode cX6_append 54 = .ok (.invokevirtual 139, 3) := by decide +kernel
theorem dX6_append_57 : decode cX6_append 57 = .ok (.ireturn, 1) := by decide +kernel
set_option maxRecDepth 20000 in
theorem ggX6_clearBuffer_X5_size : GoodIn wsX6_clearBuffer wsX5_size := goodIn_r _ [5, 6, 18, 19] (by decide +kernel) (by decide +kernel)
set_option maxRecDepth 20000 in
theorem gX6_clearBuffer_X5_size_n139 : GoodIn wsX6_clearBuffer (wsX5_size) := ggX6_clearBuffer_X5_size
set_option maxRecDepth 20000 in
theorem ggX6_clearBuffer_X5_clear : GoodIn wsX6_clearBuffer wsX5_clear := goodIn_r _ [9, 6, 18, 19] (by decide +kernel) (by decide +kernel)
set_option maxRecDepth 20000 in
theorem gX6_clearBuffer_X5_clear_n140 : GoodIn wsX6_clearBuffer (wsX5_clear) := ggX6_clearBuffer_X5_clear
theorem dX6_clearBuffer_0 : decode cX6_clearBuffer 0 = .ok (.aload_n 0, 1) := by decide +kernel
theorem dX6_clearBuffer_1 : decode cX6_clearBuffer 1 = .ok (.getfield 45, 3) := by decide +kernel
theorem dX6_clearBuffer_4 : decode cX6_clearBuffer 4 = .ok (.invokevirtual 139, 3) := by decide +kernel
theorem dX6_clearBuffer_7 : decode cX6_clearBuffer 7 = .ok (.istore_n 1, 1) := by decide +kernel
theorem dX6_clearBuffer_8 : decode cX6_clearBuffer 8 = .ok (.aload_n 0, 1) := by decide +kernel
theorem dX6_clearBuffer_9 : decode cX6_clearBuffer 9 = .ok (.getfield 45, 3) := by decide +kernel
theorem dX6_clearBuffer_12 : decode cX6_clearBuffer 12 = .ok (.invokevirtual 140, 3) := by decide +kernel
theorem dX6_clearBuffer_15 : decode cX6_clearBuffer 15 = .ok (.iload_n 1, 1) := by decide +kernel
theorem dX6_clearBuffer_16 : decode cX6_clearBuffer 16 = .ok (.ireturn, 1) := by decide +kernel
set_option maxRecDepth 20000 in
theorem ggX6_firstError_X5_errorFor : GoodIn wsX6_firstError wsX5_errorFor := goodIn_r _ [6, 7, 8, 9, 10, 11, 12, 13, 14, 15, 4, 16, 17, 18, 19, 20, 21, 22, 23, 24, 25, 26, 27, 28, 29, 30, 31, 32, 33, 34, 35, 36, 37, 38, 39, 40, 41, 42, 43, 44, 45, 46, 47, 48, 49, 50, 51, 52, 61, 62, 63, 64, 65] (by decide +kernel) (by decide +kernel)
set_option maxRecDepth 20000 in
theorem gX6_firstError_X5_errorFor_n143 : GoodIn wsX6_firstError (wsX5_errorFor) := ggX6_firstError_X5_errorFor
theorem dX6_firstError_0 : decode cX6_firstError 0 = .ok (.aload_n 0, 1) := by decide +kernel
theorem dX6_firstError_1 : decode cX6_firstError 1 = .ok (.getfield 45, 3) := by decide +kernel
theorem dX6_firstError_4 : decode cX6_firstError 4 = .ok (.aload_n 0, 1) := by decide +kernel
theorem dX6_firstError_5 : decode cX6_firstError 5 = .ok (.getfield 52, 3) := by decide +kernel
theorem dX6_firstError_8 : decode cX6_firstError 8 = .ok (.invokevirtual 143, 3) := by decide +kernel
theorem dX6_firstError_11 : decode cX6_firstError 11 = .ok (.ireturn, 1) := by decide +kernel
set_option maxRecDepth 20000 in
theorem ggX6_read_X5_errorFor : GoodIn wsX6_read wsX5_errorFor := goodIn_r _ [10, 11, 12, 13, 14, 15, 16, 17, 18, 19, 8, 20, 21, 22, 23, 24, 25, 26, 27, 28, 29, 30, 31, 32, 33, 34, 35, 36, 37, 38, 39, 40, 41, 42, 43, 44, 45, 46, 47, 48, 49, 50, 51, 52, 53, 54, 55, 56, 139, 140, 141, 142, 143] (by decide +kernel) (by decide +kernel)
set_option maxRecDepth 20000 in
theorem gX6_read_X5_errorFor_n143 : GoodIn wsX6_read (wsX5_errorFor) := ggX6_read_X5_errorFor
set_option maxRecDepth 20000 in
theorem ggX6_read_X5_size : GoodIn wsX6_read wsX5_size := goodIn_r _ [59, 11, 139, 140] (by decide +kernel) (by decide +kernel)
set_option maxRecDepth 20000 in
theorem gX6_read_X5_size_n139 : GoodIn wsX6_read (wsX5_size) := ggX6_read_X5_size
set_option maxRecDepth 20000 in
theorem ggX6_read_X0_isComplete : GoodIn wsX6_read wsX0_isComplete := goodIn_r _ [62, 16, 44, 45, 46, 13, 47, 37, 22, 23, 24, 141, 142, 143] (by decide +kernel) (by decide +kernel)
set_option maxRecDepth 20000 in
theorem gX6_read_X0_isComplete_n147 : GoodIn wsX6_read (wsX0_isComplete) := ggX6_read_X0_isComplete
set_option maxRecDepth 20000 in
theorem ggX6_read_X2_push : GoodIn wsX6_read wsX2_push := goodIn_r _ [66, 67, 68, 69, 70, 71, 72, 73, 74, 64, 75, 76, 77, 78, 79, 80, 81, 82, 83, 84, 85, 86, 87, 88, 89, 90, 91, 92, 93, 94, 95, 96, 97, 98, 99, 100, 101, 102, 103, 104, 105, 106, 23, 107, 144, 145, 146, 147, 148, 149, 150, 151] (by decide +kernel) (by decide +kernel)
set_option maxRecDepth 20000 in
theorem gX6_read_X2_push_n79 : GoodIn wsX6_read (wsX2_push) := ggX6_read_X2_push
set_option maxRecDepth 20000 in
theorem ggX6_read_X6_addScriptCues : GoodIn wsX6_read wsX6_addScriptCues := goodIn_r _ [111, 4, 3, 6, 12, 13, 14, 15, 16, 57, 8, 58, 59, 11, 18, 19, 20, 21, 22, 23, 24, 112, 113, 114, 32, 115, 71, 116, 117, 84, 85, 118, 83, 119, 120, 98, 99, 45, 46, 47, 37, 121, 122, 123, 124, 125, 126, 127, 97, 38, 39, 25, 26, 27, 28, 29, 30, 31, 33, 34, 35, 36, 40, 41, 42, 43, 44, 48, 49, 50, 51, 52, 53, 54, 55, 56, 131, 132, 133, 134, 135, 136, 137, 138, 141, 142, 143, 139, 140, 146, 147, 148, 149, 150, 151] (by decide +kernel) (by decide +kernel)
set_option maxRecDepth 20000 in
theorem gX6_read_X6_addScriptCues : GoodIn wsX6_read (wsV RX6 152 RX6 yX6_addScriptCues wsX6_addScriptCues) := goodIn_app (goodIn_of _ (by decide +kernel)) ggX6_read_X6_addScriptCues
set_option maxRecDepth 20000 in
theorem ggX6_read_X5_clear : GoodIn wsX6_read wsX5_clear := goodIn_r _ [130, 11, 139, 140] (by decide +kernel) (by decide +kernel)
set_option maxRecDepth 20000 in
theorem gX6_read_X5_clear_n140 : GoodIn wsX6_read (wsX5_clear) := ggX6_read_X5_clear
theorem dX6_read_0 : decode cX6_read 0 = .ok (.aload_n 0, 1) := by decide +kernel
theorem dX6_read_1 : decode cX6_read 1 = .ok (.getfield 45, 3) := by decide +kernel
theorem dX6_read_4 : decode cX6_read 4 = .ok (.aload_n 0, 1) := by decide +kernel
theorem dX6_read_5 : decode cX6_read 5 = .ok (.getfield 52, 3) := by decide +kernel
theorem dX6_read_8 : decode cX6_read 8 = .ok (.invokevirtual 143, 3) := by decide +kernel
theorem dX6_read_11 : decode cX6_read 11 = .ok (.aload_n 0, 1) := by decide +kernel
theorem dX6_read_12 : decode cX6_read 12 = .ok (.getfield 45, 3) := by decide +kernel
theorem dX6_read_15 : decode cX6_read 15 = .ok (.invokevirtual 139, 3) := by decide +kernel
theorem dX6_read_18 : decode cX6_read 18 = .ok (.if_icmp .lt 13, 3) := by decide +kernel
theorem dX6_read_21 : decode cX6_read 21 = .ok (.aload_n 0, 1) := by decide +kernel
theorem dX6_read_22 : decode cX6_read 22 = .ok (.getfield 52, 3) := by decide +kernel
theorem dX6_read_25 : decode cX6_read 25 = .ok (.invokevirtual 147, 3) := by decide +kernel
theorem dX6_read_28 : decode cX6_read 28 = .ok (.ifCond .ne 13, 3) := by decide +kernel
theorem dX6_read_31 : decode cX6_read 31 = .ok (.new 93, 3) := by decide +kernel
theorem dX6_read_34 : decode cX6_read 34 = .ok (.dup, 1) := by decide +kernel
theorem dX6_read_35 : decode cX6_read 35 = .ok (.ldc 150, 2) := by decide +kernel
theorem dX6_read_37 : decode cX6_read 37 = .ok (.invokespecial 97, 3) := by decide +kernel
theorem dX6_read_40 : decode cX6_read 40 = .ok (.athrow, 1) := by decide +kernel
theorem dX6_read_41 : decode cX6_read 41 = .ok (.aload_n 0, 1) := by decide +kernel
theorem dX6_read_42 : decode cX6_read 42 = .ok (.getfield 32, 3) := by decide +kernel
theorem dX6_read_45 : decode cX6_read 45 = .ok (.aload_n 0, 1) := by decide +kernel
theorem dX6_read_46 : decode cX6_read 46 = .ok (.getfield 23, 3) := by decide +kernel
theorem dX6_read_49 : decode cX6_read 49 = .ok (.invokevirtual 79, 3) := by decide +kernel
theorem dX6_read_52 : decode cX6_read 52 = .ok (.aload_n 0, 1) := by decide +kernel
theorem dX6_read_53 : decode cX6_read 53 = .ok (.invokevirtual 152, 3) := by decide +kernel
theorem dX6_read_56 : decode cX6_read 56 = .ok (.istore_n 1, 1) := by decide +kernel
theorem dX6_read_57 : decode cX6_read 57 = .ok (.aload_n 0, 1) := by decide +kernel
theorem dX6_read_58 : decode cX6_read 58 = .ok (.getfield 45, 3) := by decide +kernel
theorem dX6_read_61 : decode cX6_read 61 = .ok (.invokevirtual 140, 3) := by decide +kernel
theorem dX6_read_64 : decode cX6_read 64 = .ok (.iload_n 1, 1) := by decide +kernel
theorem dX6_read_65 : decode cX6_read 65 = .ok (.ireturn, 1) := by decide +kernel
set_option maxRecDepth 20000 in
theorem ggX6_write_X5_clear : GoodIn wsX6_write wsX5_clear := goodIn_r _ [6, 7, 57, 58] (by decide +kernel) (by decide +kernel)
set_option maxRecDepth 20000 in
theorem gX6_write_X5_clear_n140 : GoodIn wsX6_write (wsX5_clear) := ggX6_write_X5_clear
set_option maxRecDepth 20000 in
theorem ggX6_write_X6_writeCues : GoodIn wsX6_write wsX6_writeCues := goodIn_r _ [12, 2, 1, 13, 14, 15, 16, 17, 18, 19, 20, 21, 22, 23, 24, 25, 26, 27, 28, 29, 30, 31, 32, 4, 33, 34, 7, 35, 36, 37, 38, 39, 40, 41, 42, 43, 44, 11, 45, 46, 47, 48, 49, 50, 51, 52, 53, 54, 55, 56, 59, 60, 61, 57, 58] (by decide +kernel) (by decide +kernel)
set_option maxRecDepth 20000 in
theorem gX6_write_X6_writeCues : GoodIn wsX6_write (wsV RX6 155 RX6 yX6_writeCues wsX6_writeCues) := goodIn_app (goodIn_of _ (by decide +kernel)) ggX6_write_X6_writeCues
set_option maxRecDepth 20000 in
theorem ggX6_write_X1_size : GoodIn wsX6_write wsX1_size := goodIn_r _ [22, 23, 59, 60, 61] (by decide +kernel) (by decide +kernel)
set_option maxRecDepth 20000 in
theorem gX6_write_X1_size_n89 : GoodIn wsX6_write (wsX1_size) := ggX6_write_X1_size
theorem dX6_write_0 : decode cX6_write 0 = .ok (.aload_n 0, 1) := by decide +kernel
theorem dX6_write_1 : decode cX6_write 1 = .ok (.getfield 45, 3) := by decide +kernel
theorem dX6_write_4 : decode cX6_write 4 = .ok (.invokevirtual 140, 3) := by decide +kernel
theorem dX6_write_7 : decode cX6_write 7 = .ok (.aload_n 0, 1) := by decide +kernel
theorem dX6_write_8 : decode cX6_write 8 = .ok (.iconst 1, 1) := by decide +kernel
theorem dX6_write_9 : decode cX6_write 9 = .ok (.invokevirtual 155, 3) := by decide +kernel
theorem dX6_write_12 : decode cX6_write 12 = .ok (.istore_n 1, 1) := by decide +kernel
theorem dX6_write_13 : decode cX6_write 13 = .ok (.iload_n 1, 1) := by decide +kernel
theorem dX6_write_14 : decode cX6_write 14 = .ok (.aload_n 0, 1) := by decide +kernel
theorem dX6_write_15 : decode cX6_write 15 = .ok (.getfield 23, 3) := by decide +kernel
theorem dX6_write_18 : decode cX6_write 18 = .ok (.getfield 60, 3) := by decide +kernel
theorem dX6_write_21 : decode cX6_write 21 = .ok (.invokevirtual 89, 3) := by decide +kernel
theorem dX6_write_24 : decode cX6_write 24 = .ok (.if_icmp .ge 5, 3) := by decide +kernel
theorem dX6_write_27 : decode cX6_write 27 = .ok (.iload_n 1, 1) := by decide +kernel
theorem dX6_write_28 : decode cX6_write 28 = .ok (.ireturn, 1) := by decide +kernel
theorem dX6_write_29 : decode cX6_write 29 = .ok (.iload_n 1, 1) := by decide +kernel
theorem dX6_write_30 : decode cX6_write 30 = .ok (.aload_n 0, 1) := by decide +kernel
theorem dX6_write_31 : decode cX6_write 31 = .ok (.iconst 0, 1) := by decide +kernel
theorem dX6_write_32 : decode cX6_write 32 = .ok (.invokevirtual 155, 3) := by decide +kernel
theorem dX6_write_35 : decode cX6_write 35 = .ok (.iadd, 1) := by decide +kernel
theorem dX6_write_36 : decode cX6_write 36 = .ok (.ireturn, 1) := by decide +kernel
set_option maxRecDepth 20000 in
theorem ggX6_charAt_X5_codeAt : GoodIn wsX6_charAt wsX5_codeAt := goodIn_r _ [7, 8, 9, 10, 11, 12, 21, 22] (by decide +kernel) (by decide +kernel)
set_option maxRecDepth 20000 in
theorem gX6_charAt_X5_codeAt_n161 : GoodIn wsX6_charAt (wsX5_codeAt) := ggX6_charAt_X5_codeAt
theorem dX6_charAt_0 : decode cX6_charAt 0 = .ok (.iload_n 1, 1) := by decide +kernel
theorem dX6_charAt_1 : decode cX6_charAt 1 = .ok (.ifCond .ge 13, 3) := by decide +kernel
theorem dX6_charAt_4 : decode cX6_charAt 4 = .ok (.new 93, 3) := by decide +kernel
theorem dX6_charAt_7 : decode cX6_charAt 7 = .ok (.dup, 1) := by decide +kernel
theorem dX6_charAt_8 : decode cX6_charAt 8 = .ok (.ldc 159, 2) := by decide +kernel
theorem dX6_charAt_10 : decode cX6_charAt 10 = .ok (.invokespecial 97, 3) := by decide +kernel
theorem dX6_charAt_13 : decode cX6_charAt 13 = .ok (.athrow, 1) := by decide +kernel
theorem dX6_charAt_14 : decode cX6_charAt 14 = .ok (.aload_n 0, 1) := by decide +kernel
theorem dX6_charAt_15 : decode cX6_charAt 15 = .ok (.getfield 45, 3) := by decide +kernel
theorem dX6_charAt_18 : decode cX6_charAt 18 = .ok (.iload_n 1, 1) := by decide +kernel
theorem dX6_charAt_19 : decode cX6_charAt 19 = .ok (.invokevirtual 161, 3) := by decide +kernel
theorem dX6_charAt_22 : decode cX6_charAt 22 = .ok (.ireturn, 1) := by decide +kernel
set_option maxRecDepth 20000 in
theorem ggX6_undo_X2_size : GoodIn wsX6_undo wsX2_size := goodIn_r _ [8, 9, 38, 39] (by decide +kernel) (by decide +kernel)
set_option maxRecDepth 20000 in
theorem gX6_undo_X2_size_n164 : GoodIn wsX6_undo (wsX2_size) := ggX6_undo_X2_size
set_option maxRecDepth 20000 in
theorem ggX6_undo_X2_popInto : GoodIn wsX6_undo wsX2_popInto := goodIn_r _ [12, 9, 13, 14, 15, 16, 17, 18, 19, 20, 21, 22, 23, 24, 25, 26, 27, 28, 29, 38, 39, 40, 41, 42, 43, 44, 45] (by decide +kernel) (by decide +kernel)
set_option maxRecDepth 20000 in
theorem gX6_undo_X2_popInto_n167 : GoodIn wsX6_undo (wsX2_popInto) := ggX6_undo_X2_popInto
theorem dX6_undo_0 : decode cX6_undo 0 = .ok (.aload_n 0, 1) := by decide +kernel
theorem dX6_undo_1 : decode cX6_undo 1 = .ok (.getfield 32, 3) := by decide +kernel
theorem dX6_undo_4 : decode cX6_undo 4 = .ok (.invokevirtual 164, 3) := by decide +kernel
theorem dX6_undo_7 : decode cX6_undo 7 = .ok (.ifCond .ne 13, 3) := by decide +kernel
theorem dX6_undo_10 : decode cX6_undo 10 = .ok (.new 131, 3) := by decide +kernel
theorem dX6_undo_13 : decode cX6_undo 13 = .ok (.dup, 1) := by decide +kernel
theorem dX6_undo_14 : decode cX6_undo 14 = .ok (.ldc 165, 2) := by decide +kernel
theorem dX6_undo_16 : decode cX6_undo 16 = .ok (.invokespecial 135, 3) := by decide +kernel
theorem dX6_undo_19 : decode cX6_undo 19 = .ok (.athrow, 1) := by decide +kernel
theorem dX6_undo_20 : decode cX6_undo 20 = .ok (.aload_n 0, 1) := by decide +kernel
theorem dX6_undo_21 : decode cX6_undo 21 = .ok (.getfield 32, 3) := by decide +kernel
theorem dX6_undo_24 : decode cX6_undo 24 = .ok (.aload_n 0, 1) := by decide +kernel
theorem dX6_undo_25 : decode cX6_undo 25 = .ok (.getfield 23, 3) := by decide +kernel
theorem dX6_undo_28 : decode cX6_undo 28 = .ok (.invokevirtual 167, 3) := by decide +kernel
theorem dX6_undo_31 : decode cX6_undo 31 = .ok (.aload_n 0, 1) := by decide +kernel
theorem dX6_undo_32 : decode cX6_undo 32 = .ok (.getfield 32, 3) := by decide +kernel
theorem dX6_undo_35 : decode cX6_undo 35 = .ok (.invokevirtual 164, 3) := by decide +kernel
theorem dX6_undo_38 : decode cX6_undo 38 = .ok (.ireturn, 1) := by decide +kernel
set_option maxRecDepth 20000 in
theorem ggX6_keep_X4_init : GoodIn wsX6_keep wsX4_init := goodIn_r _ [9, 10, 11, 12, 13, 14, 15, 16, 17, 18, 19, 20, 21, 22, 23, 24, 25, 26, 27, 28, 29, 30, 31, 55, 56, 57, 52, 53, 54] (by decide +kernel) (by decide +kernel)
set_option maxRecDepth 20000 in
theorem gX6_keep_X4_init_n172 : GoodIn wsX6_keep (wsX4_init) := ggX6_keep_X4_init
set_option maxRecDepth 20000 in
theorem ggX6_keep_X4_copyFrom : GoodIn wsX6_keep wsX4_copyFrom := goodIn_r _ [34, 16, 17, 24, 35, 15, 36, 37, 29, 30, 38, 39, 40, 52, 53, 54, 55, 56, 57] (by decide +kernel) (by decide +kernel)
set_option maxRecDepth 20000 in
theorem gX6_keep_X4_copyFrom_n173 : GoodIn wsX6_keep (wsX4_copyFrom) := ggX6_keep_X4_copyFrom
set_option maxRecDepth 20000 in
theorem ggX6_keep_X1_size : GoodIn wsX6_keep wsX1_size := goodIn_r _ [43, 30, 55, 56, 57] (by decide +kernel) (by decide +kernel)
set_option maxRecDepth 20000 in
theorem gX6_keep_X1_size_n89 : GoodIn wsX6_keep (wsX1_size) := ggX6_keep_X1_size
theorem dX6_keep_0 : decode cX6_keep 0 = .ok (.iload_n 1, 1) := by decide +kernel
theorem dX6_keep_1 : decode cX6_keep 1 = .ok (.ifCond .lt 12, 3) := by decide +kernel
theorem dX6_keep_4 : decode cX6_keep 4 = .ok (.iload_n 1, 1) := by decide +kernel
theorem dX6_keep_5 : decode cX6_keep 5 = .ok (.aload_n 0, 1) := by decide +kernel
theorem dX6_keep_6 : decode cX6_keep 6 = .ok (.getfield 38, 3) := by decide +kernel
theorem dX6_keep_9 : decode cX6_keep 9 = .ok (.arraylength, 1) := by decide +kernel
theorem dX6_keep_10 : decode cX6_keep 10 = .ok (.if_icmp .lt 13, 3) := by decide +kernel
theorem dX6_keep_13 : decode cX6_keep 13 = .ok (.new 93, 3) := by decide +kernel
theorem dX6_keep_16 : decode cX6_keep 16 = .ok (.dup, 1) := by decide +kernel
theorem dX6_keep_17 : decode cX6_keep 17 = .ok (.ldc 170, 2) := by decide +kernel
theorem dX6_keep_19 : decode cX6_keep 19 = .ok (.invokespecial 97, 3) := by decide +kernel
theorem dX6_keep_22 : decode cX6_keep 22 = .ok (.athrow, 1) := by decide +kernel
theorem dX6_keep_23 : decode cX6_keep 23 = .ok (.aload_n 0, 1) := by decide +kernel
theorem dX6_keep_24 : decode cX6_keep 24 = .ok (.getfield 38, 3) := by decide +kernel
theorem dX6_keep_27 : decode cX6_keep 27 = .ok (.iload_n 1, 1) := by decide +kernel
theorem dX6_keep_28 : decode cX6_keep 28 = .ok (.aaload, 1) := by decide +kernel
theorem dX6_keep_29 : decode cX6_keep 29 = .ok (.astore_n 2, 1) := by decide +kernel
theorem dX6_keep_30 : decode cX6_keep 30 = .ok (.aload_n 2, 1) := by decide +kernel
theorem dX6_keep_31 : decode cX6_keep 31 = .ok (.ifnonnull 18, 3) := by decide +kernel
theorem dX6_keep_34 : decode cX6_keep 34 = .ok (.new 36, 3) := by decide +kernel
theorem dX6_keep_37 : decode cX6_keep 37 = .ok (.dup, 1) := by decide +kernel
theorem dX6_keep_38 : decode cX6_keep 38 = .ok (.invokespecial 172, 3) := by decide +kernel
theorem dX6_keep_41 : decode cX6_keep 41 = .ok (.astore_n 2, 1) := by decide +kernel
theorem dX6_keep_42 : decode cX6_keep 42 = .ok (.aload_n 0, 1) := by decide +kernel
theorem dX6_keep_43 : decode cX6_keep 43 = .ok (.getfield 38, 3) := by decide +kernel
theorem dX6_keep_46 : decode cX6_keep 46 = .ok (.iload_n 1, 1) := by decide +kernel
theorem dX6_keep_47 : decode cX6_keep 47 = .ok (.aload_n 2, 1) := by decide +kernel
theorem dX6_keep_48 : decode cX6_keep 48 = .ok (.aastore, 1) := by decide +kernel
theorem dX6_keep_49 : decode cX6_keep 49 = .ok (.aload_n 2, 1) := by decide +kernel
theorem dX6_keep_50 : decode cX6_keep 50 = .ok (.aload_n 0, 1) := by decide +kernel
theorem dX6_keep_51 : decode cX6_keep 51 = .ok (.getfield 23, 3) := by decide +kernel
theorem dX6_keep_54 : decode cX6_keep 54 = .ok (.invokevirtual 173, 3) := by decide +kernel
theorem dX6_keep_57 : decode cX6_keep 57 = .ok (.aload_n 0, 1) := by decide +kernel
theorem dX6_keep_58 : decode cX6_keep 58 = .ok (.getfield 23, 3) := by decide +kernel
theorem dX6_keep_61 : decode cX6_keep 61 = .ok (.getfield 60, 3) := by decide +kernel
theorem dX6_keep_64 : decode cX6_keep 64 = .ok (.invokevirtual 89, 3) := by decide +kernel
theorem dX6_keep_67 : decode cX6_keep 67 = .ok (.ireturn, 1) := by decide +kernel
set_option maxRecDepth 20000 in
theorem ggX6_goBack_X2_push : GoodIn wsX6_goBack wsX2_push := goodIn_r _ [11, 12, 13, 14, 15, 16, 17, 18, 19, 9, 20, 21, 22, 23, 24, 25, 26, 27, 28, 29, 30, 31, 32, 33, 34, 35, 36, 37, 38, 39, 40, 41, 42, 43, 44, 45, 46, 47, 48, 49, 50, 51, 52, 53, 68, 69, 65, 66, 67, 70, 71, 72] (by decide +kernel) (by decide +kernel)
set_option maxRecDepth 20000 in
theorem gX6_goBack_X2_push_n79 : GoodIn wsX6_goBack (wsX2_push) := ggX6_goBack_X2_push
set_option maxRecDepth 20000 in
theorem ggX6_goBack_X4_copyFrom : GoodIn wsX6_goBack wsX4_copyFrom := goodIn_r _ [47, 29, 30, 37, 48, 28, 49, 50, 42, 43, 51, 52, 53, 65, 66, 67, 70, 71, 72] (by decide +kernel) (by decide +kernel)
set_option maxRecDepth 20000 in
theorem gX6_goBack_X4_copyFrom_n173 : GoodIn wsX6_goBack (wsX4_copyFrom) := ggX6_goBack_X4_copyFrom
set_option maxRecDepth 20000 in
theorem ggX6_goBack_X1_size : GoodIn wsX6_goBack wsX1_size := goodIn_r _ [56, 43, 70, 71, 72] (by decide +kernel) (by decide +kernel)
set_option maxRecDepth 20000 in
theorem gX6_goBack_X1_size_n89 : GoodIn wsX6_goBack (wsX1_size) := ggX6_goBack_X1_size
theorem dX6_goBack_0 : decode cX6_goBack 0 = .ok (.iload_n 1, 1) := by decide +kernel
theorem dX6_goBack_1 : decode cX6_goBack 1 = .ok (.ifCond .lt 12, 3) := by decide +kernel
theorem dX6_goBack_4 : decode cX6_goBack 4 = .ok (.iload_n 1, 1) := by decide +kernel
theorem dX6_goBack_5 : decode cX6_goBack 5 = .ok (.aload_n 0, 1) := by decide +kernel
theorem dX6_goBack_6 : decode cX6_goBack 6 = .ok (.getfield 38, 3) := by decide +kernel
theorem dX6_goBack_9 : decode cX6_goBack 9 = .ok (.arraylength, 1) := by decide +kernel
theorem dX6_goBack_10 : decode cX6_goBack 10 = .ok (.if_icmp .lt 13, 3) := by decide +kernel
theorem dX6_goBack_13 : decode cX6_goBack 13 = .ok (.new 93, 3) := by decide +kernel
theorem dX6_goBack_16 : decode cX6_goBack 16 = .ok (.dup, 1) := by decide +kernel
theorem dX6_goBack_17 : decode cX6_goBack 17 = .ok (.ldc 170, 2) := by decide +kernel
theorem dX6_goBack_19 : decode cX6_goBack 19 = .ok (.invokespecial 97, 3) := by decide +kernel
theorem dX6_goBack_22 : decode cX6_goBack 22 = .ok (.athrow, 1) := by decide +kernel
theorem dX6_goBack_23 : decode cX6_goBack 23 = .ok (.aload_n 0, 1) := by decide +kernel
theorem dX6_goBack_24 : decode cX6_goBack 24 = .ok (.getfield 38, 3) := by decide +kernel
theorem dX6_goBack_27 : decode cX6_goBack 27 = .ok (.iload_n 1, 1) := by decide +kernel
theorem dX6_goBack_28 : decode cX6_goBack 28 = .ok (.aaload, 1) := by decide +kernel
theorem dX6_goBack_29 : decode cX6_goBack 29 = .ok (.astore_n 2, 1) := by decide +kernel
theorem dX6_goBack_30 : decode cX6_goBack 30 = .ok (.aload_n 2, 1) := by decide +kernel
theorem dX6_goBack_31 : decode cX6_goBack 31 = .ok (.ifnonnull 13, 3) := by decide +kernel
theorem dX6_goBack_34 : decode cX6_goBack 34 = .ok (.new 131, 3) := by decide +kernel
theorem dX6_goBack_37 : decode cX6_goBack 37 = .ok (.dup, 1) := by decide +kernel
theorem dX6_goBack_38 : decode cX6_goBack 38 = .ok (.ldc 176, 2) := by decide +kernel
theorem dX6_goBack_40 : decode cX6_goBack 40 = .ok (.invokespecial 135, 3) := by decide +kernel
theorem dX6_goBack_43 : decode cX6_goBack 43 = .ok (.athrow, 1) := by decide +kernel
theorem dX6_goBack_44 : decode cX6_goBack 44 = .ok (.aload_n 0, 1) := by decide +kernel
theorem dX6_goBack_45 : decode cX6_goBack 45 = .ok (.getfield 32, 3) := by decide +kernel
theorem dX6_goBack_48 : decode cX6_goBack 48 = .ok (.aload_n 0, 1) := by decide +kernel
theorem dX6_goBack_49 : decode cX6_goBack 49 = .ok (.getfield 23, 3) := by decide +kernel
theorem dX6_goBack_52 : decode cX6_goBack 52 = .ok (.invokevirtual 79, 3) := by decide +kernel
theorem dX6_goBack_55 : decode cX6_goBack 55 = .ok (.aload_n 0, 1) := by decide +kernel
theorem dX6_goBack_56 : decode cX6_goBack 56 = .ok (.getfield 23, 3) := by decide +kernel
theorem dX6_goBack_59 : decode cX6_goBack 59 = .ok (.aload_n 2, 1) := by decide +kernel
theorem dX6_goBack_60 : decode cX6_goBack 60 = .ok (.invokevirtual 173, 3) := by decide +kernel
theorem dX6_goBack_63 : decode cX6_goBack 63 = .ok (.aload_n 0, 1) := by decide +kernel
theorem dX6_goBack_64 : decode cX6_goBack 64 = .ok (.getfield 23, 3) := by decide +kernel
theorem dX6_goBack_67 : decode cX6_goBack 67 = .ok (.getfield 60, 3) := by decide +kernel
theorem dX6_goBack_70 : decode cX6_goBack 70 = .ok (.invokevirtual 89, 3) := by decide +kernel
theorem dX6_goBack_73 : decode cX6_goBack 73 = .ok (.ireturn, 1) := by decide +kernel
set_option maxRecDepth 20000 in
theorem ggX6_wordOf_X6_checkNumber : GoodIn wsX6_wordOf wsX6_checkNumber := goodIn_ca (goodIn_r _ [6, 7, 8, 9, 10, 11, 12, 13, 112, 113, 114] (by decide +kernel) (by decide +kernel)) (goodIn_sub (fun _ h => List.mem_cons_of_mem _ (List.mem_append_left _ (List.mem_append_right _ h))) (by decide +kernel))
set_option maxRecDepth 20000 in
theorem gX6_wordOf_X6_checkNumber : GoodIn wsX6_wordOf (va_wsS RX6 75 yX6_checkNumber wsX6_checkNumber) := goodIn_app (goodIn_of _ (by decide +kernel)) ggX6_wordOf_X6_checkNumber
set_option maxRecDepth 20000 in
theorem ggX6_wordOf_X6_checkWhat : GoodIn wsX6_wordOf wsX6_checkWhat := goodIn_ca (goodIn_r _ [16, 17, 18] (by decide +kernel) (by decide +kernel)) (goodIn_sub (fun _ h => List.mem_cons_of_mem _ (List.mem_append_right _ h)) (by decide +kernel))
set_option maxRecDepth 20000 in
theorem gX6_wordOf_X6_checkWhat : GoodIn wsX6_wordOf (va_wsS RX6 178 yX6_checkWhat wsX6_checkWhat) := goodIn_app (goodIn_of _ (by decide +kernel)) ggX6_wordOf_X6_checkWhat
set_option maxRecDepth 20000 in
theorem ggX6_wordOf_X1_numberOf : GoodIn wsX6_wordOf wsX1_numberOf := goodIn_r _ [21, 22, 112, 113, 114] (by decide +kernel) (by decide +kernel)
set_option maxRecDepth 20000 in
theorem gX6_wordOf_X1_numberOf_n100 : GoodIn wsX6_wordOf (wsX1_numberOf) := ggX6_wordOf_X1_numberOf
set_option maxRecDepth 20000 in
theorem ggX6_wordOf_X3_refresh : GoodIn wsX6_wordOf wsX3_refresh := goodIn_r _ [26, 27, 28, 29, 30, 10, 31, 32, 13, 33, 34, 35, 36, 37, 19, 20, 21, 22, 38, 5, 39, 40, 41, 42, 43, 44, 24, 45, 46, 47, 48, 49, 50, 51, 52, 53, 54, 55, 56, 57, 58, 59, 60, 61, 62, 63, 64, 65, 66, 67, 68, 69, 70, 71, 72, 73, 74, 75, 76, 77, 78, 79, 80, 81, 82, 83, 84, 85, 86, 87, 115, 116, 117, 118, 119, 120, 121, 122, 109, 110, 111, 112, 113, 114] (by decide +kernel) (by decide +kernel)
set_option maxRecDepth 20000 in
theorem gX6_wordOf_X3_refresh_n181 : GoodIn wsX6_wordOf (wsX3_refresh) := ggX6_wordOf_X3_refresh
set_option maxRecDepth 20000 in
theorem ggX6_wordOf_X3_maskedSecondsOf : GoodIn wsX6_wordOf wsX3_maskedSecondsOf := goodIn_r _ [90, 79, 38, 5, 39, 66, 67, 115, 116, 117, 118, 119, 120, 121, 122] (by decide +kernel) (by decide +kernel)
set_option maxRecDepth 20000 in
theorem gX6_wordOf_X3_maskedSecondsOf_n184 : GoodIn wsX6_wordOf (wsX3_maskedSecondsOf) := ggX6_wordOf_X3_maskedSecondsOf
set_option maxRecDepth 20000 in
theorem ggX6_wordOf_X3_firstMaskedOf : GoodIn wsX6_wordOf wsX3_firstMaskedOf := goodIn_r _ [93, 79, 38, 5, 39, 66, 67, 115, 116, 117, 118, 119, 120, 121, 122] (by decide +kernel) (by decide +kernel)
set_option maxRecDepth 20000 in
theorem gX6_wordOf_X3_firstMaskedOf_n187 : GoodIn wsX6_wordOf (wsX3_firstMaskedOf) := ggX6_wordOf_X3_firstMaskedOf
set_option maxRecDepth 20000 in
theorem ggX6_wordOf_X3_isUnderstood : GoodIn wsX6_wordOf wsX3_isUnderstood := goodIn_r _ [96, 27, 97, 88, 89, 24, 90, 79, 38, 5, 39, 66, 67, 51, 52, 53, 54, 55, 115, 116, 117, 118, 119, 120, 121, 122, 109, 110, 111] (by decide +kernel) (by decide +kernel)
set_option maxRecDepth 20000 in
theorem gX6_wordOf_X3_isUnderstood_n190 : GoodIn wsX6_wordOf (wsX3_isUnderstood) := ggX6_wordOf_X3_isUnderstood
set_option maxRecDepth 20000 in
theorem ggX6_wordOf_X3_greatestCoverOf : GoodIn wsX6_wordOf wsX3_greatestCoverOf := goodIn_r _ [100, 27, 46, 47, 48, 49, 34, 10, 35, 36, 37, 19, 20, 21, 22, 80, 81, 82, 24, 83, 61, 62, 28, 38, 5, 39, 63, 64, 65, 13, 66, 67, 84, 85, 86, 87, 51, 52, 53, 54, 55, 115, 116, 117, 118, 119, 120, 121, 122, 109, 110, 111, 112, 113, 114] (by decide +kernel) (by decide +kernel)
set_option maxRecDepth 20000 in
theorem gX6_wordOf_X3_greatestCoverOf_n194 : GoodIn wsX6_wordOf (wsX3_greatestCoverOf) := ggX6_wordOf_X3_greatestCoverOf
theorem dX6_wordOf_0 : decode cX6_wordOf 0 = .ok (.aload_n 0, 1) := by decide +kernel
theorem dX6_wordOf_1 : decode cX6_wordOf 1 = .ok (.getfield 23, 3) := by decide +kernel
theorem dX6_wordOf_4 : decode cX6_wordOf 4 = .ok (.getfield 60, 3) := by decide +kernel
theorem dX6_wordOf_7 : decode cX6_wordOf 7 = .ok (.iload_n 1, 1) := by decide +kernel
theorem dX6_wordOf_8 : decode cX6_wordOf 8 = .ok (.invokestatic 75, 3) := by decide +kernel
theorem dX6_wordOf_11 : decode cX6_wordOf 11 = .ok (.iload_n 2, 1) := by decide +kernel
theorem dX6_wordOf_12 : decode cX6_wordOf 12 = .ok (.bipush 6, 2) := by decide +kernel
theorem dX6_wordOf_14 : decode cX6_wordOf 14 = .ok (.invokestatic 178, 3) := by decide +kernel
theorem dX6_wordOf_17 : decode cX6_wordOf 17 = .ok (.iload_n 2, 1) := by decide +kernel
theorem dX6_wordOf_18 : decode cX6_wordOf 18 = .ok (.iconst 2, 1) := by decide +kernel
theorem dX6_wordOf_19 : decode cX6_wordOf 19 = .ok (.if_icmp .gt 16, 3) := by decide +kernel
theorem dX6_wordOf_22 : decode cX6_wordOf 22 = .ok (.aload_n 0, 1) := by decide +kernel
theorem dX6_wordOf_23 : decode cX6_wordOf 23 = .ok (.getfield 23, 3) := by decide +kernel
theorem dX6_wordOf_26 : decode cX6_wordOf 26 = .ok (.getfield 60, 3) := by decide +kernel
theorem dX6_wordOf_29 : decode cX6_wordOf 29 = .ok (.iload_n 1, 1) := by decide +kernel
theorem dX6_wordOf_30 : decode cX6_wordOf 30 = .ok (.iload_n 2, 1) := by decide +kernel
theorem dX6_wordOf_31 : decode cX6_wordOf 31 = .ok (.invokevirtual 100, 3) := by decide +kernel
theorem dX6_wordOf_34 : decode cX6_wordOf 34 = .ok (.ireturn, 1) := by decide +kernel
theorem dX6_wordOf_35 : decode cX6_wordOf 35 = .ok (.aload_n 0, 1) := by decide +kernel
theorem dX6_wordOf_36 : decode cX6_wordOf 36 = .ok (.getfield 10, 3) := by decide +kernel
theorem dX6_wordOf_39 : decode cX6_wordOf 39 = .ok (.invokevirtual 181, 3) := by decide +kernel
theorem dX6_wordOf_42 : decode cX6_wordOf 42 = .ok (.iload_n 2, 1) := by decide +kernel
theorem dX6_wordOf_43 : decode cX6_wordOf 43 = .ok (.tableswitch 73 3 5 #[25, 47, 56], 25) := by decide +kernel
theorem dX6_wordOf_68 : decode cX6_wordOf 68 = .ok (.aload_n 0, 1) := by decide +kernel
theorem dX6_wordOf_69 : decode cX6_wordOf 69 = .ok (.getfield 23, 3) := by decide +kernel
theorem dX6_wordOf_72 : decode cX6_wordOf 72 = .ok (.getfield 60, 3) := by decide +kernel
theorem dX6_wordOf_75 : decode cX6_wordOf 75 = .ok (.iload_n 1, 1) := by decide +kernel
theorem dX6_wordOf_76 : decode cX6_wordOf 76 = .ok (.iconst 1, 1) := by decide +kernel
theorem dX6_wordOf_77 : decode cX6_wordOf 77 = .ok (.invokevirtual 100, 3) := by decide +kernel
theorem dX6_wordOf_80 : decode cX6_wordOf 80 = .ok (.aload_n 0, 1) := by decide +kernel
theorem dX6_wordOf_81 : decode cX6_wordOf 81 = .ok (.getfield 10, 3) := by decide +kernel
theorem dX6_wordOf_84 : decode cX6_wordOf 84 = .ok (.iload_n 1, 1) := by decide +kernel
theorem dX6_wordOf_85 : decode cX6_wordOf 85 = .ok (.invokevirtual 184, 3) := by decide +kernel
theorem dX6_wordOf_88 : decode cX6_wordOf 88 = .ok (.isub, 1) := by decide +kernel
theorem dX6_wordOf_89 : decode cX6_wordOf 89 = .ok (.ireturn, 1) := by decide +kernel
theorem dX6_wordOf_90 : decode cX6_wordOf 90 = .ok (.aload_n 0, 1) := by decide +kernel
theorem dX6_wordOf_91 : decode cX6_wordOf 91 = .ok (.getfield 10, 3) := by decide +kernel
theorem dX6_wordOf_94 : decode cX6_wordOf 94 = .ok (.iload_n 1, 1) := by decide +kernel
theorem dX6_wordOf_95 : decode cX6_wordOf 95 = .ok (.invokevirtual 187, 3) := by decide +kernel
theorem dX6_wordOf_98 : decode cX6_wordOf 98 = .ok (.ireturn, 1) := by decide +kernel
theorem dX6_wordOf_99 : decode cX6_wordOf 99 = .ok (.aload_n 0, 1) := by decide +kernel
theorem dX6_wordOf_100 : decode cX6_wordOf 100 = .ok (.getfield 10, 3) := by decide +kernel
theorem dX6_wordOf_103 : decode cX6_wordOf 103 = .ok (.iload_n 1, 1) := by decide +kernel
theorem dX6_wordOf_104 : decode cX6_wordOf 104 = .ok (.invokevirtual 190, 3) := by decide +kernel
theorem dX6_wordOf_107 : decode cX6_wordOf 107 = .ok (.ifCond .eq 7, 3) := by decide +kernel
theorem dX6_wordOf_110 : decode cX6_wordOf 110 = .ok (.iconst 1, 1) := by decide +kernel
theorem dX6_wordOf_111 : decode cX6_wordOf 111 = .ok (.goto 4, 3) := by decide +kernel
theorem dX6_wordOf_114 : decode cX6_wordOf 114 = .ok (.iconst 0, 1) := by decide +kernel
theorem dX6_wordOf_115 : decode cX6_wordOf 115 = .ok (.ireturn, 1) := by decide +kernel
theorem dX6_wordOf_116 : decode cX6_wordOf 116 = .ok (.aload_n 0, 1) := by decide +kernel
theorem dX6_wordOf_117 : decode cX6_wordOf 117 = .ok (.getfield 10, 3) := by decide +kernel
theorem dX6_wordOf_120 : decode cX6_wordOf 120 = .ok (.iload_n 1, 1) := by decide +kernel
theorem dX6_wordOf_121 : decode cX6_wordOf 121 = .ok (.invokevirtual 194, 3) := by decide +kernel
theorem dX6_wordOf_124 : decode cX6_wordOf 124 = .ok (.ireturn, 1) := by decide +kernel
set_option maxRecDepth 20000 in
theorem ggX6_noiseOf_X6_checkNumber : GoodIn wsX6_noiseOf wsX6_checkNumber := goodIn_ca (goodIn_r _ [6, 7, 8, 9, 10, 11, 12, 13, 108, 109, 110] (by decide +kernel) (by decide +kernel)) (goodIn_sub (fun _ h => List.mem_cons_of_mem _ (List.mem_append_left _ (List.mem_append_right _ h))) (by decide +kernel))
set_option maxRecDepth 20000 in
theorem gX6_noiseOf_X6_checkNumber : GoodIn wsX6_noiseOf (va_wsS RX6 75 yX6_checkNumber wsX6_checkNumber) := goodIn_app (goodIn_of _ (by decide +kernel)) ggX6_noiseOf_X6_checkNumber
set_option maxRecDepth 20000 in
theorem ggX6_noiseOf_X6_checkWhat : GoodIn wsX6_noiseOf wsX6_checkWhat := goodIn_ca (goodIn_r _ [16, 17, 18] (by decide +kernel) (by decide +kernel)) (goodIn_sub (fun _ h => List.mem_cons_of_mem _ (List.mem_append_right _ h)) (by decide +kernel))
set_option maxRecDepth 20000 in
theorem gX6_noiseOf_X6_checkWhat : GoodIn wsX6_noiseOf (va_wsS RX6 178 yX6_checkWhat wsX6_checkWhat) := goodIn_app (goodIn_of _ (by decide +kernel)) ggX6_noiseOf_X6_checkWhat
set_option maxRecDepth 20000 in
theorem ggX6_noiseOf_X1_numberOf : GoodIn wsX6_noiseOf wsX1_numberOf := goodIn_r _ [21, 22, 108, 109, 110] (by decide +kernel) (by decide +kernel)
set_option maxRecDepth 20000 in
theorem gX6_noiseOf_X1_numberOf_n100 : GoodIn wsX6_noiseOf (wsX1_numberOf) := ggX6_noiseOf_X1_numberOf
set_option maxRecDepth 20000 in
theorem ggX6_noiseOf_X3_refresh : GoodIn wsX6_noiseOf wsX3_refresh := goodIn_r _ [26, 27, 28, 29, 30, 10, 31, 32, 13, 33, 34, 35, 36, 37, 19, 20, 21, 22, 38, 5, 39, 40, 41, 42, 43, 44, 24, 45, 46, 47, 48, 49, 50, 51, 52, 53, 54, 55, 56, 57, 58, 59, 60, 61, 62, 63, 64, 65, 66, 67, 68, 69, 70, 71, 72, 73, 74, 75, 76, 77, 78, 79, 80, 81, 82, 83, 84, 85, 86, 87, 111, 112, 113, 114, 115, 116, 117, 118, 105, 106, 107, 108, 109, 110] (by decide +kernel) (by decide +kernel)
set_option maxRecDepth 20000 in
theorem gX6_noiseOf_X3_refresh_n181 : GoodIn wsX6_noiseOf (wsX3_refresh) := ggX6_noiseOf_X3_refresh
set_option maxRecDepth 20000 in
theorem ggX6_noiseOf_X3_strengthSumOf : GoodIn wsX6_noiseOf wsX3_strengthSumOf := goodIn_r _ [90, 27, 34, 10, 35, 36, 37, 19, 20, 21, 22, 68, 69, 70, 24, 71, 50, 46, 47, 48, 49, 72, 73, 74, 38, 5, 39, 111, 112, 113, 114, 115, 116, 117, 118, 105, 106, 107, 108, 109, 110] (by decide +kernel) (by decide +kernel)
set_option maxRecDepth 20000 in
theorem gX6_noiseOf_X3_strengthSumOf_n197 : GoodIn wsX6_noiseOf (wsX3_strengthSumOf) := ggX6_noiseOf_X3_strengthSumOf
set_option maxRecDepth 20000 in
theorem ggX6_noiseOf_X3_maskingSecondsOf : GoodIn wsX6_noiseOf wsX3_maskingSecondsOf := goodIn_r _ [93, 27, 79, 34, 10, 35, 36, 37, 19, 20, 21, 22, 38, 5, 39, 111, 112, 113, 114, 115, 116, 117, 118, 105, 106, 107, 108, 109, 110] (by decide +kernel) (by decide +kernel)
set_option maxRecDepth 20000 in
theorem gX6_noiseOf_X3_maskingSecondsOf_n200 : GoodIn wsX6_noiseOf (wsX3_maskingSecondsOf) := ggX6_noiseOf_X3_maskingSecondsOf
set_option maxRecDepth 20000 in
theorem ggX6_noiseOf_X3_duckedSecondsOf : GoodIn wsX6_noiseOf wsX3_duckedSecondsOf := goodIn_r _ [96, 27, 34, 10, 35, 36, 37, 19, 20, 21, 22, 68, 69, 70, 24, 71, 50, 46, 47, 48, 49, 72, 73, 74, 38, 5, 39, 111, 112, 113, 114, 115, 116, 117, 118, 105, 106, 107, 108, 109, 110] (by decide +kernel) (by decide +kernel)
set_option maxRecDepth 20000 in
theorem gX6_noiseOf_X3_duckedSecondsOf_n203 : GoodIn wsX6_noiseOf (wsX3_duckedSecondsOf) := ggX6_noiseOf_X3_duckedSecondsOf
theorem dX6_noiseOf_0 : decode cX6_noiseOf 0 = .ok (.aload_n 0, 1) := by decide +kernel
theorem dX6_noiseOf_1 : decode cX6_noiseOf 1 = .ok (.getfield 23, 3) := by decide +kernel
theorem dX6_noiseOf_4 : decode cX6_noiseOf 4 = .ok (.getfield 68, 3) := by decide +kernel
theorem dX6_noiseOf_7 : decode cX6_noiseOf 7 = .ok (.iload_n 1, 1) := by decide +kernel
theorem dX6_noiseOf_8 : decode cX6_noiseOf 8 = .ok (.invokestatic 75, 3) := by decide +kernel
theorem dX6_noiseOf_11 : decode cX6_noiseOf 11 = .ok (.iload_n 2, 1) := by decide +kernel
theorem dX6_noiseOf_12 : decode cX6_noiseOf 12 = .ok (.bipush 6, 2) := by decide +kernel
theorem dX6_noiseOf_14 : decode cX6_noiseOf 14 = .ok (.invokestatic 178, 3) := by decide +kernel
theorem dX6_noiseOf_17 : decode cX6_noiseOf 17 = .ok (.iload_n 2, 1) := by decide +kernel
theorem dX6_noiseOf_18 : decode cX6_noiseOf 18 = .ok (.iconst 3, 1) := by decide +kernel
theorem dX6_noiseOf_19 : decode cX6_noiseOf 19 = .ok (.if_icmp .gt 16, 3) := by decide +kernel
theorem dX6_noiseOf_22 : decode cX6_noiseOf 22 = .ok (.aload_n 0, 1) := by decide +kernel
theorem dX6_noiseOf_23 : decode cX6_noiseOf 23 = .ok (.getfield 23, 3) := by decide +kernel
theorem dX6_noiseOf_26 : decode cX6_noiseOf 26 = .ok (.getfield 68, 3) := by decide +kernel
theorem dX6_noiseOf_29 : decode cX6_noiseOf 29 = .ok (.iload_n 1, 1) := by decide +kernel
theorem dX6_noiseOf_30 : decode cX6_noiseOf 30 = .ok (.iload_n 2, 1) := by decide +kernel
theorem dX6_noiseOf_31 : decode cX6_noiseOf 31 = .ok (.invokevirtual 100, 3) := by decide +kernel
theorem dX6_noiseOf_34 : decode cX6_noiseOf 34 = .ok (.ireturn, 1) := by decide +kernel
theorem dX6_noiseOf_35 : decode cX6_noiseOf 35 = .ok (.aload_n 0, 1) := by decide +kernel
theorem dX6_noiseOf_36 : decode cX6_noiseOf 36 = .ok (.getfield 10, 3) := by decide +kernel
theorem dX6_noiseOf_39 : decode cX6_noiseOf 39 = .ok (.invokevirtual 181, 3) := by decide +kernel
theorem dX6_noiseOf_42 : decode cX6_noiseOf 42 = .ok (.iload_n 2, 1) := by decide +kernel
theorem dX6_noiseOf_43 : decode cX6_noiseOf 43 = .ok (.lookupswitch 43 #[(4, 25), (5, 34)], 25) := by decide +kernel
theorem dX6_noiseOf_68 : decode cX6_noiseOf 68 = .ok (.aload_n 0, 1) := by decide +kernel
theorem dX6_noiseOf_69 : decode cX6_noiseOf 69 = .ok (.getfield 10, 3) := by decide +kernel
theorem dX6_noiseOf_72 : decode cX6_noiseOf 72 = .ok (.iload_n 1, 1) := by decide +kernel
theorem dX6_noiseOf_73 : decode cX6_noiseOf 73 = .ok (.invokevirtual 197, 3) := by decide +kernel
theorem dX6_noiseOf_76 : decode cX6_noiseOf 76 = .ok (.ireturn, 1) := by decide +kernel
theorem dX6_noiseOf_77 : decode cX6_noiseOf 77 = .ok (.aload_n 0, 1) := by decide +kernel
theorem dX6_noiseOf_78 : decode cX6_noiseOf 78 = .ok (.getfield 10, 3) := by decide +kernel
theorem dX6_noiseOf_81 : decode cX6_noiseOf 81 = .ok (.iload_n 1, 1) := by decide +kernel
theorem dX6_noiseOf_82 : decode cX6_noiseOf 82 = .ok (.invokevirtual 200, 3) := by decide +kernel
theorem dX6_noiseOf_85 : decode cX6_noiseOf 85 = .ok (.ireturn, 1) := by decide +kernel
theorem dX6_noiseOf_86 : decode cX6_noiseOf 86 = .ok (.aload_n 0, 1) := by decide +kernel
theorem dX6_noiseOf_87 : decode cX6_noiseOf 87 = .ok (.getfield 10, 3) := by decide +kernel
theorem dX6_noiseOf_90 : decode cX6_noiseOf 90 = .ok (.iload_n 1, 1) := by decide +kernel
theorem dX6_noiseOf_91 : decode cX6_noiseOf 91 = .ok (.invokevirtual 203, 3) := by decide +kernel
theorem dX6_noiseOf_94 : decode cX6_noiseOf 94 = .ok (.ireturn, 1) := by decide +kernel
set_option maxRecDepth 20000 in
theorem ggX6_second_X6_checkWhat : GoodIn wsX6_second wsX6_checkWhat := goodIn_ca (goodIn_r _ [7, 8, 9] (by decide +kernel) (by decide +kernel)) (goodIn_sub (fun _ h => List.mem_cons_of_mem _ (List.mem_append_right _ h)) (by decide +kernel))
set_option maxRecDepth 20000 in
theorem gX6_second_X6_checkWhat : GoodIn wsX6_second (va_wsS RX6 178 yX6_checkWhat wsX6_checkWhat) := goodIn_app (goodIn_of _ (by decide +kernel)) ggX6_second_X6_checkWhat
set_option maxRecDepth 20000 in
theorem ggX6_second_X3_refresh : GoodIn wsX6_second wsX3_refresh := goodIn_r _ [13, 14, 15, 16, 17, 18, 19, 20, 21, 22, 23, 24, 25, 26, 27, 28, 29, 30, 31, 6, 32, 33, 34, 35, 36, 37, 11, 38, 39, 40, 41, 42, 43, 44, 45, 46, 47, 48, 49, 50, 51, 52, 53, 54, 55, 56, 57, 58, 59, 60, 61, 62, 63, 64, 65, 66, 67, 68, 69, 70, 71, 72, 73, 74, 75, 76, 77, 78, 79, 80, 93, 94, 95, 96, 97, 98, 99, 100, 101, 102, 103, 104, 105, 106] (by decide +kernel) (by decide +kernel)
set_option maxRecDepth 20000 in
theorem gX6_second_X3_refresh_n181 : GoodIn wsX6_second (wsX3_refresh) := ggX6_second_X3_refresh
set_option maxRecDepth 20000 in
theorem ggX6_second_X6_entry : GoodIn wsX6_second wsX6_entry := goodIn_r _ [32] (by decide +kernel) (by decide +kernel)
set_option maxRecDepth 20000 in
theorem gX6_second_X6_entry : GoodIn wsX6_second (va_wsS RX6 215 yX6_entry wsX6_entry) := goodIn_app (goodIn_of _ (by decide +kernel)) ggX6_second_X6_entry
set_option maxRecDepth 20000 in
theorem ggX6_second_X3_noiseLevel : GoodIn wsX6_second wsX3_noiseLevel := goodIn_r _ [84, 54, 55, 31, 6, 32, 77, 78, 79, 11, 80, 14, 44, 45, 46, 47, 48, 93, 94, 95, 96, 97, 98, 99, 100, 101, 102, 103] (by decide +kernel) (by decide +kernel)
set_option maxRecDepth 20000 in
theorem gX6_second_X3_noiseLevel_n223 : GoodIn wsX6_second (wsX3_noiseLevel) := ggX6_second_X3_noiseLevel
theorem dX6_second_0 : decode cX6_second 0 = .ok (.iload_n 1, 1) := by decide +kernel
theorem dX6_second_1 : decode cX6_second 1 = .ok (.ifCond .lt 9, 3) := by decide +kernel
theorem dX6_second_4 : decode cX6_second 4 = .ok (.iload_n 1, 1) := by decide +kernel
theorem dX6_second_5 : decode cX6_second 5 = .ok (.bipush 120, 2) := by decide +kernel
theorem dX6_second_7 : decode cX6_second 7 = .ok (.if_icmp .lt 13, 3) := by decide +kernel
theorem dX6_second_10 : decode cX6_second 10 = .ok (.new 206, 3) := by decide +kernel
