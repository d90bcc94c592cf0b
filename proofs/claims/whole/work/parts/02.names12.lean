theorem dX6_checkNumber_0 : decode cX6_checkNumber 0 = .ok (.aload_n 0, 1) := by decide +kernel
theorem dX6_checkNumber_1 : decode cX6_checkNumber 1 = .ok (.iload_n 1, 1) := by decide +kernel
theorem dX6_checkNumber_2 : decode cX6_checkNumber 2 = .ok (.invokevirtual 273, 3) := by decide +kernel
theorem dX6_checkNumber_5 : decode cX6_checkNumber 5 = .ok (.ifCond .ne 14, 3) := by decide +kernel
theorem dX6_checkNumber_8 : decode cX6_checkNumber 8 = .ok (.new 206, 3) := by decide +kernel
theorem dX6_checkNumber_11 : decode cX6_checkNumber 11 = .ok (.dup, 1) := by decide +kernel
theorem dX6_checkNumber_12 : decode cX6_checkNumber 12 = .ok (.ldc_w 276, 3) := by decide +kernel
theorem dX6_checkNumber_15 : decode cX6_checkNumber 15 = .ok (.invokespecial 210, 3) := by decide +kernel
theorem dX6_checkNumber_18 : decode cX6_checkNumber 18 = .ok (.athrow, 1) := by decide +kernel
theorem dX6_checkNumber_19 : decode cX6_checkNumber 19 = .ok (.return_, 1) := by decide +kernel
set_option maxRecDepth 20000 in
theorem ggX6_checkSetting_X6_entry : GoodIn wsX6_checkSetting wsX6_entry := goodIn_r _ [10] (by decide +kernel) (by decide +kernel)
set_option maxRecDepth 20000 in
theorem gX6_checkSetting_X6_entry : GoodIn wsX6_checkSetting (va_wsS RX6 215 yX6_entry wsX6_entry) := goodIn_app (goodIn_of _ (by decide +kernel)) ggX6_checkSetting_X6_entry
theorem dX6_checkSetting_0 : decode cX6_checkSetting 0 = .ok (.iload_n 0, 1) := by decide +kernel
theorem dX6_checkSetting_1 : decode cX6_checkSetting 1 = .ok (.ifCond .lt 8, 3) := by decide +kernel
theorem dX6_checkSetting_4 : decode cX6_checkSetting 4 = .ok (.iload_n 0, 1) := by decide +kernel
theorem dX6_checkSetting_5 : decode cX6_checkSetting 5 = .ok (.iconst 5, 1) := by decide +kernel
theorem dX6_checkSetting_6 : decode cX6_checkSetting 6 = .ok (.if_icmp .lt 14, 3) := by decide +kernel
theorem dX6_checkSetting_9 : decode cX6_checkSetting 9 = .ok (.new 206, 3) := by decide +kernel
theorem dX6_checkSetting_12 : decode cX6_checkSetting 12 = .ok (.dup, 1) := by decide +kernel
theorem dX6_checkSetting_13 : decode cX6_checkSetting 13 = .ok (.ldc_w 278, 3) := by decide +kernel
theorem dX6_checkSetting_16 : decode cX6_checkSetting 16 = .ok (.invokespecial 210, 3) := by decide +kernel
theorem dX6_checkSetting_19 : decode cX6_checkSetting 19 = .ok (.athrow, 1) := by decide +kernel
theorem dX6_checkSetting_20 : decode cX6_checkSetting 20 = .ok (.iload_n 1, 1) := by decide +kernel
theorem dX6_checkSetting_21 : decode cX6_checkSetting 21 = .ok (.getstatic 253, 3) := by decide +kernel
theorem dX6_checkSetting_24 : decode cX6_checkSetting 24 = .ok (.iload_n 0, 1) := by decide +kernel
theorem dX6_checkSetting_25 : decode cX6_checkSetting 25 = .ok (.invokestatic 215, 3) := by decide +kernel
theorem dX6_checkSetting_28 : decode cX6_checkSetting 28 = .ok (.if_icmp .lt 14, 3) := by decide +kernel
theorem dX6_checkSetting_31 : decode cX6_checkSetting 31 = .ok (.iload_n 1, 1) := by decide +kernel
theorem dX6_checkSetting_32 : decode cX6_checkSetting 32 = .ok (.getstatic 256, 3) := by decide +kernel
theorem dX6_checkSetting_35 : decode cX6_checkSetting 35 = .ok (.iload_n 0, 1) := by decide +kernel
theorem dX6_checkSetting_36 : decode cX6_checkSetting 36 = .ok (.invokestatic 215, 3) := by decide +kernel
theorem dX6_checkSetting_39 : decode cX6_checkSetting 39 = .ok (.if_icmp .le 14, 3) := by decide +kernel
theorem dX6_checkSetting_42 : decode cX6_checkSetting 42 = .ok (.new 93, 3) := by decide +kernel
theorem dX6_checkSetting_45 : decode cX6_checkSetting 45 = .ok (.dup, 1) := by decide +kernel
theorem dX6_checkSetting_46 : decode cX6_checkSetting 46 = .ok (.ldc_w 280, 3) := by decide +kernel
theorem dX6_checkSetting_49 : decode cX6_checkSetting 49 = .ok (.invokespecial 97, 3) := by decide +kernel
theorem dX6_checkSetting_52 : decode cX6_checkSetting 52 = .ok (.athrow, 1) := by decide +kernel
theorem dX6_checkSetting_53 : decode cX6_checkSetting 53 = .ok (.return_, 1) := by decide +kernel
theorem dX6_checkWhat_0 : decode cX6_checkWhat 0 = .ok (.iload_n 0, 1) := by decide +kernel
theorem dX6_checkWhat_1 : decode cX6_checkWhat 1 = .ok (.ifCond .lt 8, 3) := by decide +kernel
theorem dX6_checkWhat_4 : decode cX6_checkWhat 4 = .ok (.iload_n 0, 1) := by decide +kernel
theorem dX6_checkWhat_5 : decode cX6_checkWhat 5 = .ok (.iload_n 1, 1) := by decide +kernel
theorem dX6_checkWhat_6 : decode cX6_checkWhat 6 = .ok (.if_icmp .le 14, 3) := by decide +kernel
theorem dX6_checkWhat_9 : decode cX6_checkWhat 9 = .ok (.new 93, 3) := by decide +kernel
theorem dX6_checkWhat_12 : decode cX6_checkWhat 12 = .ok (.dup, 1) := by decide +kernel
theorem dX6_checkWhat_13 : decode cX6_checkWhat 13 = .ok (.ldc_w 282, 3) := by decide +kernel
theorem dX6_checkWhat_16 : decode cX6_checkWhat 16 = .ok (.invokespecial 97, 3) := by decide +kernel
theorem dX6_checkWhat_19 : decode cX6_checkWhat 19 = .ok (.athrow, 1) := by decide +kernel
theorem dX6_checkWhat_20 : decode cX6_checkWhat 20 = .ok (.return_, 1) := by decide +kernel
set_option maxRecDepth 20000 in
theorem ggX6_addCue_X1_isFull : GoodIn wsX6_addCue wsX1_isFull := goodIn_r _ [8, 9, 10, 74, 75, 76] (by decide +kernel) (by decide +kernel)
set_option maxRecDepth 20000 in
theorem gX6_addCue_X1_isFull_n284 : GoodIn wsX6_addCue (wsX1_isFull) := ggX6_addCue_X1_isFull
set_option maxRecDepth 20000 in
theorem ggX6_addCue_X2_push : GoodIn wsX6_addCue wsX2_push := goodIn_r _ [14, 15, 16, 17, 18, 19, 20, 21, 22, 12, 23, 24, 25, 26, 27, 28, 29, 30, 6, 31, 32, 33, 34, 35, 36, 37, 38, 39, 40, 41, 42, 43, 44, 9, 10, 45, 46, 47, 48, 49, 50, 51, 52, 53, 77, 78, 79, 80, 81, 74, 75, 76] (by decide +kernel) (by decide +kernel)
set_option maxRecDepth 20000 in
theorem gX6_addCue_X2_push_n79 : GoodIn wsX6_addCue (wsX2_push) := ggX6_addCue_X2_push
set_option maxRecDepth 20000 in
theorem ggX6_addCue_X1_add : GoodIn wsX6_addCue wsX1_add := goodIn_r _ [56, 9, 57, 58, 59, 6, 60, 44, 61, 52, 62, 74, 75, 76] (by decide +kernel) (by decide +kernel)
set_option maxRecDepth 20000 in
theorem gX6_addCue_X1_add_n287 : GoodIn wsX6_addCue (wsX1_add) := ggX6_addCue_X1_add
set_option maxRecDepth 20000 in
theorem ggX6_addCue_X1_size : GoodIn wsX6_addCue wsX1_size := goodIn_r _ [65, 9, 74, 75, 76] (by decide +kernel) (by decide +kernel)
set_option maxRecDepth 20000 in
theorem gX6_addCue_X1_size_n89 : GoodIn wsX6_addCue (wsX1_size) := ggX6_addCue_X1_size
theorem dX6_addCue_0 : decode cX6_addCue 0 = .ok (.aload_n 1, 1) := by decide +kernel
theorem dX6_addCue_1 : decode cX6_addCue 1 = .ok (.invokevirtual 284, 3) := by decide +kernel
theorem dX6_addCue_4 : decode cX6_addCue 4 = .ok (.ifCond .eq 14, 3) := by decide +kernel
theorem dX6_addCue_7 : decode cX6_addCue 7 = .ok (.new 131, 3) := by decide +kernel
theorem dX6_addCue_10 : decode cX6_addCue 10 = .ok (.dup, 1) := by decide +kernel
theorem dX6_addCue_11 : decode cX6_addCue 11 = .ok (.ldc_w 285, 3) := by decide +kernel
theorem dX6_addCue_14 : decode cX6_addCue 14 = .ok (.invokespecial 135, 3) := by decide +kernel
theorem dX6_addCue_17 : decode cX6_addCue 17 = .ok (.athrow, 1) := by decide +kernel
theorem dX6_addCue_18 : decode cX6_addCue 18 = .ok (.aload_n 0, 1) := by decide +kernel
theorem dX6_addCue_19 : decode cX6_addCue 19 = .ok (.getfield 32, 3) := by decide +kernel
theorem dX6_addCue_22 : decode cX6_addCue 22 = .ok (.aload_n 0, 1) := by decide +kernel
theorem dX6_addCue_23 : decode cX6_addCue 23 = .ok (.getfield 23, 3) := by decide +kernel
theorem dX6_addCue_26 : decode cX6_addCue 26 = .ok (.invokevirtual 79, 3) := by decide +kernel
theorem dX6_addCue_29 : decode cX6_addCue 29 = .ok (.aload_n 1, 1) := by decide +kernel
theorem dX6_addCue_30 : decode cX6_addCue 30 = .ok (.iload_n 2, 1) := by decide +kernel
theorem dX6_addCue_31 : decode cX6_addCue 31 = .ok (.iload_n 3, 1) := by decide +kernel
theorem dX6_addCue_32 : decode cX6_addCue 32 = .ok (.iload 4, 2) := by decide +kernel
theorem dX6_addCue_34 : decode cX6_addCue 34 = .ok (.iload 5, 2) := by decide +kernel
theorem dX6_addCue_36 : decode cX6_addCue 36 = .ok (.invokevirtual 287, 3) := by decide +kernel
theorem dX6_addCue_39 : decode cX6_addCue 39 = .ok (.aload_n 1, 1) := by decide +kernel
theorem dX6_addCue_40 : decode cX6_addCue 40 = .ok (.invokevirtual 89, 3) := by decide +kernel
theorem dX6_addCue_43 : decode cX6_addCue 43 = .ok (.iconst 1, 1) := by decide +kernel
theorem dX6_addCue_44 : decode cX6_addCue 44 = .ok (.isub, 1) := by decide +kernel
theorem dX6_addCue_45 : decode cX6_addCue 45 = .ok (.ireturn, 1) := by decide +kernel
set_option maxRecDepth 20000 in
theorem ggX6_addScriptCues_X0_restart : GoodIn wsX6_addScriptCues wsX0_restart := goodIn_r _ [7, 8, 84, 85, 86] (by decide +kernel) (by decide +kernel)
set_option maxRecDepth 20000 in
theorem gX6_addScriptCues_X0_restart_n290 : GoodIn wsX6_addScriptCues (wsX0_restart) := ggX6_addScriptCues_X0_restart
set_option maxRecDepth 20000 in
theorem ggX6_addScriptCues_X5_size : GoodIn wsX6_addScriptCues wsX5_size := goodIn_r _ [12, 13, 87, 88] (by decide +kernel) (by decide +kernel)
set_option maxRecDepth 20000 in
theorem gX6_addScriptCues_X5_size_n139 : GoodIn wsX6_addScriptCues (wsX5_size) := ggX6_addScriptCues_X5_size
set_option maxRecDepth 20000 in
theorem ggX6_addScriptCues_X5_codeAt : GoodIn wsX6_addScriptCues wsX5_codeAt := goodIn_r _ [16, 13, 17, 18, 19, 20, 87, 88] (by decide +kernel) (by decide +kernel)
set_option maxRecDepth 20000 in
theorem gX6_addScriptCues_X5_codeAt_n161 : GoodIn wsX6_addScriptCues (wsX5_codeAt) := ggX6_addScriptCues_X5_codeAt
set_option maxRecDepth 20000 in
theorem ggX6_addScriptCues_X0_kind : GoodIn wsX6_addScriptCues wsX0_kind := goodIn_r _ [23, 24, 84, 85, 86] (by decide +kernel) (by decide +kernel)
set_option maxRecDepth 20000 in
theorem gX6_addScriptCues_X0_kind_n293 : GoodIn wsX6_addScriptCues (wsX0_kind) := ggX6_addScriptCues_X0_kind
set_option maxRecDepth 20000 in
theorem ggX6_addScriptCues_X4_cuesOf : GoodIn wsX6_addScriptCues wsX4_cuesOf := goodIn_r _ [28, 29, 30, 89, 90, 91] (by decide +kernel) (by decide +kernel)
set_option maxRecDepth 20000 in
theorem gX6_addScriptCues_X4_cuesOf_n71 : GoodIn wsX6_addScriptCues (wsX4_cuesOf) := ggX6_addScriptCues_X4_cuesOf
set_option maxRecDepth 20000 in
theorem ggX6_addScriptCues_X1_isFull : GoodIn wsX6_addScriptCues wsX1_isFull := goodIn_r _ [34, 35, 36, 92, 93, 94] (by decide +kernel) (by decide +kernel)
set_option maxRecDepth 20000 in
theorem gX6_addScriptCues_X1_isFull_n284 : GoodIn wsX6_addScriptCues (wsX1_isFull) := ggX6_addScriptCues_X1_isFull
set_option maxRecDepth 20000 in
theorem ggX6_addScriptCues_X0_numberOf : GoodIn wsX6_addScriptCues wsX0_numberOf := goodIn_r _ [39, 40, 18, 19, 20, 84, 85, 86] (by decide +kernel) (by decide +kernel)
set_option maxRecDepth 20000 in
theorem gX6_addScriptCues_X0_numberOf_n296 : GoodIn wsX6_addScriptCues (wsX0_numberOf) := ggX6_addScriptCues_X0_numberOf
set_option maxRecDepth 20000 in
theorem ggX6_addScriptCues_X1_add : GoodIn wsX6_addScriptCues wsX1_add := goodIn_r _ [43, 35, 44, 45, 46, 32, 47, 48, 49, 19, 50, 92, 93, 94] (by decide +kernel) (by decide +kernel)
set_option maxRecDepth 20000 in
theorem gX6_addScriptCues_X1_add_n287 : GoodIn wsX6_addScriptCues (wsX1_add) := ggX6_addScriptCues_X1_add
set_option maxRecDepth 20000 in
theorem ggX6_addScriptCues_X0_take : GoodIn wsX6_addScriptCues wsX0_take := goodIn_r _ [53, 8, 54, 55, 56, 5, 57, 24, 58, 59, 60, 61, 40, 49, 19, 50, 62, 63, 64, 65, 66, 37, 38, 39, 18, 20, 67, 68, 69, 70, 71, 72, 73, 74, 75, 84, 85, 86] (by decide +kernel) (by decide +kernel)
set_option maxRecDepth 20000 in
theorem gX6_addScriptCues_X0_take_n298 : GoodIn wsX6_addScriptCues (wsX0_take) := ggX6_addScriptCues_X0_take
theorem dX6_addScriptCues_0 : decode cX6_addScriptCues 0 = .ok (.iconst 0, 1) := by decide +kernel
theorem dX6_addScriptCues_1 : decode cX6_addScriptCues 1 = .ok (.istore_n 1, 1) := by decide +kernel
theorem dX6_addScriptCues_2 : decode cX6_addScriptCues 2 = .ok (.aload_n 0, 1) := by decide +kernel
theorem dX6_addScriptCues_3 : decode cX6_addScriptCues 3 = .ok (.getfield 52, 3) := by decide +kernel
theorem dX6_addScriptCues_6 : decode cX6_addScriptCues 6 = .ok (.invokevirtual 290, 3) := by decide +kernel
theorem dX6_addScriptCues_9 : decode cX6_addScriptCues 9 = .ok (.iconst 0, 1) := by decide +kernel
theorem dX6_addScriptCues_10 : decode cX6_addScriptCues 10 = .ok (.istore_n 2, 1) := by decide +kernel
theorem dX6_addScriptCues_11 : decode cX6_addScriptCues 11 = .ok (.iload_n 2, 1) := by decide +kernel
theorem dX6_addScriptCues_12 : decode cX6_addScriptCues 12 = .ok (.aload_n 0, 1) := by decide +kernel
theorem dX6_addScriptCues_13 : decode cX6_addScriptCues 13 = .ok (.getfield 45, 3) := by decide +kernel
theorem dX6_addScriptCues_16 : decode cX6_addScriptCues 16 = .ok (.invokevirtual 139, 3) := by decide +kernel
theorem dX6_addScriptCues_19 : decode cX6_addScriptCues 19 = .ok (.if_icmp .gt 135, 3) := by decide +kernel
theorem dX6_addScriptCues_22 : decode cX6_addScriptCues 22 = .ok (.iload_n 2, 1) := by decide +kernel
theorem dX6_addScriptCues_23 : decode cX6_addScriptCues 23 = .ok (.aload_n 0, 1) := by decide +kernel
theorem dX6_addScriptCues_24 : decode cX6_addScriptCues 24 = .ok (.getfield 45, 3) := by decide +kernel
theorem dX6_addScriptCues_27 : decode cX6_addScriptCues 27 = .ok (.invokevirtual 139, 3) := by decide +kernel
theorem dX6_addScriptCues_30 : decode cX6_addScriptCues 30 = .ok (.if_icmp .eq 16, 3) := by decide +kernel
theorem dX6_addScriptCues_33 : decode cX6_addScriptCues 33 = .ok (.aload_n 0, 1) := by decide +kernel
theorem dX6_addScriptCues_34 : decode cX6_addScriptCues 34 = .ok (.getfield 45, 3) := by decide +kernel
theorem dX6_addScriptCues_37 : decode cX6_addScriptCues 37 = .ok (.iload_n 2, 1) := by decide +kernel
theorem dX6_addScriptCues_38 : decode cX6_addScriptCues 38 = .ok (.invokevirtual 161, 3) := by decide +kernel
theorem dX6_addScriptCues_41 : decode cX6_addScriptCues 41 = .ok (.bipush 59, 2) := by decide +kernel
theorem dX6_addScriptCues_43 : decode cX6_addScriptCues 43 = .ok (.if_icmp .ne 89, 3) := by decide +kernel
theorem dX6_addScriptCues_46 : decode cX6_addScriptCues 46 = .ok (.aload_n 0, 1) := by decide +kernel
theorem dX6_addScriptCues_47 : decode cX6_addScriptCues 47 = .ok (.getfield 23, 3) := by decide +kernel
theorem dX6_addScriptCues_50 : decode cX6_addScriptCues 50 = .ok (.aload_n 0, 1) := by decide +kernel
theorem dX6_addScriptCues_51 : decode cX6_addScriptCues 51 = .ok (.getfield 52, 3) := by decide +kernel
theorem dX6_addScriptCues_54 : decode cX6_addScriptCues 54 = .ok (.invokevirtual 293, 3) := by decide +kernel
theorem dX6_addScriptCues_57 : decode cX6_addScriptCues 57 = .ok (.bipush 119, 2) := by decide +kernel
theorem dX6_addScriptCues_59 : decode cX6_addScriptCues 59 = .ok (.if_icmp .ne 7, 3) := by decide +kernel
theorem dX6_addScriptCues_62 : decode cX6_addScriptCues 62 = .ok (.iconst 1, 1) := by decide +kernel
theorem dX6_addScriptCues_63 : decode cX6_addScriptCues 63 = .ok (.goto 4, 3) := by decide +kernel
theorem dX6_addScriptCues_66 : decode cX6_addScriptCues 66 = .ok (.iconst 0, 1) := by decide +kernel
theorem dX6_addScriptCues_67 : decode cX6_addScriptCues 67 = .ok (.invokevirtual 71, 3) := by decide +kernel
theorem dX6_addScriptCues_70 : decode cX6_addScriptCues 70 = .ok (.astore_n 3, 1) := by decide +kernel
theorem dX6_addScriptCues_71 : decode cX6_addScriptCues 71 = .ok (.aload_n 3, 1) := by decide +kernel
theorem dX6_addScriptCues_72 : decode cX6_addScriptCues 72 = .ok (.invokevirtual 284, 3) := by decide +kernel
theorem dX6_addScriptCues_75 : decode cX6_addScriptCues 75 = .ok (.ifCond .eq 5, 3) := by decide +kernel
theorem dX6_addScriptCues_78 : decode cX6_addScriptCues 78 = .ok (.iload_n 1, 1) := by decide +kernel
theorem dX6_addScriptCues_79 : decode cX6_addScriptCues 79 = .ok (.ireturn, 1) := by decide +kernel
theorem dX6_addScriptCues_80 : decode cX6_addScriptCues 80 = .ok (.aload_n 0, 1) := by decide +kernel
theorem dX6_addScriptCues_81 : decode cX6_addScriptCues 81 = .ok (.getfield 52, 3) := by decide +kernel
theorem dX6_addScriptCues_84 : decode cX6_addScriptCues 84 = .ok (.invokevirtual 293, 3) := by decide +kernel
theorem dX6_addScriptCues_87 : decode cX6_addScriptCues 87 = .ok (.bipush 78, 2) := by decide +kernel
theorem dX6_addScriptCues_89 : decode cX6_addScriptCues 89 = .ok (.if_icmp .ne 7, 3) := by decide +kernel
theorem dX6_addScriptCues_92 : decode cX6_addScriptCues 92 = .ok (.iconst 1, 1) := by decide +kernel
theorem dX6_addScriptCues_93 : decode cX6_addScriptCues 93 = .ok (.goto 4, 3) := by decide +kernel
theorem dX6_addScriptCues_96 : decode cX6_addScriptCues 96 = .ok (.iconst 0, 1) := by decide +kernel
theorem dX6_addScriptCues_97 : decode cX6_addScriptCues 97 = .ok (.istore 4, 2) := by decide +kernel
theorem dX6_addScriptCues_99 : decode cX6_addScriptCues 99 = .ok (.aload_n 3, 1) := by decide +kernel
theorem dX6_addScriptCues_100 : decode cX6_addScriptCues 100 = .ok (.aload_n 0, 1) := by decide +kernel
theorem dX6_addScriptCues_101 : decode cX6_addScriptCues 101 = .ok (.getfield 52, 3) := by decide +kernel
theorem dX6_addScriptCues_104 : decode cX6_addScriptCues 104 = .ok (.iconst 0, 1) := by decide +kernel
theorem dX6_addScriptCues_105 : decode cX6_addScriptCues 105 = .ok (.invokevirtual 296, 3) := by decide +kernel
theorem dX6_addScriptCues_108 : decode cX6_addScriptCues 108 = .ok (.aload_n 0, 1) := by decide +kernel
theorem dX6_addScriptCues_109 : decode cX6_addScriptCues 109 = .ok (.getfield 52, 3) := by decide +kernel
theorem dX6_addScriptCues_112 : decode cX6_addScriptCues 112 = .ok (.iconst 1, 1) := by decide +kernel
theorem dX6_addScriptCues_113 : decode cX6_addScriptCues 113 = .ok (.invokevirtual 296, 3) := by decide +kernel
theorem dX6_addScriptCues_116 : decode cX6_addScriptCues 116 = .ok (.aload_n 0, 1) := by decide +kernel
theorem dX6_addScriptCues_117 : decode cX6_addScriptCues 117 = .ok (.getfield 52, 3) := by decide +kernel
theorem dX6_addScriptCues_120 : decode cX6_addScriptCues 120 = .ok (.iconst 2, 1) := by decide +kernel
theorem dX6_addScriptCues_121 : decode cX6_addScriptCues 121 = .ok (.invokevirtual 296, 3) := by decide +kernel
theorem dX6_addScriptCues_124 : decode cX6_addScriptCues 124 = .ok (.iload 4, 2) := by decide +kernel
theorem dX6_addScriptCues_126 : decode cX6_addScriptCues 126 = .ok (.invokevirtual 287, 3) := by decide +kernel
theorem dX6_addScriptCues_129 : decode cX6_addScriptCues 129 = .ok (.iinc 1 1, 3) := by decide +kernel
theorem dX6_addScriptCues_132 : decode cX6_addScriptCues 132 = .ok (.aload_n 0, 1) := by decide +kernel
theorem dX6_addScriptCues_133 : decode cX6_addScriptCues 133 = .ok (.getfield 52, 3) := by decide +kernel
theorem dX6_addScriptCues_136 : decode cX6_addScriptCues 136 = .ok (.aload_n 0, 1) := by decide +kernel
theorem dX6_addScriptCues_137 : decode cX6_addScriptCues 137 = .ok (.getfield 45, 3) := by decide +kernel
theorem dX6_addScriptCues_140 : decode cX6_addScriptCues 140 = .ok (.iload_n 2, 1) := by decide +kernel
theorem dX6_addScriptCues_141 : decode cX6_addScriptCues 141 = .ok (.invokevirtual 161, 3) := by decide +kernel
theorem dX6_addScriptCues_144 : decode cX6_addScriptCues 144 = .ok (.invokevirtual 298, 3) := by decide +kernel
theorem dX6_addScriptCues_147 : decode cX6_addScriptCues 147 = .ok (.pop, 1) := by decide +kernel
theorem dX6_addScriptCues_148 : decode cX6_addScriptCues 148 = .ok (.iinc 2 1, 3) := by decide +kernel
theorem dX6_addScriptCues_151 : decode cX6_addScriptCues 151 = .ok (.goto (-140), 3) := by decide +kernel
theorem dX6_addScriptCues_154 : decode cX6_addScriptCues 154 = .ok (.iload_n 1, 1) := by decide +kernel
theorem dX6_addScriptCues_155 : decode cX6_addScriptCues 155 = .ok (.ireturn, 1) := by decide +kernel
set_option maxRecDepth 20000 in
theorem ggX6_writeCues_X4_cuesOf : GoodIn wsX6_writeCues wsX4_cuesOf := goodIn_r _ [6, 7, 8, 47, 48, 49] (by decide +kernel) (by decide +kernel)
set_option maxRecDepth 20000 in
theorem gX6_writeCues_X4_cuesOf_n71 : GoodIn wsX6_writeCues (wsX4_cuesOf) := ggX6_writeCues_X4_cuesOf
set_option maxRecDepth 20000 in
theorem ggX6_writeCues_X1_size : GoodIn wsX6_writeCues wsX1_size := goodIn_r _ [12, 13, 50, 51, 52] (by decide +kernel) (by decide +kernel)
set_option maxRecDepth 20000 in
theorem gX6_writeCues_X1_size_n89 : GoodIn wsX6_writeCues (wsX1_size) := ggX6_writeCues_X1_size
set_option maxRecDepth 20000 in
theorem ggX6_writeCues_X1_isHard : GoodIn wsX6_writeCues wsX1_isHard := goodIn_r _ [16, 17, 18, 19, 10, 20, 21, 50, 51, 52] (by decide +kernel) (by decide +kernel)
set_option maxRecDepth 20000 in
theorem gX6_writeCues_X1_isHard_n301 : GoodIn wsX6_writeCues (wsX1_isHard) := ggX6_writeCues_X1_isHard
set_option maxRecDepth 20000 in
theorem ggX6_writeCues_X5_addCue : GoodIn wsX6_writeCues wsX5_addCue := goodIn_r _ [25, 26, 27, 18, 10, 19, 20, 21, 28, 29, 30, 23, 31, 32, 33, 34, 35, 36, 37, 38, 53, 54, 50, 51, 52] (by decide +kernel) (by decide +kernel)
set_option maxRecDepth 20000 in
theorem gX6_writeCues_X5_addCue_n304 : GoodIn wsX6_writeCues (wsX5_addCue) := ggX6_writeCues_X5_addCue
theorem dX6_writeCues_0 : decode cX6_writeCues 0 = .ok (.aload_n 0, 1) := by decide +kernel
theorem dX6_writeCues_1 : decode cX6_writeCues 1 = .ok (.getfield 23, 3) := by decide +kernel
theorem dX6_writeCues_4 : decode cX6_writeCues 4 = .ok (.iload_n 1, 1) := by decide +kernel
theorem dX6_writeCues_5 : decode cX6_writeCues 5 = .ok (.invokevirtual 71, 3) := by decide +kernel
theorem dX6_writeCues_8 : decode cX6_writeCues 8 = .ok (.astore_n 2, 1) := by decide +kernel
theorem dX6_writeCues_9 : decode cX6_writeCues 9 = .ok (.iconst 0, 1) := by decide +kernel
theorem dX6_writeCues_10 : decode cX6_writeCues 10 = .ok (.istore_n 3, 1) := by decide +kernel
theorem dX6_writeCues_11 : decode cX6_writeCues 11 = .ok (.iload_n 3, 1) := by decide +kernel
theorem dX6_writeCues_12 : decode cX6_writeCues 12 = .ok (.aload_n 2, 1) := by decide +kernel
theorem dX6_writeCues_13 : decode cX6_writeCues 13 = .ok (.invokevirtual 89, 3) := by decide +kernel
theorem dX6_writeCues_16 : decode cX6_writeCues 16 = .ok (.if_icmp .ge 51, 3) := by decide +kernel
theorem dX6_writeCues_19 : decode cX6_writeCues 19 = .ok (.iload_n 1, 1) := by decide +kernel
theorem dX6_writeCues_20 : decode cX6_writeCues 20 = .ok (.ifCond .eq 8, 3) := by decide +kernel
theorem dX6_writeCues_23 : decode cX6_writeCues 23 = .ok (.bipush 119, 2) := by decide +kernel
theorem dX6_writeCues_25 : decode cX6_writeCues 25 = .ok (.goto 18, 3) := by decide +kernel
theorem dX6_writeCues_28 : decode cX6_writeCues 28 = .ok (.aload_n 2, 1) := by decide +kernel
theorem dX6_writeCues_29 : decode cX6_writeCues 29 = .ok (.iload_n 3, 1) := by decide +kernel
theorem dX6_writeCues_30 : decode cX6_writeCues 30 = .ok (.invokevirtual 301, 3) := by decide +kernel
theorem dX6_writeCues_33 : decode cX6_writeCues 33 = .ok (.ifCond .eq 8, 3) := by decide +kernel
theorem dX6_writeCues_36 : decode cX6_writeCues 36 = .ok (.bipush 78, 2) := by decide +kernel
theorem dX6_writeCues_38 : decode cX6_writeCues 38 = .ok (.goto 5, 3) := by decide +kernel
theorem dX6_writeCues_41 : decode cX6_writeCues 41 = .ok (.bipush 110, 2) := by decide +kernel
theorem dX6_writeCues_43 : decode cX6_writeCues 43 = .ok (.istore 4, 2) := by decide +kernel
theorem dX6_writeCues_45 : decode cX6_writeCues 45 = .ok (.aload_n 0, 1) := by decide +kernel
theorem dX6_writeCues_46 : decode cX6_writeCues 46 = .ok (.getfield 45, 3) := by decide +kernel
theorem dX6_writeCues_49 : decode cX6_writeCues 49 = .ok (.iload 4, 2) := by decide +kernel
theorem dX6_writeCues_51 : decode cX6_writeCues 51 = .ok (.aload_n 2, 1) := by decide +kernel
theorem dX6_writeCues_52 : decode cX6_writeCues 52 = .ok (.iload_n 3, 1) := by decide +kernel
theorem dX6_writeCues_53 : decode cX6_writeCues 53 = .ok (.invokevirtual 304, 3) := by decide +kernel
theorem dX6_writeCues_56 : decode cX6_writeCues 56 = .ok (.ifCond .ne 5, 3) := by decide +kernel
theorem dX6_writeCues_59 : decode cX6_writeCues 59 = .ok (.iload_n 3, 1) := by decide +kernel
theorem dX6_writeCues_60 : decode cX6_writeCues 60 = .ok (.ireturn, 1) := by decide +kernel
theorem dX6_writeCues_61 : decode cX6_writeCues 61 = .ok (.iinc 3 1, 3) := by decide +kernel
theorem dX6_writeCues_64 : decode cX6_writeCues 64 = .ok (.goto (-53), 3) := by decide +kernel
theorem dX6_writeCues_67 : decode cX6_writeCues 67 = .ok (.aload_n 2, 1) := by decide +kernel
theorem dX6_writeCues_68 : decode cX6_writeCues 68 = .ok (.invokevirtual 89, 3) := by decide +kernel
theorem dX6_writeCues_71 : decode cX6_writeCues 71 = .ok (.ireturn, 1) := by decide +kernel
set_option maxRecDepth 20000 in
theorem ggX6_maskedIfShifted_X1_numberOf : GoodIn wsX6_maskedIfShifted wsX1_numberOf := goodIn_r _ [7, 8, 106, 107, 108] (by decide +kernel) (by decide +kernel)
set_option maxRecDepth 20000 in
theorem gX6_maskedIfShifted_X1_numberOf_n100 : GoodIn wsX6_maskedIfShifted (wsX1_numberOf) := ggX6_maskedIfShifted_X1_numberOf
set_option maxRecDepth 20000 in
theorem ggX6_maskedIfShifted_X6_fitsCue : GoodIn wsX6_maskedIfShifted wsX6_fitsCue := goodIn_r _ [12, 13, 14, 15, 16, 11, 17] (by decide +kernel) (by decide +kernel)
set_option maxRecDepth 20000 in
theorem gX6_maskedIfShifted_X6_fitsCue : GoodIn wsX6_maskedIfShifted (va_wsS RX6 104 yX6_fitsCue wsX6_fitsCue) := goodIn_app (goodIn_of _ (by decide +kernel)) ggX6_maskedIfShifted_X6_fitsCue
set_option maxRecDepth 20000 in
theorem ggX6_maskedIfShifted_X1_change : GoodIn wsX6_maskedIfShifted wsX1_change := goodIn_r _ [20, 8, 21, 11, 22, 106, 107, 108] (by decide +kernel) (by decide +kernel)
set_option maxRecDepth 20000 in
theorem gX6_maskedIfShifted_X1_change_n110 : GoodIn wsX6_maskedIfShifted (wsX1_change) := ggX6_maskedIfShifted_X1_change
set_option maxRecDepth 20000 in
theorem ggX6_maskedIfShifted_X3_refresh : GoodIn wsX6_maskedIfShifted wsX3_refresh := goodIn_r _ [26, 27, 28, 29, 30, 5, 31, 32, 33, 34, 35, 36, 37, 38, 4, 6, 7, 8, 16, 11, 17, 21, 22, 39, 40, 41, 24, 42, 43, 44, 45, 46, 47, 48, 49, 50, 51, 52, 53, 54, 55, 56, 57, 58, 59, 60, 61, 62, 63, 64, 65, 66, 67, 68, 69, 70, 71, 72, 73, 74, 75, 76, 77, 78, 79, 80, 81, 82, 83, 84, 109, 110, 111, 112, 113, 114, 115, 116, 103, 104, 105, 106, 107, 108] (by decide +kernel) (by decide +kernel)
set_option maxRecDepth 20000 in
theorem gX6_maskedIfShifted_X3_refresh_n181 : GoodIn wsX6_maskedIfShifted (wsX3_refresh) := ggX6_maskedIfShifted_X3_refresh
set_option maxRecDepth 20000 in
theorem ggX6_maskedIfShifted_X3_maskedSeconds : GoodIn wsX6_maskedIfShifted wsX3_maskedSeconds := goodIn_r _ [87, 76, 16, 11, 17, 88, 89, 90, 91, 92, 93, 94, 109, 110, 111, 112, 113, 114, 115, 116] (by decide +kernel) (by decide +kernel)
set_option maxRecDepth 20000 in
theorem gX6_maskedIfShifted_X3_maskedSeconds_n241 : GoodIn wsX6_maskedIfShifted (wsX3_maskedSeconds) := ggX6_maskedIfShifted_X3_maskedSeconds
theorem dX6_maskedIfShifted_0 : decode cX6_maskedIfShifted 0 = .ok (.aload_n 0, 1) := by decide +kernel
theorem dX6_maskedIfShifted_1 : decode cX6_maskedIfShifted 1 = .ok (.getfield 23, 3) := by decide +kernel
theorem dX6_maskedIfShifted_4 : decode cX6_maskedIfShifted 4 = .ok (.getfield 68, 3) := by decide +kernel
theorem dX6_maskedIfShifted_7 : decode cX6_maskedIfShifted 7 = .ok (.iload_n 1, 1) := by decide +kernel
theorem dX6_maskedIfShifted_8 : decode cX6_maskedIfShifted 8 = .ok (.iconst 0, 1) := by decide +kernel
theorem dX6_maskedIfShifted_9 : decode cX6_maskedIfShifted 9 = .ok (.invokevirtual 100, 3) := by decide +kernel
theorem dX6_maskedIfShifted_12 : decode cX6_maskedIfShifted 12 = .ok (.iload_n 2, 1) := by decide +kernel
theorem dX6_maskedIfShifted_13 : decode cX6_maskedIfShifted 13 = .ok (.iadd, 1) := by decide +kernel
theorem dX6_maskedIfShifted_14 : decode cX6_maskedIfShifted 14 = .ok (.istore_n 3, 1) := by decide +kernel
theorem dX6_maskedIfShifted_15 : decode cX6_maskedIfShifted 15 = .ok (.iconst 0, 1) := by decide +kernel
theorem dX6_maskedIfShifted_16 : decode cX6_maskedIfShifted 16 = .ok (.iload_n 3, 1) := by decide +kernel
theorem dX6_maskedIfShifted_17 : decode cX6_maskedIfShifted 17 = .ok (.invokestatic 104, 3) := by decide +kernel
theorem dX6_maskedIfShifted_20 : decode cX6_maskedIfShifted 20 = .ok (.ifCond .ne 5, 3) := by decide +kernel
theorem dX6_maskedIfShifted_23 : decode cX6_maskedIfShifted 23 = .ok (.iconst (-1), 1) := by decide +kernel
theorem dX6_maskedIfShifted_24 : decode cX6_maskedIfShifted 24 = .ok (.ireturn, 1) := by decide +kernel
theorem dX6_maskedIfShifted_25 : decode cX6_maskedIfShifted 25 = .ok (.aload_n 0, 1) := by decide +kernel
theorem dX6_maskedIfShifted_26 : decode cX6_maskedIfShifted 26 = .ok (.getfield 26, 3) := by decide +kernel
theorem dX6_maskedIfShifted_29 : decode cX6_maskedIfShifted 29 = .ok (.getfield 68, 3) := by decide +kernel
theorem dX6_maskedIfShifted_32 : decode cX6_maskedIfShifted 32 = .ok (.iload_n 1, 1) := by decide +kernel
theorem dX6_maskedIfShifted_33 : decode cX6_maskedIfShifted 33 = .ok (.iconst 0, 1) := by decide +kernel
theorem dX6_maskedIfShifted_34 : decode cX6_maskedIfShifted 34 = .ok (.iload_n 3, 1) := by decide +kernel
theorem dX6_maskedIfShifted_35 : decode cX6_maskedIfShifted 35 = .ok (.invokevirtual 110, 3) := by decide +kernel
theorem dX6_maskedIfShifted_38 : decode cX6_maskedIfShifted 38 = .ok (.aload_n 0, 1) := by decide +kernel
theorem dX6_maskedIfShifted_39 : decode cX6_maskedIfShifted 39 = .ok (.getfield 16, 3) := by decide +kernel
theorem dX6_maskedIfShifted_42 : decode cX6_maskedIfShifted 42 = .ok (.invokevirtual 181, 3) := by decide +kernel
theorem dX6_maskedIfShifted_45 : decode cX6_maskedIfShifted 45 = .ok (.aload_n 0, 1) := by decide +kernel
theorem dX6_maskedIfShifted_46 : decode cX6_maskedIfShifted 46 = .ok (.getfield 16, 3) := by decide +kernel
theorem dX6_maskedIfShifted_49 : decode cX6_maskedIfShifted 49 = .ok (.invokevirtual 241, 3) := by decide +kernel
theorem dX6_maskedIfShifted_52 : decode cX6_maskedIfShifted 52 = .ok (.ireturn, 1) := by decide +kernel
theorem dX7_init_0 : decode cX7_init 0 = .ok (.aload_n 0, 1) := by decide +kernel
theorem dX7_init_1 : decode cX7_init 1 = .ok (.invokespecial 1, 3) := by decide +kernel
theorem dX7_init_4 : decode cX7_init 4 = .ok (.aload_n 0, 1) := by decide +kernel
theorem dX7_init_5 : decode cX7_init 5 = .ok (.bipush 85, 2) := by decide +kernel
theorem dX7_init_7 : decode cX7_init 7 = .ok (.newarray .int, 2) := by decide +kernel
theorem dX7_init_9 : decode cX7_init 9 = .ok (.putfield 7, 3) := by decide +kernel
theorem dX7_init_12 : decode cX7_init 12 = .ok (.aload_n 0, 1) := by decide +kernel
theorem dX7_init_13 : decode cX7_init 13 = .ok (.sipush 510, 3) := by decide +kernel
theorem dX7_init_16 : decode cX7_init 16 = .ok (.newarray .int, 2) := by decide +kernel
theorem dX7_init_18 : decode cX7_init 18 = .ok (.putfield 13, 3) := by decide +kernel
theorem dX7_init_21 : decode cX7_init 21 = .ok (.aload_n 0, 1) := by decide +kernel
theorem dX7_init_22 : decode cX7_init 22 = .ok (.sipush 170, 3) := by decide +kernel
theorem dX7_init_25 : decode cX7_init 25 = .ok (.newarray .int, 2) := by decide +kernel
theorem dX7_init_27 : decode cX7_init 27 = .ok (.putfield 16, 3) := by decide +kernel
theorem dX7_init_30 : decode cX7_init 30 = .ok (.aload_n 0, 1) := by decide +kernel
theorem dX7_init_31 : decode cX7_init 31 = .ok (.iconst 2, 1) := by decide +kernel
theorem dX7_init_32 : decode cX7_init 32 = .ok (.newarray .boolean, 2) := by decide +kernel
theorem dX7_init_34 : decode cX7_init 34 = .ok (.putfield 19, 3) := by decide +kernel
theorem dX7_init_37 : decode cX7_init 37 = .ok (.aload_n 0, 1) := by decide +kernel
theorem dX7_init_38 : decode cX7_init 38 = .ok (.bipush 80, 2) := by decide +kernel
theorem dX7_init_40 : decode cX7_init 40 = .ok (.newarray .int, 2) := by decide +kernel
theorem dX7_init_42 : decode cX7_init 42 = .ok (.putfield 23, 3) := by decide +kernel
theorem dX7_init_45 : decode cX7_init 45 = .ok (.aload_n 0, 1) := by decide +kernel
theorem dX7_init_46 : decode cX7_init 46 = .ok (.bipush 120, 2) := by decide +kernel
theorem dX7_init_48 : decode cX7_init 48 = .ok (.newarray .int, 2) := by decide +kernel
theorem dX7_init_50 : decode cX7_init 50 = .ok (.putfield 26, 3) := by decide +kernel
theorem dX7_init_53 : decode cX7_init 53 = .ok (.aload_n 0, 1) := by decide +kernel
theorem dX7_init_54 : decode cX7_init 54 = .ok (.bipush 120, 2) := by decide +kernel
theorem dX7_init_56 : decode cX7_init 56 = .ok (.newarray .int, 2) := by decide +kernel
theorem dX7_init_58 : decode cX7_init 58 = .ok (.putfield 29, 3) := by decide +kernel
theorem dX7_init_61 : decode cX7_init 61 = .ok (.aload_n 0, 1) := by decide +kernel
theorem dX7_init_62 : decode cX7_init 62 = .ok (.iconst 3, 1) := by decide +kernel
theorem dX7_init_63 : decode cX7_init 63 = .ok (.newarray .int, 2) := by decide +kernel
theorem dX7_init_65 : decode cX7_init 65 = .ok (.putfield 32, 3) := by decide +kernel
theorem dX7_init_68 : decode cX7_init 68 = .ok (.aload_n 0, 1) := by decide +kernel
theorem dX7_init_69 : decode cX7_init 69 = .ok (.getfield 7, 3) := by decide +kernel
theorem dX7_init_72 : decode cX7_init 72 = .ok (.iconst 0, 1) := by decide +kernel
theorem dX7_init_73 : decode cX7_init 73 = .ok (.bipush 6, 2) := by decide +kernel
theorem dX7_init_75 : decode cX7_init 75 = .ok (.iastore, 1) := by decide +kernel
theorem dX7_init_76 : decode cX7_init 76 = .ok (.aload_n 0, 1) := by decide +kernel
theorem dX7_init_77 : decode cX7_init 77 = .ok (.getfield 7, 3) := by decide +kernel
theorem dX7_init_80 : decode cX7_init 80 = .ok (.iconst 1, 1) := by decide +kernel
theorem dX7_init_81 : decode cX7_init 81 = .ok (.iconst 2, 1) := by decide +kernel
theorem dX7_init_82 : decode cX7_init 82 = .ok (.iastore, 1) := by decide +kernel
theorem dX7_init_83 : decode cX7_init 83 = .ok (.aload_n 0, 1) := by decide +kernel
theorem dX7_init_84 : decode cX7_init 84 = .ok (.getfield 7, 3) := by decide +kernel
theorem dX7_init_87 : decode cX7_init 87 = .ok (.iconst 2, 1) := by decide +kernel
theorem dX7_init_88 : decode cX7_init 88 = .ok (.iconst 1, 1) := by decide +kernel
theorem dX7_init_89 : decode cX7_init 89 = .ok (.iastore, 1) := by decide +kernel
theorem dX7_init_90 : decode cX7_init 90 = .ok (.aload_n 0, 1) := by decide +kernel
theorem dX7_init_91 : decode cX7_init 91 = .ok (.getfield 7, 3) := by decide +kernel
theorem dX7_init_94 : decode cX7_init 94 = .ok (.iconst 3, 1) := by decide +kernel
theorem dX7_init_95 : decode cX7_init 95 = .ok (.iconst 2, 1) := by decide +kernel
theorem dX7_init_96 : decode cX7_init 96 = .ok (.iastore, 1) := by decide +kernel
theorem dX7_init_97 : decode cX7_init 97 = .ok (.return_, 1) := by decide +kernel
theorem dX7_thrown_0 : decode cX7_thrown 0 = .ok (.aload_n 0, 1) := by decide +kernel
theorem dX7_thrown_1 : decode cX7_thrown 1 = .ok (.getfield 35, 3) := by decide +kernel
theorem dX7_thrown_4 : decode cX7_thrown 4 = .ok (.ireturn, 1) := by decide +kernel
theorem dX7_holds_0 : decode cX7_holds 0 = .ok (.aload_n 0, 1) := by decide +kernel
theorem dX7_holds_1 : decode cX7_holds 1 = .ok (.iload_n 1, 1) := by decide +kernel
theorem dX7_holds_2 : decode cX7_holds 2 = .ok (.putfield 35, 3) := by decide +kernel
theorem dX7_holds_5 : decode cX7_holds 5 = .ok (.iload_n 1, 1) := by decide +kernel
theorem dX7_holds_6 : decode cX7_holds 6 = .ok (.ifCond .ne 7, 3) := by decide +kernel
theorem dX7_holds_9 : decode cX7_holds 9 = .ok (.iconst 1, 1) := by decide +kernel
theorem dX7_holds_10 : decode cX7_holds 10 = .ok (.goto 4, 3) := by decide +kernel
theorem dX7_holds_13 : decode cX7_holds 13 = .ok (.iconst 0, 1) := by decide +kernel
theorem dX7_holds_14 : decode cX7_holds 14 = .ok (.ireturn, 1) := by decide +kernel
theorem dX7_in_0 : decode cX7_in 0 = .ok (.iload_n 0, 1) := by decide +kernel
theorem dX7_in_1 : decode cX7_in 1 = .ok (.iload_n 1, 1) := by decide +kernel
theorem dX7_in_2 : decode cX7_in 2 = .ok (.if_icmp .lt 12, 3) := by decide +kernel
theorem dX7_in_5 : decode cX7_in 5 = .ok (.iload_n 0, 1) := by decide +kernel
theorem dX7_in_6 : decode cX7_in 6 = .ok (.iload_n 2, 1) := by decide +kernel
theorem dX7_in_7 : decode cX7_in 7 = .ok (.if_icmp .gt 7, 3) := by decide +kernel
theorem dX7_in_10 : decode cX7_in 10 = .ok (.iconst 1, 1) := by decide +kernel
theorem dX7_in_11 : decode cX7_in 11 = .ok (.goto 4, 3) := by decide +kernel
theorem dX7_in_14 : decode cX7_in 14 = .ok (.iconst 0, 1) := by decide +kernel
theorem dX7_in_15 : decode cX7_in 15 = .ok (.ireturn, 1) := by decide +kernel
theorem dX7_has_0 : decode cX7_has 0 = .ok (.iload_n 0, 1) := by decide +kernel
theorem dX7_has_1 : decode cX7_has 1 = .ok (.iload_n 1, 1) := by decide +kernel
theorem dX7_has_2 : decode cX7_has 2 = .ok (.ishr, 1) := by decide +kernel
theorem dX7_has_3 : decode cX7_has 3 = .ok (.iconst 1, 1) := by decide +kernel
theorem dX7_has_4 : decode cX7_has 4 = .ok (.iand, 1) := by decide +kernel
theorem dX7_has_5 : decode cX7_has 5 = .ok (.iconst 1, 1) := by decide +kernel
theorem dX7_has_6 : decode cX7_has 6 = .ok (.if_icmp .ne 7, 3) := by decide +kernel
theorem dX7_has_9 : decode cX7_has 9 = .ok (.iconst 1, 1) := by decide +kernel
theorem dX7_has_10 : decode cX7_has 10 = .ok (.goto 4, 3) := by decide +kernel
theorem dX7_has_13 : decode cX7_has 13 = .ok (.iconst 0, 1) := by decide +kernel
theorem dX7_has_14 : decode cX7_has 14 = .ok (.ireturn, 1) := by decide +kernel
theorem dX7_bits_0 : decode cX7_bits 0 = .ok (.iconst 0, 1) := by decide +kernel
theorem dX7_bits_1 : decode cX7_bits 1 = .ok (.istore_n 1, 1) := by decide +kernel
theorem dX7_bits_2 : decode cX7_bits 2 = .ok (.iload_n 0, 1) := by decide +kernel
theorem dX7_bits_3 : decode cX7_bits 3 = .ok (.istore_n 2, 1) := by decide +kernel
theorem dX7_bits_4 : decode cX7_bits 4 = .ok (.iload_n 2, 1) := by decide +kernel
theorem dX7_bits_5 : decode cX7_bits 5 = .ok (.ifCond .eq 15, 3) := by decide +kernel
theorem dX7_bits_8 : decode cX7_bits 8 = .ok (.iinc 1 1, 3) := by decide +kernel
theorem dX7_bits_11 : decode cX7_bits 11 = .ok (.iload_n 2, 1) := by decide +kernel
theorem dX7_bits_12 : decode cX7_bits 12 = .ok (.iload_n 2, 1) := by decide +kernel
theorem dX7_bits_13 : decode cX7_bits 13 = .ok (.iconst 1, 1) := by decide +kernel
theorem dX7_bits_14 : decode cX7_bits 14 = .ok (.isub, 1) := by decide +kernel
theorem dX7_bits_15 : decode cX7_bits 15 = .ok (.iand, 1) := by decide +kernel
theorem dX7_bits_16 : decode cX7_bits 16 = .ok (.istore_n 2, 1) := by decide +kernel
theorem dX7_bits_17 : decode cX7_bits 17 = .ok (.goto (-13), 3) := by decide +kernel
theorem dX7_bits_20 : decode cX7_bits 20 = .ok (.iload_n 1, 1) := by decide +kernel
theorem dX7_bits_21 : decode cX7_bits 21 = .ok (.ireturn, 1) := by decide +kernel
set_option maxRecDepth 20000 in
theorem ggX7_isSlot_X7_in : GoodIn wsX7_isSlot wsX7_in := goodIn_r _ [4] (by decide +kernel) (by decide +kernel)
set_option maxRecDepth 20000 in
theorem gX7_isSlot_X7_in : GoodIn wsX7_isSlot (va_wsS RX7 39 yX7_in wsX7_in) := goodIn_app (goodIn_of _ (by decide +kernel)) ggX7_isSlot_X7_in
theorem dX7_isSlot_0 : decode cX7_isSlot 0 = .ok (.iload_n 0, 1) := by decide +kernel
theorem dX7_isSlot_1 : decode cX7_isSlot 1 = .ok (.iconst 0, 1) := by decide +kernel
theorem dX7_isSlot_2 : decode cX7_isSlot 2 = .ok (.iconst 1, 1) := by decide +kernel
theorem dX7_isSlot_3 : decode cX7_isSlot 3 = .ok (.invokestatic 39, 3) := by decide +kernel
theorem dX7_isSlot_6 : decode cX7_isSlot 6 = .ok (.ireturn, 1) := by decide +kernel
set_option maxRecDepth 20000 in
theorem ggX7_isCue_X7_in : GoodIn wsX7_isCue wsX7_in := goodIn_r _ [5] (by decide +kernel) (by decide +kernel)
set_option maxRecDepth 20000 in
theorem gX7_isCue_X7_in : GoodIn wsX7_isCue (va_wsS RX7 39 yX7_in wsX7_in) := goodIn_app (goodIn_of _ (by decide +kernel)) ggX7_isCue_X7_in
theorem dX7_isCue_0 : decode cX7_isCue 0 = .ok (.iload_n 2, 1) := by decide +kernel
theorem dX7_isCue_1 : decode cX7_isCue 1 = .ok (.iconst 0, 1) := by decide +kernel
theorem dX7_isCue_2 : decode cX7_isCue 2 = .ok (.iload_n 1, 1) := by decide +kernel
theorem dX7_isCue_3 : decode cX7_isCue 3 = .ok (.ifCond .eq 12, 3) := by decide +kernel
theorem dX7_isCue_6 : decode cX7_isCue 6 = .ok (.aload_n 0, 1) := by decide +kernel
theorem dX7_isCue_7 : decode cX7_isCue 7 = .ok (.getfield 7, 3) := by decide +kernel
theorem dX7_isCue_10 : decode cX7_isCue 10 = .ok (.iconst 5, 1) := by decide +kernel
theorem dX7_isCue_11 : decode cX7_isCue 11 = .ok (.iaload, 1) := by decide +kernel
theorem dX7_isCue_12 : decode cX7_isCue 12 = .ok (.goto 10, 3) := by decide +kernel
theorem dX7_isCue_15 : decode cX7_isCue 15 = .ok (.aload_n 0, 1) := by decide +kernel
theorem dX7_isCue_16 : decode cX7_isCue 16 = .ok (.getfield 7, 3) := by decide +kernel
theorem dX7_isCue_19 : decode cX7_isCue 19 = .ok (.bipush 6, 2) := by decide +kernel
theorem dX7_isCue_21 : decode cX7_isCue 21 = .ok (.iaload, 1) := by decide +kernel
theorem dX7_isCue_22 : decode cX7_isCue 22 = .ok (.iconst 1, 1) := by decide +kernel
theorem dX7_isCue_23 : decode cX7_isCue 23 = .ok (.isub, 1) := by decide +kernel
theorem dX7_isCue_24 : decode cX7_isCue 24 = .ok (.invokestatic 39, 3) := by decide +kernel
theorem dX7_isCue_27 : decode cX7_isCue 27 = .ok (.ireturn, 1) := by decide +kernel
theorem dX7_whereIs_0 : decode cX7_whereIs 0 = .ok (.iload_n 0, 1) := by decide +kernel
theorem dX7_whereIs_1 : decode cX7_whereIs 1 = .ok (.ifCond .eq 12, 3) := by decide +kernel
theorem dX7_whereIs_4 : decode cX7_whereIs 4 = .ok (.bipush 7, 2) := by decide +kernel
theorem dX7_whereIs_6 : decode cX7_whereIs 6 = .ok (.iconst 3, 1) := by decide +kernel
theorem dX7_whereIs_7 : decode cX7_whereIs 7 = .ok (.iload_n 1, 1) := by decide +kernel
theorem dX7_whereIs_8 : decode cX7_whereIs 8 = .ok (.imul, 1) := by decide +kernel
theorem dX7_whereIs_9 : decode cX7_whereIs 9 = .ok (.iadd, 1) := by decide +kernel
theorem dX7_whereIs_10 : decode cX7_whereIs 10 = .ok (.goto 9, 3) := by decide +kernel
theorem dX7_whereIs_13 : decode cX7_whereIs 13 = .ok (.bipush 37, 2) := by decide +kernel
theorem dX7_whereIs_15 : decode cX7_whereIs 15 = .ok (.iconst 4, 1) := by decide +kernel
theorem dX7_whereIs_16 : decode cX7_whereIs 16 = .ok (.iload_n 1, 1) := by decide +kernel
theorem dX7_whereIs_17 : decode cX7_whereIs 17 = .ok (.imul, 1) := by decide +kernel
theorem dX7_whereIs_18 : decode cX7_whereIs 18 = .ok (.iadd, 1) := by decide +kernel
theorem dX7_whereIs_19 : decode cX7_whereIs 19 = .ok (.ireturn, 1) := by decide +kernel
theorem dX7_ofWord_0 : decode cX7_ofWord 0 = .ok (.aload_n 0, 1) := by decide +kernel
theorem dX7_ofWord_1 : decode cX7_ofWord 1 = .ok (.getfield 7, 3) := by decide +kernel
theorem dX7_ofWord_4 : decode cX7_ofWord 4 = .ok (.bipush 7, 2) := by decide +kernel
theorem dX7_ofWord_6 : decode cX7_ofWord 6 = .ok (.iconst 3, 1) := by decide +kernel
theorem dX7_ofWord_7 : decode cX7_ofWord 7 = .ok (.iload_n 1, 1) := by decide +kernel
theorem dX7_ofWord_8 : decode cX7_ofWord 8 = .ok (.imul, 1) := by decide +kernel
theorem dX7_ofWord_9 : decode cX7_ofWord 9 = .ok (.iadd, 1) := by decide +kernel
theorem dX7_ofWord_10 : decode cX7_ofWord 10 = .ok (.iload_n 2, 1) := by decide +kernel
theorem dX7_ofWord_11 : decode cX7_ofWord 11 = .ok (.iadd, 1) := by decide +kernel
theorem dX7_ofWord_12 : decode cX7_ofWord 12 = .ok (.iaload, 1) := by decide +kernel
theorem dX7_ofWord_13 : decode cX7_ofWord 13 = .ok (.ireturn, 1) := by decide +kernel
theorem dX7_ofNoise_0 : decode cX7_ofNoise 0 = .ok (.aload_n 0, 1) := by decide +kernel
theorem dX7_ofNoise_1 : decode cX7_ofNoise 1 = .ok (.getfield 7, 3) := by decide +kernel
theorem dX7_ofNoise_4 : decode cX7_ofNoise 4 = .ok (.bipush 37, 2) := by decide +kernel
theorem dX7_ofNoise_6 : decode cX7_ofNoise 6 = .ok (.iconst 4, 1) := by decide +kernel
theorem dX7_ofNoise_7 : decode cX7_ofNoise 7 = .ok (.iload_n 1, 1) := by decide +kernel
theorem dX7_ofNoise_8 : decode cX7_ofNoise 8 = .ok (.imul, 1) := by decide +kernel
theorem dX7_ofNoise_9 : decode cX7_ofNoise 9 = .ok (.iadd, 1) := by decide +kernel
theorem dX7_ofNoise_10 : decode cX7_ofNoise 10 = .ok (.iload_n 2, 1) := by decide +kernel
theorem dX7_ofNoise_11 : decode cX7_ofNoise 11 = .ok (.iadd, 1) := by decide +kernel
theorem dX7_ofNoise_12 : decode cX7_ofNoise 12 = .ok (.iaload, 1) := by decide +kernel
theorem dX7_ofNoise_13 : decode cX7_ofNoise 13 = .ok (.ireturn, 1) := by decide +kernel
set_option maxRecDepth 20000 in
theorem ggX7_soundsAt_X7_whereIs : GoodIn wsX7_soundsAt wsX7_whereIs := goodIn_r _ [5] (by decide +kernel) (by decide +kernel)
set_option maxRecDepth 20000 in
theorem gX7_soundsAt_X7_whereIs : GoodIn wsX7_soundsAt (va_wsS RX7 43 yX7_whereIs wsX7_whereIs) := goodIn_app (goodIn_of _ (by decide +kernel)) ggX7_soundsAt_X7_whereIs
set_option maxRecDepth 20000 in
theorem ggX7_soundsAt_X7_in : GoodIn wsX7_soundsAt wsX7_in := goodIn_r _ [8] (by decide +kernel) (by decide +kernel)
set_option maxRecDepth 20000 in
theorem gX7_soundsAt_X7_in : GoodIn wsX7_soundsAt (va_wsS RX7 39 yX7_in wsX7_in) := goodIn_app (goodIn_of _ (by decide +kernel)) ggX7_soundsAt_X7_in
theorem dX7_soundsAt_0 : decode cX7_soundsAt 0 = .ok (.iload_n 1, 1) := by decide +kernel
theorem dX7_soundsAt_1 : decode cX7_soundsAt 1 = .ok (.iload_n 2, 1) := by decide +kernel
theorem dX7_soundsAt_2 : decode cX7_soundsAt 2 = .ok (.invokestatic 43, 3) := by decide +kernel
theorem dX7_soundsAt_5 : decode cX7_soundsAt 5 = .ok (.istore 4, 2) := by decide +kernel
theorem dX7_soundsAt_7 : decode cX7_soundsAt 7 = .ok (.iload_n 3, 1) := by decide +kernel
theorem dX7_soundsAt_8 : decode cX7_soundsAt 8 = .ok (.aload_n 0, 1) := by decide +kernel
theorem dX7_soundsAt_9 : decode cX7_soundsAt 9 = .ok (.getfield 7, 3) := by decide +kernel
theorem dX7_soundsAt_12 : decode cX7_soundsAt 12 = .ok (.iload 4, 2) := by decide +kernel
theorem dX7_soundsAt_14 : decode cX7_soundsAt 14 = .ok (.iconst 0, 1) := by decide +kernel
theorem dX7_soundsAt_15 : decode cX7_soundsAt 15 = .ok (.iadd, 1) := by decide +kernel
theorem dX7_soundsAt_16 : decode cX7_soundsAt 16 = .ok (.iaload, 1) := by decide +kernel
theorem dX7_soundsAt_17 : decode cX7_soundsAt 17 = .ok (.aload_n 0, 1) := by decide +kernel
theorem dX7_soundsAt_18 : decode cX7_soundsAt 18 = .ok (.getfield 7, 3) := by decide +kernel
theorem dX7_soundsAt_21 : decode cX7_soundsAt 21 = .ok (.iload 4, 2) := by decide +kernel
theorem dX7_soundsAt_23 : decode cX7_soundsAt 23 = .ok (.iconst 0, 1) := by decide +kernel
theorem dX7_soundsAt_24 : decode cX7_soundsAt 24 = .ok (.iadd, 1) := by decide +kernel
theorem dX7_soundsAt_25 : decode cX7_soundsAt 25 = .ok (.iaload, 1) := by decide +kernel
theorem dX7_soundsAt_26 : decode cX7_soundsAt 26 = .ok (.aload_n 0, 1) := by decide +kernel
theorem dX7_soundsAt_27 : decode cX7_soundsAt 27 = .ok (.getfield 7, 3) := by decide +kernel
theorem dX7_soundsAt_30 : decode cX7_soundsAt 30 = .ok (.iload 4, 2) := by decide +kernel
theorem dX7_soundsAt_32 : decode cX7_soundsAt 32 = .ok (.iconst 1, 1) := by decide +kernel
theorem dX7_soundsAt_33 : decode cX7_soundsAt 33 = .ok (.iadd, 1) := by decide +kernel
theorem dX7_soundsAt_34 : decode cX7_soundsAt 34 = .ok (.iaload, 1) := by decide +kernel
theorem dX7_soundsAt_35 : decode cX7_soundsAt 35 = .ok (.iadd, 1) := by decide +kernel
theorem dX7_soundsAt_36 : decode cX7_soundsAt 36 = .ok (.iconst 1, 1) := by decide +kernel
theorem dX7_soundsAt_37 : decode cX7_soundsAt 37 = .ok (.isub, 1) := by decide +kernel
theorem dX7_soundsAt_38 : decode cX7_soundsAt 38 = .ok (.invokestatic 39, 3) := by decide +kernel
theorem dX7_soundsAt_41 : decode cX7_soundsAt 41 = .ok (.ireturn, 1) := by decide +kernel
theorem dX7_copy_0 : decode cX7_copy 0 = .ok (.iconst 0, 1) := by decide +kernel
theorem dX7_copy_1 : decode cX7_copy 1 = .ok (.istore 4, 2) := by decide +kernel
theorem dX7_copy_3 : decode cX7_copy 3 = .ok (.iload 4, 2) := by decide +kernel
theorem dX7_copy_5 : decode cX7_copy 5 = .ok (.bipush 85, 2) := by decide +kernel
theorem dX7_copy_7 : decode cX7_copy 7 = .ok (.if_icmp .ge 21, 3) := by decide +kernel
theorem dX7_copy_10 : decode cX7_copy 10 = .ok (.aload_n 2, 1) := by decide +kernel
theorem dX7_copy_11 : decode cX7_copy 11 = .ok (.iload_n 3, 1) := by decide +kernel
theorem dX7_copy_12 : decode cX7_copy 12 = .ok (.iload 4, 2) := by decide +kernel
theorem dX7_copy_14 : decode cX7_copy 14 = .ok (.iadd, 1) := by decide +kernel
theorem dX7_copy_15 : decode cX7_copy 15 = .ok (.aload_n 0, 1) := by decide +kernel
theorem dX7_copy_16 : decode cX7_copy 16 = .ok (.iload_n 1, 1) := by decide +kernel
theorem dX7_copy_17 : decode cX7_copy 17 = .ok (.iload 4, 2) := by decide +kernel
theorem dX7_copy_19 : decode cX7_copy 19 = .ok (.iadd, 1) := by decide +kernel
theorem dX7_copy_20 : decode cX7_copy 20 = .ok (.iaload, 1) := by decide +kernel
theorem dX7_copy_21 : decode cX7_copy 21 = .ok (.iastore, 1) := by decide +kernel
theorem dX7_copy_22 : decode cX7_copy 22 = .ok (.iinc 4 1, 3) := by decide +kernel
theorem dX7_copy_25 : decode cX7_copy 25 = .ok (.goto (-22), 3) := by decide +kernel
theorem dX7_copy_28 : decode cX7_copy 28 = .ok (.return_, 1) := by decide +kernel
set_option maxRecDepth 20000 in
theorem ggX7_save_X7_copy : GoodIn wsX7_save wsX7_copy := goodIn_r _ [7] (by decide +kernel) (by decide +kernel)
set_option maxRecDepth 20000 in
theorem gX7_save_X7_copy : GoodIn wsX7_save (va_wsS RX7 50 yX7_copy wsX7_copy) := goodIn_app (goodIn_of _ (by decide +kernel)) ggX7_save_X7_copy
theorem dX7_save_0 : decode cX7_save 0 = .ok (.aload_n 0, 1) := by decide +kernel
theorem dX7_save_1 : decode cX7_save 1 = .ok (.getfield 47, 3) := by decide +kernel
theorem dX7_save_4 : decode cX7_save 4 = .ok (.bipush 6, 2) := by decide +kernel
theorem dX7_save_6 : decode cX7_save 6 = .ok (.if_icmp .ne 43, 3) := by decide +kernel
theorem dX7_save_9 : decode cX7_save 9 = .ok (.iconst 0, 1) := by decide +kernel
theorem dX7_save_10 : decode cX7_save 10 = .ok (.istore_n 1, 1) := by decide +kernel
theorem dX7_save_11 : decode cX7_save 11 = .ok (.iload_n 1, 1) := by decide +kernel
theorem dX7_save_12 : decode cX7_save 12 = .ok (.sipush 425, 3) := by decide +kernel
theorem dX7_save_15 : decode cX7_save 15 = .ok (.if_icmp .ge 24, 3) := by decide +kernel
theorem dX7_save_18 : decode cX7_save 18 = .ok (.aload_n 0, 1) := by decide +kernel
theorem dX7_save_19 : decode cX7_save 19 = .ok (.getfield 13, 3) := by decide +kernel
theorem dX7_save_22 : decode cX7_save 22 = .ok (.iload_n 1, 1) := by decide +kernel
theorem dX7_save_23 : decode cX7_save 23 = .ok (.aload_n 0, 1) := by decide +kernel
theorem dX7_save_24 : decode cX7_save 24 = .ok (.getfield 13, 3) := by decide +kernel
theorem dX7_save_27 : decode cX7_save 27 = .ok (.bipush 85, 2) := by decide +kernel
theorem dX7_save_29 : decode cX7_save 29 = .ok (.iload_n 1, 1) := by decide +kernel
theorem dX7_save_30 : decode cX7_save 30 = .ok (.iadd, 1) := by decide +kernel
theorem dX7_save_31 : decode cX7_save 31 = .ok (.iaload, 1) := by decide +kernel
theorem dX7_save_32 : decode cX7_save 32 = .ok (.iastore, 1) := by decide +kernel
theorem dX7_save_33 : decode cX7_save 33 = .ok (.iinc 1 1, 3) := by decide +kernel
theorem dX7_save_36 : decode cX7_save 36 = .ok (.goto (-25), 3) := by decide +kernel
theorem dX7_save_39 : decode cX7_save 39 = .ok (.aload_n 0, 1) := by decide +kernel
theorem dX7_save_40 : decode cX7_save 40 = .ok (.dup, 1) := by decide +kernel
theorem dX7_save_41 : decode cX7_save 41 = .ok (.getfield 47, 3) := by decide +kernel
theorem dX7_save_44 : decode cX7_save 44 = .ok (.iconst 1, 1) := by decide +kernel
theorem dX7_save_45 : decode cX7_save 45 = .ok (.isub, 1) := by decide +kernel
theorem dX7_save_46 : decode cX7_save 46 = .ok (.putfield 47, 3) := by decide +kernel
theorem dX7_save_49 : decode cX7_save 49 = .ok (.aload_n 0, 1) := by decide +kernel
theorem dX7_save_50 : decode cX7_save 50 = .ok (.getfield 7, 3) := by decide +kernel
theorem dX7_save_53 : decode cX7_save 53 = .ok (.iconst 0, 1) := by decide +kernel
theorem dX7_save_54 : decode cX7_save 54 = .ok (.aload_n 0, 1) := by decide +kernel
theorem dX7_save_55 : decode cX7_save 55 = .ok (.getfield 13, 3) := by decide +kernel
theorem dX7_save_58 : decode cX7_save 58 = .ok (.bipush 85, 2) := by decide +kernel
theorem dX7_save_60 : decode cX7_save 60 = .ok (.aload_n 0, 1) := by decide +kernel
theorem dX7_save_61 : decode cX7_save 61 = .ok (.getfield 47, 3) := by decide +kernel
theorem dX7_save_64 : decode cX7_save 64 = .ok (.imul, 1) := by decide +kernel
theorem dX7_save_65 : decode cX7_save 65 = .ok (.invokestatic 50, 3) := by decide +kernel
theorem dX7_save_68 : decode cX7_save 68 = .ok (.aload_n 0, 1) := by decide +kernel
theorem dX7_save_69 : decode cX7_save 69 = .ok (.dup, 1) := by decide +kernel
theorem dX7_save_70 : decode cX7_save 70 = .ok (.getfield 47, 3) := by decide +kernel
theorem dX7_save_73 : decode cX7_save 73 = .ok (.iconst 1, 1) := by decide +kernel
theorem dX7_save_74 : decode cX7_save 74 = .ok (.iadd, 1) := by decide +kernel
theorem dX7_save_75 : decode cX7_save 75 = .ok (.putfield 47, 3) := by decide +kernel
theorem dX7_save_78 : decode cX7_save 78 = .ok (.return_, 1) := by decide +kernel
set_option maxRecDepth 20000 in
theorem ggX7_wordsAt_X7_soundsAt : GoodIn wsX7_wordsAt wsX7_soundsAt := goodIn_r _ [6, 1, 7, 8, 5, 9, 10, 11, 12, 13, 14, 15, 16, 17, 18, 19, 20, 21, 22, 23, 24, 25, 26] (by decide +kernel) (by decide +kernel)
set_option maxRecDepth 20000 in
theorem gX7_wordsAt_X7_soundsAt : GoodIn wsX7_wordsAt (wsV RX7 54 RX7 yX7_soundsAt wsX7_soundsAt) := goodIn_app (goodIn_of _ (by decide +kernel)) ggX7_wordsAt_X7_soundsAt
theorem dX7_wordsAt_0 : decode cX7_wordsAt 0 = .ok (.iconst 0, 1) := by decide +kernel
theorem dX7_wordsAt_1 : decode cX7_wordsAt 1 = .ok (.istore_n 2, 1) := by decide +kernel
theorem dX7_wordsAt_2 : decode cX7_wordsAt 2 = .ok (.iconst 0, 1) := by decide +kernel
theorem dX7_wordsAt_3 : decode cX7_wordsAt 3 = .ok (.istore_n 3, 1) := by decide +kernel
theorem dX7_wordsAt_4 : decode cX7_wordsAt 4 = .ok (.iload_n 3, 1) := by decide +kernel
theorem dX7_wordsAt_5 : decode cX7_wordsAt 5 = .ok (.aload_n 0, 1) := by decide +kernel
theorem dX7_wordsAt_6 : decode cX7_wordsAt 6 = .ok (.getfield 7, 3) := by decide +kernel
theorem dX7_wordsAt_9 : decode cX7_wordsAt 9 = .ok (.iconst 5, 1) := by decide +kernel
theorem dX7_wordsAt_10 : decode cX7_wordsAt 10 = .ok (.iaload, 1) := by decide +kernel
theorem dX7_wordsAt_11 : decode cX7_wordsAt 11 = .ok (.if_icmp .ge 29, 3) := by decide +kernel
theorem dX7_wordsAt_14 : decode cX7_wordsAt 14 = .ok (.iload_n 2, 1) := by decide +kernel
theorem dX7_wordsAt_15 : decode cX7_wordsAt 15 = .ok (.aload_n 0, 1) := by decide +kernel
theorem dX7_wordsAt_16 : decode cX7_wordsAt 16 = .ok (.iconst 1, 1) := by decide +kernel
theorem dX7_wordsAt_17 : decode cX7_wordsAt 17 = .ok (.iload_n 3, 1) := by decide +kernel
theorem dX7_wordsAt_18 : decode cX7_wordsAt 18 = .ok (.iload_n 1, 1) := by decide +kernel
theorem dX7_wordsAt_19 : decode cX7_wordsAt 19 = .ok (.invokevirtual 54, 3) := by decide +kernel
theorem dX7_wordsAt_22 : decode cX7_wordsAt 22 = .ok (.ifCond .eq 9, 3) := by decide +kernel
theorem dX7_wordsAt_25 : decode cX7_wordsAt 25 = .ok (.iconst 1, 1) := by decide +kernel
theorem dX7_wordsAt_26 : decode cX7_wordsAt 26 = .ok (.iload_n 3, 1) := by decide +kernel
theorem dX7_wordsAt_27 : decode cX7_wordsAt 27 = .ok (.ishl, 1) := by decide +kernel
theorem dX7_wordsAt_28 : decode cX7_wordsAt 28 = .ok (.goto 4, 3) := by decide +kernel
theorem dX7_wordsAt_31 : decode cX7_wordsAt 31 = .ok (.iconst 0, 1) := by decide +kernel
theorem dX7_wordsAt_32 : decode cX7_wordsAt 32 = .ok (.ior, 1) := by decide +kernel
theorem dX7_wordsAt_33 : decode cX7_wordsAt 33 = .ok (.istore_n 2, 1) := by decide +kernel
theorem dX7_wordsAt_34 : decode cX7_wordsAt 34 = .ok (.iinc 3 1, 3) := by decide +kernel
theorem dX7_wordsAt_37 : decode cX7_wordsAt 37 = .ok (.goto (-33), 3) := by decide +kernel
theorem dX7_wordsAt_40 : decode cX7_wordsAt 40 = .ok (.iload_n 2, 1) := by decide +kernel
theorem dX7_wordsAt_41 : decode cX7_wordsAt 41 = .ok (.ireturn, 1) := by decide +kernel
set_option maxRecDepth 20000 in
theorem ggX7_noisesAt_X7_soundsAt : GoodIn wsX7_noisesAt wsX7_soundsAt := goodIn_r _ [6, 1, 7, 8, 5, 9, 10, 11, 12, 13, 14, 15, 16, 17, 18, 19, 20, 21, 22, 23, 24, 25, 26] (by decide +kernel) (by decide +kernel)
set_option maxRecDepth 20000 in
theorem gX7_noisesAt_X7_soundsAt : GoodIn wsX7_noisesAt (wsV RX7 54 RX7 yX7_soundsAt wsX7_soundsAt) := goodIn_app (goodIn_of _ (by decide +kernel)) ggX7_noisesAt_X7_soundsAt
theorem dX7_noisesAt_0 : decode cX7_noisesAt 0 = .ok (.iconst 0, 1) := by decide +kernel
theorem dX7_noisesAt_1 : decode cX7_noisesAt 1 = .ok (.istore_n 2, 1) := by decide +kernel
theorem dX7_noisesAt_2 : decode cX7_noisesAt 2 = .ok (.iconst 0, 1) := by decide +kernel
theorem dX7_noisesAt_3 : decode cX7_noisesAt 3 = .ok (.istore_n 3, 1) := by decide +kernel
theorem dX7_noisesAt_4 : decode cX7_noisesAt 4 = .ok (.iload_n 3, 1) := by decide +kernel
theorem dX7_noisesAt_5 : decode cX7_noisesAt 5 = .ok (.aload_n 0, 1) := by decide +kernel
theorem dX7_noisesAt_6 : decode cX7_noisesAt 6 = .ok (.getfield 7, 3) := by decide +kernel
theorem dX7_noisesAt_9 : decode cX7_noisesAt 9 = .ok (.bipush 6, 2) := by decide +kernel
theorem dX7_noisesAt_11 : decode cX7_noisesAt 11 = .ok (.iaload, 1) := by decide +kernel
theorem dX7_noisesAt_12 : decode cX7_noisesAt 12 = .ok (.if_icmp .ge 29, 3) := by decide +kernel
theorem dX7_noisesAt_15 : decode cX7_noisesAt 15 = .ok (.iload_n 2, 1) := by decide +kernel
theorem dX7_noisesAt_16 : decode cX7_noisesAt 16 = .ok (.aload_n 0, 1) := by decide +kernel
theorem dX7_noisesAt_17 : decode cX7_noisesAt 17 = .ok (.iconst 0, 1) := by decide +kernel
theorem dX7_noisesAt_18 : decode cX7_noisesAt 18 = .ok (.iload_n 3, 1) := by decide +kernel
theorem dX7_noisesAt_19 : decode cX7_noisesAt 19 = .ok (.iload_n 1, 1) := by decide +kernel
theorem dX7_noisesAt_20 : decode cX7_noisesAt 20 = .ok (.invokevirtual 54, 3) := by decide +kernel
theorem dX7_noisesAt_23 : decode cX7_noisesAt 23 = .ok (.ifCond .eq 9, 3) := by decide +kernel
theorem dX7_noisesAt_26 : decode cX7_noisesAt 26 = .ok (.iconst 1, 1) := by decide +kernel
theorem dX7_noisesAt_27 : decode cX7_noisesAt 27 = .ok (.iload_n 3, 1) := by decide +kernel
theorem dX7_noisesAt_28 : decode cX7_noisesAt 28 = .ok (.ishl, 1) := by decide +kernel
theorem dX7_noisesAt_29 : decode cX7_noisesAt 29 = .ok (.goto 4, 3) := by decide +kernel
theorem dX7_noisesAt_32 : decode cX7_noisesAt 32 = .ok (.iconst 0, 1) := by decide +kernel
theorem dX7_noisesAt_33 : decode cX7_noisesAt 33 = .ok (.ior, 1) := by decide +kernel
theorem dX7_noisesAt_34 : decode cX7_noisesAt 34 = .ok (.istore_n 2, 1) := by decide +kernel
theorem dX7_noisesAt_35 : decode cX7_noisesAt 35 = .ok (.iinc 3 1, 3) := by decide +kernel
theorem dX7_noisesAt_38 : decode cX7_noisesAt 38 = .ok (.goto (-34), 3) := by decide +kernel
theorem dX7_noisesAt_41 : decode cX7_noisesAt 41 = .ok (.iload_n 2, 1) := by decide +kernel
theorem dX7_noisesAt_42 : decode cX7_noisesAt 42 = .ok (.ireturn, 1) := by decide +kernel
set_option maxRecDepth 20000 in
theorem ggX7_strength_X7_soundsAt : GoodIn wsX7_strength wsX7_soundsAt := goodIn_r _ [6, 7, 8, 9, 5, 10, 11, 12, 13, 18, 19, 20, 21, 22, 23, 24, 25, 26, 27, 28, 29, 30, 31] (by decide +kernel) (by decide +kernel)
set_option maxRecDepth 20000 in
theorem gX7_strength_X7_soundsAt : GoodIn wsX7_strength (wsV RX7 54 RX7 yX7_soundsAt wsX7_soundsAt) := goodIn_app (goodIn_of _ (by decide +kernel)) ggX7_strength_X7_soundsAt
set_option maxRecDepth 20000 in
theorem ggX7_strength_X7_ofNoise : GoodIn wsX7_strength wsX7_ofNoise := goodIn_r _ [17, 7, 18, 19, 20, 21, 22, 23, 24, 25, 26, 27, 28, 29, 30, 31] (by decide +kernel) (by decide +kernel)
set_option maxRecDepth 20000 in
theorem gX7_strength_X7_ofNoise : GoodIn wsX7_strength (wsV RX7 58 RX7 yX7_ofNoise wsX7_ofNoise) := goodIn_app (goodIn_of _ (by decide +kernel)) ggX7_strength_X7_ofNoise
theorem dX7_strength_0 : decode cX7_strength 0 = .ok (.aload_n 0, 1) := by decide +kernel
theorem dX7_strength_1 : decode cX7_strength 1 = .ok (.iconst 0, 1) := by decide +kernel
theorem dX7_strength_2 : decode cX7_strength 2 = .ok (.iload_n 1, 1) := by decide +kernel
theorem dX7_strength_3 : decode cX7_strength 3 = .ok (.iload_n 2, 1) := by decide +kernel
