theorem dX6_second_13 : decode cX6_second 13 = .ok (.dup, 1) := by decide +kernel
theorem dX6_second_14 : decode cX6_second 14 = .ok (.ldc 208, 2) := by decide +kernel
theorem dX6_second_16 : decode cX6_second 16 = .ok (.invokespecial 210, 3) := by decide +kernel
theorem dX6_second_19 : decode cX6_second 19 = .ok (.athrow, 1) := by decide +kernel
theorem dX6_second_20 : decode cX6_second 20 = .ok (.iload_n 2, 1) := by decide +kernel
theorem dX6_second_21 : decode cX6_second 21 = .ok (.iconst 5, 1) := by decide +kernel
theorem dX6_second_22 : decode cX6_second 22 = .ok (.invokestatic 178, 3) := by decide +kernel
theorem dX6_second_25 : decode cX6_second 25 = .ok (.aload_n 0, 1) := by decide +kernel
theorem dX6_second_26 : decode cX6_second 26 = .ok (.getfield 10, 3) := by decide +kernel
theorem dX6_second_29 : decode cX6_second 29 = .ok (.invokevirtual 181, 3) := by decide +kernel
theorem dX6_second_32 : decode cX6_second 32 = .ok (.iload_n 2, 1) := by decide +kernel
theorem dX6_second_33 : decode cX6_second 33 = .ok (.tableswitch 92 0 4 #[35, 47, 59, 71, 80], 35) := by decide +kernel
theorem dX6_second_68 : decode cX6_second 68 = .ok (.aload_n 0, 1) := by decide +kernel
theorem dX6_second_69 : decode cX6_second 69 = .ok (.getfield 10, 3) := by decide +kernel
theorem dX6_second_72 : decode cX6_second 72 = .ok (.getfield 211, 3) := by decide +kernel
theorem dX6_second_75 : decode cX6_second 75 = .ok (.iload_n 1, 1) := by decide +kernel
theorem dX6_second_76 : decode cX6_second 76 = .ok (.invokestatic 215, 3) := by decide +kernel
theorem dX6_second_79 : decode cX6_second 79 = .ok (.ireturn, 1) := by decide +kernel
theorem dX6_second_80 : decode cX6_second 80 = .ok (.aload_n 0, 1) := by decide +kernel
theorem dX6_second_81 : decode cX6_second 81 = .ok (.getfield 10, 3) := by decide +kernel
theorem dX6_second_84 : decode cX6_second 84 = .ok (.getfield 219, 3) := by decide +kernel
theorem dX6_second_87 : decode cX6_second 87 = .ok (.iload_n 1, 1) := by decide +kernel
theorem dX6_second_88 : decode cX6_second 88 = .ok (.invokestatic 215, 3) := by decide +kernel
theorem dX6_second_91 : decode cX6_second 91 = .ok (.ireturn, 1) := by decide +kernel
theorem dX6_second_92 : decode cX6_second 92 = .ok (.aload_n 0, 1) := by decide +kernel
theorem dX6_second_93 : decode cX6_second 93 = .ok (.getfield 10, 3) := by decide +kernel
theorem dX6_second_96 : decode cX6_second 96 = .ok (.getfield 221, 3) := by decide +kernel
theorem dX6_second_99 : decode cX6_second 99 = .ok (.iload_n 1, 1) := by decide +kernel
theorem dX6_second_100 : decode cX6_second 100 = .ok (.invokestatic 215, 3) := by decide +kernel
theorem dX6_second_103 : decode cX6_second 103 = .ok (.ireturn, 1) := by decide +kernel
theorem dX6_second_104 : decode cX6_second 104 = .ok (.aload_n 0, 1) := by decide +kernel
theorem dX6_second_105 : decode cX6_second 105 = .ok (.getfield 10, 3) := by decide +kernel
theorem dX6_second_108 : decode cX6_second 108 = .ok (.iload_n 1, 1) := by decide +kernel
theorem dX6_second_109 : decode cX6_second 109 = .ok (.invokevirtual 223, 3) := by decide +kernel
theorem dX6_second_112 : decode cX6_second 112 = .ok (.ireturn, 1) := by decide +kernel
theorem dX6_second_113 : decode cX6_second 113 = .ok (.aload_n 0, 1) := by decide +kernel
theorem dX6_second_114 : decode cX6_second 114 = .ok (.getfield 10, 3) := by decide +kernel
theorem dX6_second_117 : decode cX6_second 117 = .ok (.getfield 226, 3) := by decide +kernel
theorem dX6_second_120 : decode cX6_second 120 = .ok (.iload_n 1, 1) := by decide +kernel
theorem dX6_second_121 : decode cX6_second 121 = .ok (.invokestatic 215, 3) := by decide +kernel
theorem dX6_second_124 : decode cX6_second 124 = .ok (.ireturn, 1) := by decide +kernel
theorem dX6_second_125 : decode cX6_second 125 = .ok (.aload_n 0, 1) := by decide +kernel
theorem dX6_second_126 : decode cX6_second 126 = .ok (.getfield 10, 3) := by decide +kernel
theorem dX6_second_129 : decode cX6_second 129 = .ok (.getfield 229, 3) := by decide +kernel
theorem dX6_second_132 : decode cX6_second 132 = .ok (.iload_n 1, 1) := by decide +kernel
theorem dX6_second_133 : decode cX6_second 133 = .ok (.invokestatic 215, 3) := by decide +kernel
theorem dX6_second_136 : decode cX6_second 136 = .ok (.ireturn, 1) := by decide +kernel
set_option maxRecDepth 20000 in
theorem ggX6_total_X6_checkWhat : GoodIn wsX6_total wsX6_checkWhat := goodIn_ca (goodIn_r _ [5, 6, 7] (by decide +kernel) (by decide +kernel)) (goodIn_sub (fun _ h => List.mem_cons_of_mem _ (List.mem_append_right _ h)) (by decide +kernel))
set_option maxRecDepth 20000 in
theorem gX6_total_X6_checkWhat : GoodIn wsX6_total (va_wsS RX6 178 yX6_checkWhat wsX6_checkWhat) := goodIn_app (goodIn_of _ (by decide +kernel)) ggX6_total_X6_checkWhat
set_option maxRecDepth 20000 in
theorem ggX6_total_X1_loudnessByCue : GoodIn wsX6_total wsX1_loudnessByCue := goodIn_r _ [11, 12, 13, 14, 15, 9, 16, 17, 40, 41, 42] (by decide +kernel) (by decide +kernel)
set_option maxRecDepth 20000 in
theorem gX6_total_X1_loudnessByCue_n232 : GoodIn wsX6_total (wsX1_loudnessByCue) := ggX6_total_X1_loudnessByCue
set_option maxRecDepth 20000 in
theorem ggX6_total_X1_loudnessAt : GoodIn wsX6_total wsX1_loudnessAt := goodIn_r _ [20, 12, 21, 22, 23, 9, 24, 13, 14, 15, 16, 17, 25, 26, 27, 28, 40, 41, 42] (by decide +kernel) (by decide +kernel)
set_option maxRecDepth 20000 in
theorem gX6_total_X1_loudnessAt_n235 : GoodIn wsX6_total (wsX1_loudnessAt) := ggX6_total_X1_loudnessAt
theorem dX6_total_0 : decode cX6_total 0 = .ok (.iload_n 1, 1) := by decide +kernel
theorem dX6_total_1 : decode cX6_total 1 = .ok (.iconst 1, 1) := by decide +kernel
theorem dX6_total_2 : decode cX6_total 2 = .ok (.invokestatic 178, 3) := by decide +kernel
theorem dX6_total_5 : decode cX6_total 5 = .ok (.iload_n 1, 1) := by decide +kernel
theorem dX6_total_6 : decode cX6_total 6 = .ok (.iconst 1, 1) := by decide +kernel
theorem dX6_total_7 : decode cX6_total 7 = .ok (.if_icmp .ne 25, 3) := by decide +kernel
theorem dX6_total_10 : decode cX6_total 10 = .ok (.aload_n 0, 1) := by decide +kernel
theorem dX6_total_11 : decode cX6_total 11 = .ok (.getfield 23, 3) := by decide +kernel
theorem dX6_total_14 : decode cX6_total 14 = .ok (.getfield 60, 3) := by decide +kernel
theorem dX6_total_17 : decode cX6_total 17 = .ok (.invokevirtual 232, 3) := by decide +kernel
theorem dX6_total_20 : decode cX6_total 20 = .ok (.aload_n 0, 1) := by decide +kernel
theorem dX6_total_21 : decode cX6_total 21 = .ok (.getfield 23, 3) := by decide +kernel
theorem dX6_total_24 : decode cX6_total 24 = .ok (.getfield 68, 3) := by decide +kernel
theorem dX6_total_27 : decode cX6_total 27 = .ok (.invokevirtual 232, 3) := by decide +kernel
theorem dX6_total_30 : decode cX6_total 30 = .ok (.iadd, 1) := by decide +kernel
theorem dX6_total_31 : decode cX6_total 31 = .ok (.ireturn, 1) := by decide +kernel
theorem dX6_total_32 : decode cX6_total 32 = .ok (.iconst 0, 1) := by decide +kernel
theorem dX6_total_33 : decode cX6_total 33 = .ok (.istore_n 2, 1) := by decide +kernel
theorem dX6_total_34 : decode cX6_total 34 = .ok (.iconst 0, 1) := by decide +kernel
theorem dX6_total_35 : decode cX6_total 35 = .ok (.istore_n 3, 1) := by decide +kernel
theorem dX6_total_36 : decode cX6_total 36 = .ok (.iload_n 3, 1) := by decide +kernel
theorem dX6_total_37 : decode cX6_total 37 = .ok (.bipush 120, 2) := by decide +kernel
theorem dX6_total_39 : decode cX6_total 39 = .ok (.if_icmp .ge 35, 3) := by decide +kernel
theorem dX6_total_42 : decode cX6_total 42 = .ok (.iload_n 2, 1) := by decide +kernel
theorem dX6_total_43 : decode cX6_total 43 = .ok (.aload_n 0, 1) := by decide +kernel
theorem dX6_total_44 : decode cX6_total 44 = .ok (.getfield 23, 3) := by decide +kernel
theorem dX6_total_47 : decode cX6_total 47 = .ok (.getfield 60, 3) := by decide +kernel
theorem dX6_total_50 : decode cX6_total 50 = .ok (.iload_n 3, 1) := by decide +kernel
theorem dX6_total_51 : decode cX6_total 51 = .ok (.invokevirtual 235, 3) := by decide +kernel
theorem dX6_total_54 : decode cX6_total 54 = .ok (.aload_n 0, 1) := by decide +kernel
theorem dX6_total_55 : decode cX6_total 55 = .ok (.getfield 23, 3) := by decide +kernel
theorem dX6_total_58 : decode cX6_total 58 = .ok (.getfield 68, 3) := by decide +kernel
theorem dX6_total_61 : decode cX6_total 61 = .ok (.iload_n 3, 1) := by decide +kernel
theorem dX6_total_62 : decode cX6_total 62 = .ok (.invokevirtual 235, 3) := by decide +kernel
theorem dX6_total_65 : decode cX6_total 65 = .ok (.iadd, 1) := by decide +kernel
theorem dX6_total_66 : decode cX6_total 66 = .ok (.iadd, 1) := by decide +kernel
theorem dX6_total_67 : decode cX6_total 67 = .ok (.istore_n 2, 1) := by decide +kernel
theorem dX6_total_68 : decode cX6_total 68 = .ok (.iinc 3 1, 3) := by decide +kernel
theorem dX6_total_71 : decode cX6_total 71 = .ok (.goto (-35), 3) := by decide +kernel
theorem dX6_total_74 : decode cX6_total 74 = .ok (.iload_n 2, 1) := by decide +kernel
theorem dX6_total_75 : decode cX6_total 75 = .ok (.ireturn, 1) := by decide +kernel
set_option maxRecDepth 20000 in
theorem ggX6_count_X6_checkWhat : GoodIn wsX6_count wsX6_checkWhat := goodIn_ca (goodIn_r _ [8, 9, 10] (by decide +kernel) (by decide +kernel)) (goodIn_sub (fun _ h => List.mem_cons_of_mem _ (List.mem_append_right _ h)) (by decide +kernel))
set_option maxRecDepth 20000 in
theorem gX6_count_X6_checkWhat : GoodIn wsX6_count (va_wsS RX6 178 yX6_checkWhat wsX6_checkWhat) := goodIn_app (goodIn_of _ (by decide +kernel)) ggX6_count_X6_checkWhat
set_option maxRecDepth 20000 in
theorem ggX6_count_X4_settingOf : GoodIn wsX6_count wsX4_settingOf := goodIn_r _ [14, 15, 135, 136, 137] (by decide +kernel) (by decide +kernel)
set_option maxRecDepth 20000 in
theorem gX6_count_X4_settingOf_n119 : GoodIn wsX6_count (wsX4_settingOf) := ggX6_count_X4_settingOf
set_option maxRecDepth 20000 in
theorem ggX6_count_X3_refresh : GoodIn wsX6_count wsX3_refresh := goodIn_r _ [19, 20, 21, 22, 23, 24, 25, 26, 27, 28, 29, 30, 31, 32, 33, 34, 35, 36, 37, 7, 38, 39, 40, 41, 42, 43, 17, 44, 45, 46, 47, 48, 49, 11, 12, 13, 14, 15, 50, 51, 52, 53, 54, 55, 56, 57, 58, 59, 60, 61, 62, 63, 64, 65, 66, 67, 68, 69, 70, 71, 72, 73, 74, 75, 76, 77, 78, 79, 80, 81, 138, 139, 140, 141, 142, 143, 144, 145, 135, 136, 137, 146, 147, 148] (by decide +kernel) (by decide +kernel)
set_option maxRecDepth 20000 in
theorem gX6_count_X3_refresh_n181 : GoodIn wsX6_count (wsX3_refresh) := ggX6_count_X3_refresh
set_option maxRecDepth 20000 in
theorem ggX6_count_X1_size : GoodIn wsX6_count wsX1_size := goodIn_r _ [59, 27, 146, 147, 148] (by decide +kernel) (by decide +kernel)
set_option maxRecDepth 20000 in
theorem gX6_count_X1_size_n89 : GoodIn wsX6_count (wsX1_size) := ggX6_count_X1_size
set_option maxRecDepth 20000 in
theorem ggX6_count_X3_understood : GoodIn wsX6_count wsX3_understood := goodIn_r _ [84, 20, 57, 24, 58, 59, 27, 85, 86, 87, 17, 88, 89, 90, 91, 92, 73, 37, 7, 38, 60, 61, 11, 12, 13, 14, 15, 138, 139, 140, 141, 142, 143, 144, 145, 135, 136, 137, 146, 147, 148] (by decide +kernel) (by decide +kernel)
set_option maxRecDepth 20000 in
theorem gX6_count_X3_understood_n238 : GoodIn wsX6_count (wsX3_understood) := ggX6_count_X3_understood
set_option maxRecDepth 20000 in
theorem ggX6_count_X3_maskedSeconds : GoodIn wsX6_count wsX3_maskedSeconds := goodIn_r _ [95, 73, 37, 7, 38, 96, 97, 98, 99, 100, 101, 102, 138, 139, 140, 141, 142, 143, 144, 145] (by decide +kernel) (by decide +kernel)
set_option maxRecDepth 20000 in
theorem gX6_count_X3_maskedSeconds_n241 : GoodIn wsX6_count (wsX3_maskedSeconds) := ggX6_count_X3_maskedSeconds
set_option maxRecDepth 20000 in
theorem ggX6_count_X3_lastSound : GoodIn wsX6_count wsX3_lastSound := goodIn_r _ [105, 106, 107, 108, 17, 109, 21, 22, 37, 7, 38, 138, 139, 140, 141, 142, 143, 144, 145] (by decide +kernel) (by decide +kernel)
set_option maxRecDepth 20000 in
theorem gX6_count_X3_lastSound_n244 : GoodIn wsX6_count (wsX3_lastSound) := ggX6_count_X3_lastSound
set_option maxRecDepth 20000 in
theorem ggX6_count_X3_silentSeconds : GoodIn wsX6_count wsX3_silentSeconds := goodIn_r _ [112, 113, 103, 104, 17, 105, 106, 107, 108, 109, 21, 22, 37, 7, 38, 138, 139, 140, 141, 142, 143, 144, 145] (by decide +kernel) (by decide +kernel)
set_option maxRecDepth 20000 in
theorem gX6_count_X3_silentSeconds_n247 : GoodIn wsX6_count (wsX3_silentSeconds) := ggX6_count_X3_silentSeconds
set_option maxRecDepth 20000 in
theorem ggX6_count_X3_greatestMasker : GoodIn wsX6_count wsX3_greatestMasker := goodIn_r _ [116, 20, 54, 73, 57, 24, 58, 59, 27, 37, 7, 38, 138, 139, 140, 141, 142, 143, 144, 145, 135, 136, 137, 146, 147, 148] (by decide +kernel) (by decide +kernel)
set_option maxRecDepth 20000 in
theorem gX6_count_X3_greatestMasker_n250 : GoodIn wsX6_count (wsX3_greatestMasker) := ggX6_count_X3_greatestMasker
set_option maxRecDepth 20000 in
theorem ggX6_count_X2_size : GoodIn wsX6_count wsX2_size := goodIn_r _ [120, 121, 149, 150] (by decide +kernel) (by decide +kernel)
set_option maxRecDepth 20000 in
theorem gX6_count_X2_size_n164 : GoodIn wsX6_count (wsX2_size) := ggX6_count_X2_size
set_option maxRecDepth 20000 in
theorem ggX6_count_X5_size : GoodIn wsX6_count wsX5_size := goodIn_r _ [125, 126, 151, 152] (by decide +kernel) (by decide +kernel)
set_option maxRecDepth 20000 in
theorem gX6_count_X5_size_n139 : GoodIn wsX6_count (wsX5_size) := ggX6_count_X5_size
theorem dX6_count_0 : decode cX6_count 0 = .ok (.iload_n 1, 1) := by decide +kernel
theorem dX6_count_1 : decode cX6_count 1 = .ok (.bipush 13, 2) := by decide +kernel
theorem dX6_count_3 : decode cX6_count 3 = .ok (.invokestatic 178, 3) := by decide +kernel
theorem dX6_count_6 : decode cX6_count 6 = .ok (.iload_n 1, 1) := by decide +kernel
theorem dX6_count_7 : decode cX6_count 7 = .ok (.bipush 9, 2) := by decide +kernel
theorem dX6_count_9 : decode cX6_count 9 = .ok (.if_icmp .lt 15, 3) := by decide +kernel
theorem dX6_count_12 : decode cX6_count 12 = .ok (.aload_n 0, 1) := by decide +kernel
theorem dX6_count_13 : decode cX6_count 13 = .ok (.getfield 23, 3) := by decide +kernel
theorem dX6_count_16 : decode cX6_count 16 = .ok (.iload_n 1, 1) := by decide +kernel
theorem dX6_count_17 : decode cX6_count 17 = .ok (.bipush 9, 2) := by decide +kernel
theorem dX6_count_19 : decode cX6_count 19 = .ok (.isub, 1) := by decide +kernel
theorem dX6_count_20 : decode cX6_count 20 = .ok (.invokevirtual 119, 3) := by decide +kernel
theorem dX6_count_23 : decode cX6_count 23 = .ok (.ireturn, 1) := by decide +kernel
theorem dX6_count_24 : decode cX6_count 24 = .ok (.aload_n 0, 1) := by decide +kernel
theorem dX6_count_25 : decode cX6_count 25 = .ok (.getfield 10, 3) := by decide +kernel
theorem dX6_count_28 : decode cX6_count 28 = .ok (.invokevirtual 181, 3) := by decide +kernel
theorem dX6_count_31 : decode cX6_count 31 = .ok (.iload_n 1, 1) := by decide +kernel
theorem dX6_count_32 : decode cX6_count 32 = .ok (.tableswitch 118 0 7 #[48, 59, 70, 78, 86, 94, 102, 110], 48) := by decide +kernel
theorem dX6_count_80 : decode cX6_count 80 = .ok (.aload_n 0, 1) := by decide +kernel
theorem dX6_count_81 : decode cX6_count 81 = .ok (.getfield 23, 3) := by decide +kernel
theorem dX6_count_84 : decode cX6_count 84 = .ok (.getfield 60, 3) := by decide +kernel
theorem dX6_count_87 : decode cX6_count 87 = .ok (.invokevirtual 89, 3) := by decide +kernel
theorem dX6_count_90 : decode cX6_count 90 = .ok (.ireturn, 1) := by decide +kernel
theorem dX6_count_91 : decode cX6_count 91 = .ok (.aload_n 0, 1) := by decide +kernel
theorem dX6_count_92 : decode cX6_count 92 = .ok (.getfield 23, 3) := by decide +kernel
theorem dX6_count_95 : decode cX6_count 95 = .ok (.getfield 68, 3) := by decide +kernel
theorem dX6_count_98 : decode cX6_count 98 = .ok (.invokevirtual 89, 3) := by decide +kernel
theorem dX6_count_101 : decode cX6_count 101 = .ok (.ireturn, 1) := by decide +kernel
theorem dX6_count_102 : decode cX6_count 102 = .ok (.aload_n 0, 1) := by decide +kernel
theorem dX6_count_103 : decode cX6_count 103 = .ok (.getfield 10, 3) := by decide +kernel
theorem dX6_count_106 : decode cX6_count 106 = .ok (.invokevirtual 238, 3) := by decide +kernel
theorem dX6_count_109 : decode cX6_count 109 = .ok (.ireturn, 1) := by decide +kernel
theorem dX6_count_110 : decode cX6_count 110 = .ok (.aload_n 0, 1) := by decide +kernel
theorem dX6_count_111 : decode cX6_count 111 = .ok (.getfield 10, 3) := by decide +kernel
theorem dX6_count_114 : decode cX6_count 114 = .ok (.invokevirtual 241, 3) := by decide +kernel
theorem dX6_count_117 : decode cX6_count 117 = .ok (.ireturn, 1) := by decide +kernel
theorem dX6_count_118 : decode cX6_count 118 = .ok (.aload_n 0, 1) := by decide +kernel
theorem dX6_count_119 : decode cX6_count 119 = .ok (.getfield 10, 3) := by decide +kernel
theorem dX6_count_122 : decode cX6_count 122 = .ok (.invokevirtual 244, 3) := by decide +kernel
theorem dX6_count_125 : decode cX6_count 125 = .ok (.ireturn, 1) := by decide +kernel
theorem dX6_count_126 : decode cX6_count 126 = .ok (.aload_n 0, 1) := by decide +kernel
theorem dX6_count_127 : decode cX6_count 127 = .ok (.getfield 10, 3) := by decide +kernel
theorem dX6_count_130 : decode cX6_count 130 = .ok (.invokevirtual 247, 3) := by decide +kernel
theorem dX6_count_133 : decode cX6_count 133 = .ok (.ireturn, 1) := by decide +kernel
theorem dX6_count_134 : decode cX6_count 134 = .ok (.aload_n 0, 1) := by decide +kernel
theorem dX6_count_135 : decode cX6_count 135 = .ok (.getfield 10, 3) := by decide +kernel
theorem dX6_count_138 : decode cX6_count 138 = .ok (.invokevirtual 250, 3) := by decide +kernel
theorem dX6_count_141 : decode cX6_count 141 = .ok (.ireturn, 1) := by decide +kernel
theorem dX6_count_142 : decode cX6_count 142 = .ok (.aload_n 0, 1) := by decide +kernel
theorem dX6_count_143 : decode cX6_count 143 = .ok (.getfield 32, 3) := by decide +kernel
theorem dX6_count_146 : decode cX6_count 146 = .ok (.invokevirtual 164, 3) := by decide +kernel
theorem dX6_count_149 : decode cX6_count 149 = .ok (.ireturn, 1) := by decide +kernel
theorem dX6_count_150 : decode cX6_count 150 = .ok (.aload_n 0, 1) := by decide +kernel
theorem dX6_count_151 : decode cX6_count 151 = .ok (.getfield 45, 3) := by decide +kernel
theorem dX6_count_154 : decode cX6_count 154 = .ok (.invokevirtual 139, 3) := by decide +kernel
theorem dX6_count_157 : decode cX6_count 157 = .ok (.ireturn, 1) := by decide +kernel
set_option maxRecDepth 20000 in
theorem ggX6_leastDucking_X4_copyFrom : GoodIn wsX6_leastDucking wsX4_copyFrom := goodIn_r _ [9, 10, 11, 12, 13, 14, 15, 16, 17, 18, 19, 20, 21, 114, 115, 116, 117, 118, 119] (by decide +kernel) (by decide +kernel)
set_option maxRecDepth 20000 in
theorem gX6_leastDucking_X4_copyFrom_n173 : GoodIn wsX6_leastDucking (wsX4_copyFrom) := ggX6_leastDucking_X4_copyFrom
set_option maxRecDepth 20000 in
theorem ggX6_leastDucking_X6_entry : GoodIn wsX6_leastDucking wsX6_entry := goodIn_r _ [24] (by decide +kernel) (by decide +kernel)
set_option maxRecDepth 20000 in
theorem gX6_leastDucking_X6_entry : GoodIn wsX6_leastDucking (va_wsS RX6 215 yX6_entry wsX6_entry) := goodIn_app (goodIn_of _ (by decide +kernel)) ggX6_leastDucking_X6_entry
set_option maxRecDepth 20000 in
theorem ggX6_leastDucking_X4_change : GoodIn wsX6_leastDucking wsX4_change := goodIn_r _ [27, 12, 28, 20, 29, 114, 115, 116] (by decide +kernel) (by decide +kernel)
set_option maxRecDepth 20000 in
theorem gX6_leastDucking_X4_change_n123 : GoodIn wsX6_leastDucking (wsX4_change) := ggX6_leastDucking_X4_change
set_option maxRecDepth 20000 in
theorem ggX6_leastDucking_X3_refresh : GoodIn wsX6_leastDucking wsX3_refresh := goodIn_r _ [33, 34, 35, 36, 37, 14, 38, 39, 18, 40, 41, 42, 43, 44, 45, 46, 47, 17, 23, 20, 24, 28, 29, 48, 49, 50, 31, 51, 52, 53, 54, 55, 56, 57, 7, 58, 59, 12, 60, 61, 62, 63, 64, 65, 66, 67, 68, 69, 70, 71, 72, 73, 74, 75, 76, 77, 78, 79, 80, 81, 82, 83, 84, 85, 86, 87, 88, 89, 90, 91, 120, 121, 122, 123, 124, 125, 126, 127, 114, 115, 116, 117, 118, 119] (by decide +kernel) (by decide +kernel)
set_option maxRecDepth 20000 in
theorem gX6_leastDucking_X3_refresh_n181 : GoodIn wsX6_leastDucking (wsX3_refresh) := ggX6_leastDucking_X3_refresh
set_option maxRecDepth 20000 in
theorem ggX6_leastDucking_X3_understood : GoodIn wsX6_leastDucking wsX3_understood := goodIn_r _ [94, 34, 67, 14, 68, 69, 18, 95, 96, 97, 31, 98, 99, 100, 101, 102, 83, 23, 20, 24, 70, 71, 57, 7, 58, 59, 12, 120, 121, 122, 123, 124, 125, 126, 127, 114, 115, 116, 117, 118, 119] (by decide +kernel) (by decide +kernel)
set_option maxRecDepth 20000 in
theorem gX6_leastDucking_X3_understood_n238 : GoodIn wsX6_leastDucking (wsX3_understood) := ggX6_leastDucking_X3_understood
set_option maxRecDepth 20000 in
theorem ggX6_leastDucking_X1_all : GoodIn wsX6_leastDucking wsX1_all := goodIn_r _ [105, 18, 117, 118, 119] (by decide +kernel) (by decide +kernel)
set_option maxRecDepth 20000 in
theorem gX6_leastDucking_X1_all_n259 : GoodIn wsX6_leastDucking (wsX1_all) := ggX6_leastDucking_X1_all
theorem dX6_leastDucking_0 : decode cX6_leastDucking 0 = .ok (.aload_n 0, 1) := by decide +kernel
theorem dX6_leastDucking_1 : decode cX6_leastDucking 1 = .ok (.getfield 26, 3) := by decide +kernel
theorem dX6_leastDucking_4 : decode cX6_leastDucking 4 = .ok (.aload_n 0, 1) := by decide +kernel
theorem dX6_leastDucking_5 : decode cX6_leastDucking 5 = .ok (.getfield 23, 3) := by decide +kernel
theorem dX6_leastDucking_8 : decode cX6_leastDucking 8 = .ok (.invokevirtual 173, 3) := by decide +kernel
theorem dX6_leastDucking_11 : decode cX6_leastDucking 11 = .ok (.getstatic 253, 3) := by decide +kernel
theorem dX6_leastDucking_14 : decode cX6_leastDucking 14 = .ok (.iconst 0, 1) := by decide +kernel
theorem dX6_leastDucking_15 : decode cX6_leastDucking 15 = .ok (.invokestatic 215, 3) := by decide +kernel
theorem dX6_leastDucking_18 : decode cX6_leastDucking 18 = .ok (.istore_n 1, 1) := by decide +kernel
theorem dX6_leastDucking_19 : decode cX6_leastDucking 19 = .ok (.iload_n 1, 1) := by decide +kernel
theorem dX6_leastDucking_20 : decode cX6_leastDucking 20 = .ok (.getstatic 256, 3) := by decide +kernel
theorem dX6_leastDucking_23 : decode cX6_leastDucking 23 = .ok (.iconst 0, 1) := by decide +kernel
theorem dX6_leastDucking_24 : decode cX6_leastDucking 24 = .ok (.invokestatic 215, 3) := by decide +kernel
theorem dX6_leastDucking_27 : decode cX6_leastDucking 27 = .ok (.if_icmp .gt 47, 3) := by decide +kernel
theorem dX6_leastDucking_30 : decode cX6_leastDucking 30 = .ok (.aload_n 0, 1) := by decide +kernel
theorem dX6_leastDucking_31 : decode cX6_leastDucking 31 = .ok (.getfield 26, 3) := by decide +kernel
theorem dX6_leastDucking_34 : decode cX6_leastDucking 34 = .ok (.iconst 0, 1) := by decide +kernel
theorem dX6_leastDucking_35 : decode cX6_leastDucking 35 = .ok (.iload_n 1, 1) := by decide +kernel
theorem dX6_leastDucking_36 : decode cX6_leastDucking 36 = .ok (.invokevirtual 123, 3) := by decide +kernel
theorem dX6_leastDucking_39 : decode cX6_leastDucking 39 = .ok (.aload_n 0, 1) := by decide +kernel
theorem dX6_leastDucking_40 : decode cX6_leastDucking 40 = .ok (.getfield 16, 3) := by decide +kernel
theorem dX6_leastDucking_43 : decode cX6_leastDucking 43 = .ok (.invokevirtual 181, 3) := by decide +kernel
theorem dX6_leastDucking_46 : decode cX6_leastDucking 46 = .ok (.aload_n 0, 1) := by decide +kernel
theorem dX6_leastDucking_47 : decode cX6_leastDucking 47 = .ok (.getfield 16, 3) := by decide +kernel
theorem dX6_leastDucking_50 : decode cX6_leastDucking 50 = .ok (.invokevirtual 238, 3) := by decide +kernel
theorem dX6_leastDucking_53 : decode cX6_leastDucking 53 = .ok (.aload_n 0, 1) := by decide +kernel
theorem dX6_leastDucking_54 : decode cX6_leastDucking 54 = .ok (.getfield 23, 3) := by decide +kernel
theorem dX6_leastDucking_57 : decode cX6_leastDucking 57 = .ok (.getfield 60, 3) := by decide +kernel
theorem dX6_leastDucking_60 : decode cX6_leastDucking 60 = .ok (.invokevirtual 259, 3) := by decide +kernel
theorem dX6_leastDucking_63 : decode cX6_leastDucking 63 = .ok (.if_icmp .ne 5, 3) := by decide +kernel
theorem dX6_leastDucking_66 : decode cX6_leastDucking 66 = .ok (.iload_n 1, 1) := by decide +kernel
theorem dX6_leastDucking_67 : decode cX6_leastDucking 67 = .ok (.ireturn, 1) := by decide +kernel
theorem dX6_leastDucking_68 : decode cX6_leastDucking 68 = .ok (.iinc 1 1, 3) := by decide +kernel
theorem dX6_leastDucking_71 : decode cX6_leastDucking 71 = .ok (.goto (-52), 3) := by decide +kernel
theorem dX6_leastDucking_74 : decode cX6_leastDucking 74 = .ok (.iconst (-1), 1) := by decide +kernel
theorem dX6_leastDucking_75 : decode cX6_leastDucking 75 = .ok (.ireturn, 1) := by decide +kernel
set_option maxRecDepth 20000 in
theorem ggX6_ifSet_X6_checkSetting : GoodIn wsX6_ifSet wsX6_checkSetting := goodIn_ca (goodIn_ca (goodIn_r _ [7, 8, 9, 10, 11, 12, 13, 14, 15, 6, 16] (by decide +kernel) (by decide +kernel)) (goodIn_sub (fun _ h => List.mem_cons_of_mem _ (List.mem_append_left _ (List.mem_append_right _ h))) (by decide +kernel))) (goodIn_sub (fun _ h => List.mem_cons_of_mem _ (List.mem_append_right _ h)) (by decide +kernel))
set_option maxRecDepth 20000 in
theorem gX6_ifSet_X6_checkSetting : GoodIn wsX6_ifSet (va_wsS RX6 115 yX6_checkSetting wsX6_checkSetting) := goodIn_app (goodIn_of _ (by decide +kernel)) ggX6_ifSet_X6_checkSetting
set_option maxRecDepth 20000 in
theorem ggX6_ifSet_X6_checkWhat : GoodIn wsX6_ifSet wsX6_checkWhat := goodIn_ca (goodIn_r _ [19, 10, 11] (by decide +kernel) (by decide +kernel)) (goodIn_sub (fun _ h => List.mem_cons_of_mem _ (List.mem_append_right _ h)) (by decide +kernel))
set_option maxRecDepth 20000 in
theorem gX6_ifSet_X6_checkWhat : GoodIn wsX6_ifSet (va_wsS RX6 178 yX6_checkWhat wsX6_checkWhat) := goodIn_app (goodIn_of _ (by decide +kernel)) ggX6_ifSet_X6_checkWhat
set_option maxRecDepth 20000 in
theorem ggX6_ifSet_X4_copyFrom : GoodIn wsX6_ifSet wsX4_copyFrom := goodIn_r _ [23, 24, 25, 26, 27, 28, 29, 30, 31, 32, 33, 6, 34, 131, 132, 133, 134, 135, 136] (by decide +kernel) (by decide +kernel)
set_option maxRecDepth 20000 in
theorem gX6_ifSet_X4_copyFrom_n173 : GoodIn wsX6_ifSet (wsX4_copyFrom) := ggX6_ifSet_X4_copyFrom
set_option maxRecDepth 20000 in
theorem ggX6_ifSet_X4_change : GoodIn wsX6_ifSet wsX4_change := goodIn_r _ [37, 26, 38, 6, 39, 131, 132, 133] (by decide +kernel) (by decide +kernel)
set_option maxRecDepth 20000 in
theorem gX6_ifSet_X4_change_n123 : GoodIn wsX6_ifSet (wsX4_change) := ggX6_ifSet_X4_change
set_option maxRecDepth 20000 in
theorem ggX6_ifSet_X3_refresh : GoodIn wsX6_ifSet wsX3_refresh := goodIn_r _ [43, 44, 45, 46, 47, 28, 48, 49, 32, 50, 51, 52, 53, 54, 55, 56, 57, 31, 15, 6, 16, 38, 39, 58, 59, 60, 41, 61, 62, 63, 64, 65, 66, 67, 21, 68, 69, 26, 70, 71, 72, 73, 74, 75, 76, 77, 78, 79, 80, 81, 82, 83, 84, 85, 86, 87, 88, 89, 90, 91, 92, 93, 94, 95, 96, 97, 98, 99, 100, 101, 137, 138, 139, 140, 141, 142, 143, 144, 131, 132, 133, 134, 135, 136] (by decide +kernel) (by decide +kernel)
set_option maxRecDepth 20000 in
theorem gX6_ifSet_X3_refresh_n181 : GoodIn wsX6_ifSet (wsX3_refresh) := ggX6_ifSet_X3_refresh
set_option maxRecDepth 20000 in
theorem ggX6_ifSet_X3_understood : GoodIn wsX6_ifSet wsX3_understood := goodIn_r _ [104, 44, 77, 28, 78, 79, 32, 105, 106, 107, 41, 108, 109, 110, 111, 112, 93, 15, 6, 16, 80, 81, 67, 21, 68, 69, 26, 137, 138, 139, 140, 141, 142, 143, 144, 131, 132, 133, 134, 135, 136] (by decide +kernel) (by decide +kernel)
set_option maxRecDepth 20000 in
theorem gX6_ifSet_X3_understood_n238 : GoodIn wsX6_ifSet (wsX3_understood) := ggX6_ifSet_X3_understood
set_option maxRecDepth 20000 in
theorem ggX6_ifSet_X3_maskedSeconds : GoodIn wsX6_ifSet wsX3_maskedSeconds := goodIn_r _ [115, 93, 15, 6, 16, 116, 117, 118, 119, 120, 121, 122, 137, 138, 139, 140, 141, 142, 143, 144] (by decide +kernel) (by decide +kernel)
set_option maxRecDepth 20000 in
theorem gX6_ifSet_X3_maskedSeconds_n241 : GoodIn wsX6_ifSet (wsX3_maskedSeconds) := ggX6_ifSet_X3_maskedSeconds
theorem dX6_ifSet_0 : decode cX6_ifSet 0 = .ok (.iload_n 1, 1) := by decide +kernel
theorem dX6_ifSet_1 : decode cX6_ifSet 1 = .ok (.iload_n 2, 1) := by decide +kernel
theorem dX6_ifSet_2 : decode cX6_ifSet 2 = .ok (.invokestatic 115, 3) := by decide +kernel
theorem dX6_ifSet_5 : decode cX6_ifSet 5 = .ok (.iload_n 3, 1) := by decide +kernel
theorem dX6_ifSet_6 : decode cX6_ifSet 6 = .ok (.iconst 1, 1) := by decide +kernel
theorem dX6_ifSet_7 : decode cX6_ifSet 7 = .ok (.invokestatic 178, 3) := by decide +kernel
theorem dX6_ifSet_10 : decode cX6_ifSet 10 = .ok (.aload_n 0, 1) := by decide +kernel
theorem dX6_ifSet_11 : decode cX6_ifSet 11 = .ok (.getfield 26, 3) := by decide +kernel
theorem dX6_ifSet_14 : decode cX6_ifSet 14 = .ok (.aload_n 0, 1) := by decide +kernel
theorem dX6_ifSet_15 : decode cX6_ifSet 15 = .ok (.getfield 23, 3) := by decide +kernel
theorem dX6_ifSet_18 : decode cX6_ifSet 18 = .ok (.invokevirtual 173, 3) := by decide +kernel
theorem dX6_ifSet_21 : decode cX6_ifSet 21 = .ok (.aload_n 0, 1) := by decide +kernel
theorem dX6_ifSet_22 : decode cX6_ifSet 22 = .ok (.getfield 26, 3) := by decide +kernel
theorem dX6_ifSet_25 : decode cX6_ifSet 25 = .ok (.iload_n 1, 1) := by decide +kernel
theorem dX6_ifSet_26 : decode cX6_ifSet 26 = .ok (.iload_n 2, 1) := by decide +kernel
theorem dX6_ifSet_27 : decode cX6_ifSet 27 = .ok (.invokevirtual 123, 3) := by decide +kernel
theorem dX6_ifSet_30 : decode cX6_ifSet 30 = .ok (.aload_n 0, 1) := by decide +kernel
theorem dX6_ifSet_31 : decode cX6_ifSet 31 = .ok (.getfield 16, 3) := by decide +kernel
theorem dX6_ifSet_34 : decode cX6_ifSet 34 = .ok (.invokevirtual 181, 3) := by decide +kernel
theorem dX6_ifSet_37 : decode cX6_ifSet 37 = .ok (.iload_n 3, 1) := by decide +kernel
theorem dX6_ifSet_38 : decode cX6_ifSet 38 = .ok (.ifCond .ne 13, 3) := by decide +kernel
theorem dX6_ifSet_41 : decode cX6_ifSet 41 = .ok (.aload_n 0, 1) := by decide +kernel
theorem dX6_ifSet_42 : decode cX6_ifSet 42 = .ok (.getfield 16, 3) := by decide +kernel
theorem dX6_ifSet_45 : decode cX6_ifSet 45 = .ok (.invokevirtual 238, 3) := by decide +kernel
theorem dX6_ifSet_48 : decode cX6_ifSet 48 = .ok (.goto 10, 3) := by decide +kernel
theorem dX6_ifSet_51 : decode cX6_ifSet 51 = .ok (.aload_n 0, 1) := by decide +kernel
theorem dX6_ifSet_52 : decode cX6_ifSet 52 = .ok (.getfield 16, 3) := by decide +kernel
theorem dX6_ifSet_55 : decode cX6_ifSet 55 = .ok (.invokevirtual 241, 3) := by decide +kernel
theorem dX6_ifSet_58 : decode cX6_ifSet 58 = .ok (.ireturn, 1) := by decide +kernel
set_option maxRecDepth 20000 in
theorem ggX6_bestShift_X6_checkNumber : GoodIn wsX6_bestShift wsX6_checkNumber := goodIn_ca (goodIn_r _ [6, 7, 8, 9, 10, 11, 12, 13, 128, 129, 130] (by decide +kernel) (by decide +kernel)) (goodIn_sub (fun _ h => List.mem_cons_of_mem _ (List.mem_append_right _ h)) (by decide +kernel))
set_option maxRecDepth 20000 in
theorem gX6_bestShift_X6_checkNumber : GoodIn wsX6_bestShift (va_wsS RX6 75 yX6_checkNumber wsX6_checkNumber) := goodIn_app (goodIn_of _ (by decide +kernel)) ggX6_bestShift_X6_checkNumber
set_option maxRecDepth 20000 in
theorem ggX6_bestShift_X4_copyFrom : GoodIn wsX6_bestShift wsX4_copyFrom := goodIn_r _ [17, 18, 19, 20, 21, 10, 22, 23, 24, 13, 25, 5, 26, 125, 126, 127, 128, 129, 130] (by decide +kernel) (by decide +kernel)
set_option maxRecDepth 20000 in
theorem gX6_bestShift_X4_copyFrom_n173 : GoodIn wsX6_bestShift (wsX4_copyFrom) := ggX6_bestShift_X4_copyFrom
set_option maxRecDepth 20000 in
theorem ggX6_bestShift_X6_maskedIfShifted : GoodIn wsX6_bestShift wsX6_maskedIfShifted := goodIn_r _ [30, 1, 2, 31, 32, 10, 33, 34, 24, 35, 36, 5, 37, 38, 39, 40, 41, 42, 43, 44, 45, 46, 47, 48, 49, 50, 51, 52, 53, 54, 55, 56, 57, 13, 58, 59, 60, 61, 62, 63, 64, 65, 66, 67, 68, 69, 70, 71, 72, 15, 73, 74, 20, 75, 76, 77, 78, 79, 80, 81, 82, 83, 84, 85, 86, 87, 88, 89, 90, 91, 92, 93, 94, 95, 96, 97, 98, 99, 100, 101, 102, 103, 104, 105, 106, 107, 108, 109, 110, 111, 112, 113, 114, 115, 116, 117, 118, 119, 120, 121, 122, 123, 124, 125, 126, 127, 128, 129, 130, 131, 132, 133, 134, 135, 136, 137, 138] (by decide +kernel) (by decide +kernel)
set_option maxRecDepth 20000 in
theorem gX6_bestShift_X6_maskedIfShifted : GoodIn wsX6_bestShift (wsV RX6 262 RX6 yX6_maskedIfShifted wsX6_maskedIfShifted) := goodIn_app (goodIn_of _ (by decide +kernel)) ggX6_bestShift_X6_maskedIfShifted
theorem dX6_bestShift_0 : decode cX6_bestShift 0 = .ok (.aload_n 0, 1) := by decide +kernel
theorem dX6_bestShift_1 : decode cX6_bestShift 1 = .ok (.getfield 23, 3) := by decide +kernel
theorem dX6_bestShift_4 : decode cX6_bestShift 4 = .ok (.getfield 68, 3) := by decide +kernel
theorem dX6_bestShift_7 : decode cX6_bestShift 7 = .ok (.iload_n 1, 1) := by decide +kernel
theorem dX6_bestShift_8 : decode cX6_bestShift 8 = .ok (.invokestatic 75, 3) := by decide +kernel
theorem dX6_bestShift_11 : decode cX6_bestShift 11 = .ok (.aload_n 0, 1) := by decide +kernel
theorem dX6_bestShift_12 : decode cX6_bestShift 12 = .ok (.getfield 26, 3) := by decide +kernel
theorem dX6_bestShift_15 : decode cX6_bestShift 15 = .ok (.aload_n 0, 1) := by decide +kernel
theorem dX6_bestShift_16 : decode cX6_bestShift 16 = .ok (.getfield 23, 3) := by decide +kernel
theorem dX6_bestShift_19 : decode cX6_bestShift 19 = .ok (.invokevirtual 173, 3) := by decide +kernel
theorem dX6_bestShift_22 : decode cX6_bestShift 22 = .ok (.iconst 0, 1) := by decide +kernel
theorem dX6_bestShift_23 : decode cX6_bestShift 23 = .ok (.istore_n 2, 1) := by decide +kernel
theorem dX6_bestShift_24 : decode cX6_bestShift 24 = .ok (.iconst (-1), 1) := by decide +kernel
theorem dX6_bestShift_25 : decode cX6_bestShift 25 = .ok (.istore_n 3, 1) := by decide +kernel
theorem dX6_bestShift_26 : decode cX6_bestShift 26 = .ok (.iconst 0, 1) := by decide +kernel
theorem dX6_bestShift_27 : decode cX6_bestShift 27 = .ok (.istore 4, 2) := by decide +kernel
theorem dX6_bestShift_29 : decode cX6_bestShift 29 = .ok (.iload 4, 2) := by decide +kernel
theorem dX6_bestShift_31 : decode cX6_bestShift 31 = .ok (.bipush 20, 2) := by decide +kernel
theorem dX6_bestShift_33 : decode cX6_bestShift 33 = .ok (.if_icmp .gt 67, 3) := by decide +kernel
theorem dX6_bestShift_36 : decode cX6_bestShift 36 = .ok (.iload 4, 2) := by decide +kernel
theorem dX6_bestShift_38 : decode cX6_bestShift 38 = .ok (.iconst 1, 1) := by decide +kernel
theorem dX6_bestShift_39 : decode cX6_bestShift 39 = .ok (.iadd, 1) := by decide +kernel
theorem dX6_bestShift_40 : decode cX6_bestShift 40 = .ok (.iconst 2, 1) := by decide +kernel
theorem dX6_bestShift_41 : decode cX6_bestShift 41 = .ok (.idiv, 1) := by decide +kernel
theorem dX6_bestShift_42 : decode cX6_bestShift 42 = .ok (.istore 5, 2) := by decide +kernel
theorem dX6_bestShift_44 : decode cX6_bestShift 44 = .ok (.iload 4, 2) := by decide +kernel
theorem dX6_bestShift_46 : decode cX6_bestShift 46 = .ok (.iconst 2, 1) := by decide +kernel
theorem dX6_bestShift_47 : decode cX6_bestShift 47 = .ok (.irem, 1) := by decide +kernel
theorem dX6_bestShift_48 : decode cX6_bestShift 48 = .ok (.iconst 1, 1) := by decide +kernel
theorem dX6_bestShift_49 : decode cX6_bestShift 49 = .ok (.if_icmp .ne 8, 3) := by decide +kernel
theorem dX6_bestShift_52 : decode cX6_bestShift 52 = .ok (.iload 5, 2) := by decide +kernel
theorem dX6_bestShift_54 : decode cX6_bestShift 54 = .ok (.goto 6, 3) := by decide +kernel
theorem dX6_bestShift_57 : decode cX6_bestShift 57 = .ok (.iload 5, 2) := by decide +kernel
theorem dX6_bestShift_59 : decode cX6_bestShift 59 = .ok (.ineg, 1) := by decide +kernel
theorem dX6_bestShift_60 : decode cX6_bestShift 60 = .ok (.istore 6, 2) := by decide +kernel
theorem dX6_bestShift_62 : decode cX6_bestShift 62 = .ok (.aload_n 0, 1) := by decide +kernel
theorem dX6_bestShift_63 : decode cX6_bestShift 63 = .ok (.iload_n 1, 1) := by decide +kernel
theorem dX6_bestShift_64 : decode cX6_bestShift 64 = .ok (.iload 6, 2) := by decide +kernel
theorem dX6_bestShift_66 : decode cX6_bestShift 66 = .ok (.invokevirtual 262, 3) := by decide +kernel
theorem dX6_bestShift_69 : decode cX6_bestShift 69 = .ok (.istore 7, 2) := by decide +kernel
theorem dX6_bestShift_71 : decode cX6_bestShift 71 = .ok (.iload 7, 2) := by decide +kernel
theorem dX6_bestShift_73 : decode cX6_bestShift 73 = .ok (.iconst (-1), 1) := by decide +kernel
theorem dX6_bestShift_74 : decode cX6_bestShift 74 = .ok (.if_icmp .eq 20, 3) := by decide +kernel
theorem dX6_bestShift_77 : decode cX6_bestShift 77 = .ok (.iload_n 3, 1) := by decide +kernel
theorem dX6_bestShift_78 : decode cX6_bestShift 78 = .ok (.iconst (-1), 1) := by decide +kernel
theorem dX6_bestShift_79 : decode cX6_bestShift 79 = .ok (.if_icmp .eq 9, 3) := by decide +kernel
theorem dX6_bestShift_82 : decode cX6_bestShift 82 = .ok (.iload 7, 2) := by decide +kernel
theorem dX6_bestShift_84 : decode cX6_bestShift 84 = .ok (.iload_n 3, 1) := by decide +kernel
theorem dX6_bestShift_85 : decode cX6_bestShift 85 = .ok (.if_icmp .ge 9, 3) := by decide +kernel
theorem dX6_bestShift_88 : decode cX6_bestShift 88 = .ok (.iload 7, 2) := by decide +kernel
theorem dX6_bestShift_90 : decode cX6_bestShift 90 = .ok (.istore_n 3, 1) := by decide +kernel
theorem dX6_bestShift_91 : decode cX6_bestShift 91 = .ok (.iload 6, 2) := by decide +kernel
theorem dX6_bestShift_93 : decode cX6_bestShift 93 = .ok (.istore_n 2, 1) := by decide +kernel
theorem dX6_bestShift_94 : decode cX6_bestShift 94 = .ok (.iinc 4 1, 3) := by decide +kernel
theorem dX6_bestShift_97 : decode cX6_bestShift 97 = .ok (.goto (-68), 3) := by decide +kernel
theorem dX6_bestShift_100 : decode cX6_bestShift 100 = .ok (.iload_n 2, 1) := by decide +kernel
theorem dX6_bestShift_101 : decode cX6_bestShift 101 = .ok (.bipush 10, 2) := by decide +kernel
theorem dX6_bestShift_103 : decode cX6_bestShift 103 = .ok (.iadd, 1) := by decide +kernel
theorem dX6_bestShift_104 : decode cX6_bestShift 104 = .ok (.ireturn, 1) := by decide +kernel
set_option maxRecDepth 20000 in
theorem ggX6_loudestQuiet_X6_checkNumber : GoodIn wsX6_loudestQuiet wsX6_checkNumber := goodIn_ca (goodIn_r _ [9, 10, 11, 12, 13, 14, 15, 16, 125, 126, 127] (by decide +kernel) (by decide +kernel)) (goodIn_sub (fun _ h => List.mem_cons_of_mem _ (List.mem_append_right _ h)) (by decide +kernel))
set_option maxRecDepth 20000 in
theorem gX6_loudestQuiet_X6_checkNumber : GoodIn wsX6_loudestQuiet (va_wsS RX6 75 yX6_checkNumber wsX6_checkNumber) := goodIn_app (goodIn_of _ (by decide +kernel)) ggX6_loudestQuiet_X6_checkNumber
set_option maxRecDepth 20000 in
theorem ggX6_loudestQuiet_X4_copyFrom : GoodIn wsX6_loudestQuiet wsX4_copyFrom := goodIn_r _ [20, 21, 22, 23, 24, 13, 25, 26, 27, 16, 28, 8, 29, 122, 123, 124, 125, 126, 127] (by decide +kernel) (by decide +kernel)
set_option maxRecDepth 20000 in
theorem gX6_loudestQuiet_X4_copyFrom_n173 : GoodIn wsX6_loudestQuiet (wsX4_copyFrom) := ggX6_loudestQuiet_X4_copyFrom
set_option maxRecDepth 20000 in
theorem ggX6_loudestQuiet_X1_drop : GoodIn wsX6_loudestQuiet wsX1_drop := goodIn_r _ [32, 27, 16, 33, 12, 14, 13, 15, 34, 8, 35, 36, 37, 125, 126, 127] (by decide +kernel) (by decide +kernel)
set_option maxRecDepth 20000 in
theorem gX6_loudestQuiet_X1_drop_n83 : GoodIn wsX6_loudestQuiet (wsX1_drop) := ggX6_loudestQuiet_X1_drop
set_option maxRecDepth 20000 in
theorem ggX6_loudestQuiet_X3_refresh : GoodIn wsX6_loudestQuiet wsX3_refresh := goodIn_r _ [41, 42, 43, 44, 45, 13, 46, 47, 16, 48, 49, 50, 51, 52, 53, 54, 55, 27, 34, 8, 35, 36, 37, 56, 57, 58, 39, 59, 60, 61, 62, 63, 64, 65, 18, 66, 67, 23, 68, 69, 70, 71, 72, 73, 74, 75, 76, 77, 78, 79, 80, 81, 82, 83, 84, 85, 86, 87, 88, 89, 90, 91, 92, 93, 94, 95, 96, 97, 98, 99, 128, 129, 130, 131, 132, 133, 134, 135, 122, 123, 124, 125, 126, 127] (by decide +kernel) (by decide +kernel)
set_option maxRecDepth 20000 in
theorem gX6_loudestQuiet_X3_refresh_n181 : GoodIn wsX6_loudestQuiet (wsX3_refresh) := ggX6_loudestQuiet_X3_refresh
set_option maxRecDepth 20000 in
theorem ggX6_loudestQuiet_X3_maskedSeconds : GoodIn wsX6_loudestQuiet wsX3_maskedSeconds := goodIn_r _ [102, 91, 34, 8, 35, 103, 104, 105, 106, 107, 108, 109, 128, 129, 130, 131, 132, 133, 134, 135] (by decide +kernel) (by decide +kernel)
set_option maxRecDepth 20000 in
theorem gX6_loudestQuiet_X3_maskedSeconds_n241 : GoodIn wsX6_loudestQuiet (wsX3_maskedSeconds) := ggX6_loudestQuiet_X3_maskedSeconds
set_option maxRecDepth 20000 in
theorem ggX6_loudestQuiet_X6_entry : GoodIn wsX6_loudestQuiet wsX6_entry := goodIn_r _ [35] (by decide +kernel) (by decide +kernel)
set_option maxRecDepth 20000 in
theorem gX6_loudestQuiet_X6_entry : GoodIn wsX6_loudestQuiet (va_wsS RX6 215 yX6_entry wsX6_entry) := goodIn_app (goodIn_of _ (by decide +kernel)) ggX6_loudestQuiet_X6_entry
set_option maxRecDepth 20000 in
theorem ggX6_loudestQuiet_X1_change : GoodIn wsX6_loudestQuiet wsX1_change := goodIn_r _ [113, 27, 36, 8, 37, 125, 126, 127] (by decide +kernel) (by decide +kernel)
set_option maxRecDepth 20000 in
theorem gX6_loudestQuiet_X1_change_n110 : GoodIn wsX6_loudestQuiet (wsX1_change) := ggX6_loudestQuiet_X1_change
theorem dX6_loudestQuiet_0 : decode cX6_loudestQuiet 0 = .ok (.aload_n 0, 1) := by decide +kernel
theorem dX6_loudestQuiet_1 : decode cX6_loudestQuiet 1 = .ok (.getfield 23, 3) := by decide +kernel
theorem dX6_loudestQuiet_4 : decode cX6_loudestQuiet 4 = .ok (.getfield 68, 3) := by decide +kernel
theorem dX6_loudestQuiet_7 : decode cX6_loudestQuiet 7 = .ok (.iload_n 1, 1) := by decide +kernel
theorem dX6_loudestQuiet_8 : decode cX6_loudestQuiet 8 = .ok (.invokestatic 75, 3) := by decide +kernel
theorem dX6_loudestQuiet_11 : decode cX6_loudestQuiet 11 = .ok (.aload_n 0, 1) := by decide +kernel
theorem dX6_loudestQuiet_12 : decode cX6_loudestQuiet 12 = .ok (.getfield 26, 3) := by decide +kernel
theorem dX6_loudestQuiet_15 : decode cX6_loudestQuiet 15 = .ok (.aload_n 0, 1) := by decide +kernel
theorem dX6_loudestQuiet_16 : decode cX6_loudestQuiet 16 = .ok (.getfield 23, 3) := by decide +kernel
theorem dX6_loudestQuiet_19 : decode cX6_loudestQuiet 19 = .ok (.invokevirtual 173, 3) := by decide +kernel
theorem dX6_loudestQuiet_22 : decode cX6_loudestQuiet 22 = .ok (.aload_n 0, 1) := by decide +kernel
theorem dX6_loudestQuiet_23 : decode cX6_loudestQuiet 23 = .ok (.getfield 26, 3) := by decide +kernel
theorem dX6_loudestQuiet_26 : decode cX6_loudestQuiet 26 = .ok (.getfield 68, 3) := by decide +kernel
theorem dX6_loudestQuiet_29 : decode cX6_loudestQuiet 29 = .ok (.iload_n 1, 1) := by decide +kernel
theorem dX6_loudestQuiet_30 : decode cX6_loudestQuiet 30 = .ok (.invokevirtual 83, 3) := by decide +kernel
theorem dX6_loudestQuiet_33 : decode cX6_loudestQuiet 33 = .ok (.aload_n 0, 1) := by decide +kernel
theorem dX6_loudestQuiet_34 : decode cX6_loudestQuiet 34 = .ok (.getfield 16, 3) := by decide +kernel
theorem dX6_loudestQuiet_37 : decode cX6_loudestQuiet 37 = .ok (.invokevirtual 181, 3) := by decide +kernel
theorem dX6_loudestQuiet_40 : decode cX6_loudestQuiet 40 = .ok (.aload_n 0, 1) := by decide +kernel
theorem dX6_loudestQuiet_41 : decode cX6_loudestQuiet 41 = .ok (.getfield 16, 3) := by decide +kernel
theorem dX6_loudestQuiet_44 : decode cX6_loudestQuiet 44 = .ok (.invokevirtual 241, 3) := by decide +kernel
theorem dX6_loudestQuiet_47 : decode cX6_loudestQuiet 47 = .ok (.istore_n 2, 1) := by decide +kernel
theorem dX6_loudestQuiet_48 : decode cX6_loudestQuiet 48 = .ok (.aload_n 0, 1) := by decide +kernel
theorem dX6_loudestQuiet_49 : decode cX6_loudestQuiet 49 = .ok (.getfield 26, 3) := by decide +kernel
theorem dX6_loudestQuiet_52 : decode cX6_loudestQuiet 52 = .ok (.aload_n 0, 1) := by decide +kernel
theorem dX6_loudestQuiet_53 : decode cX6_loudestQuiet 53 = .ok (.getfield 23, 3) := by decide +kernel
theorem dX6_loudestQuiet_56 : decode cX6_loudestQuiet 56 = .ok (.invokevirtual 173, 3) := by decide +kernel
theorem dX6_loudestQuiet_59 : decode cX6_loudestQuiet 59 = .ok (.getstatic 265, 3) := by decide +kernel
theorem dX6_loudestQuiet_62 : decode cX6_loudestQuiet 62 = .ok (.iconst 2, 1) := by decide +kernel
theorem dX6_loudestQuiet_63 : decode cX6_loudestQuiet 63 = .ok (.invokestatic 215, 3) := by decide +kernel
theorem dX6_loudestQuiet_66 : decode cX6_loudestQuiet 66 = .ok (.istore_n 3, 1) := by decide +kernel
theorem dX6_loudestQuiet_67 : decode cX6_loudestQuiet 67 = .ok (.iload_n 3, 1) := by decide +kernel
theorem dX6_loudestQuiet_68 : decode cX6_loudestQuiet 68 = .ok (.getstatic 268, 3) := by decide +kernel
theorem dX6_loudestQuiet_71 : decode cX6_loudestQuiet 71 = .ok (.iconst 2, 1) := by decide +kernel
theorem dX6_loudestQuiet_72 : decode cX6_loudestQuiet 72 = .ok (.invokestatic 215, 3) := by decide +kernel
theorem dX6_loudestQuiet_75 : decode cX6_loudestQuiet 75 = .ok (.if_icmp .lt 42, 3) := by decide +kernel
theorem dX6_loudestQuiet_78 : decode cX6_loudestQuiet 78 = .ok (.aload_n 0, 1) := by decide +kernel
theorem dX6_loudestQuiet_79 : decode cX6_loudestQuiet 79 = .ok (.getfield 26, 3) := by decide +kernel
theorem dX6_loudestQuiet_82 : decode cX6_loudestQuiet 82 = .ok (.getfield 68, 3) := by decide +kernel
theorem dX6_loudestQuiet_85 : decode cX6_loudestQuiet 85 = .ok (.iload_n 1, 1) := by decide +kernel
theorem dX6_loudestQuiet_86 : decode cX6_loudestQuiet 86 = .ok (.iconst 2, 1) := by decide +kernel
theorem dX6_loudestQuiet_87 : decode cX6_loudestQuiet 87 = .ok (.iload_n 3, 1) := by decide +kernel
theorem dX6_loudestQuiet_88 : decode cX6_loudestQuiet 88 = .ok (.invokevirtual 110, 3) := by decide +kernel
theorem dX6_loudestQuiet_91 : decode cX6_loudestQuiet 91 = .ok (.aload_n 0, 1) := by decide +kernel
theorem dX6_loudestQuiet_92 : decode cX6_loudestQuiet 92 = .ok (.getfield 16, 3) := by decide +kernel
theorem dX6_loudestQuiet_95 : decode cX6_loudestQuiet 95 = .ok (.invokevirtual 181, 3) := by decide +kernel
theorem dX6_loudestQuiet_98 : decode cX6_loudestQuiet 98 = .ok (.aload_n 0, 1) := by decide +kernel
theorem dX6_loudestQuiet_99 : decode cX6_loudestQuiet 99 = .ok (.getfield 16, 3) := by decide +kernel
theorem dX6_loudestQuiet_102 : decode cX6_loudestQuiet 102 = .ok (.invokevirtual 241, 3) := by decide +kernel
theorem dX6_loudestQuiet_105 : decode cX6_loudestQuiet 105 = .ok (.iload_n 2, 1) := by decide +kernel
theorem dX6_loudestQuiet_106 : decode cX6_loudestQuiet 106 = .ok (.if_icmp .gt 5, 3) := by decide +kernel
theorem dX6_loudestQuiet_109 : decode cX6_loudestQuiet 109 = .ok (.iload_n 3, 1) := by decide +kernel
theorem dX6_loudestQuiet_110 : decode cX6_loudestQuiet 110 = .ok (.ireturn, 1) := by decide +kernel
theorem dX6_loudestQuiet_111 : decode cX6_loudestQuiet 111 = .ok (.iinc 3 (-1), 3) := by decide +kernel
theorem dX6_loudestQuiet_114 : decode cX6_loudestQuiet 114 = .ok (.goto (-47), 3) := by decide +kernel
theorem dX6_loudestQuiet_117 : decode cX6_loudestQuiet 117 = .ok (.iconst 0, 1) := by decide +kernel
theorem dX6_loudestQuiet_118 : decode cX6_loudestQuiet 118 = .ok (.ireturn, 1) := by decide +kernel
set_option maxRecDepth 20000 in
theorem ggX6_heard_X3_refresh : GoodIn wsX6_heard wsX3_refresh := goodIn_r _ [6, 7, 8, 9, 10, 11, 12, 13, 14, 15, 16, 17, 18, 19, 20, 21, 22, 23, 24, 25, 26, 27, 28, 29, 30, 31, 4, 32, 33, 34, 35, 36, 37, 38, 39, 40, 41, 42, 43, 44, 45, 46, 47, 48, 49, 50, 51, 52, 53, 54, 55, 56, 57, 58, 59, 60, 61, 62, 63, 64, 65, 66, 67, 68, 69, 70, 71, 72, 73, 74, 96, 97, 98, 99, 100, 101, 102, 103, 93, 94, 95, 104, 105, 106] (by decide +kernel) (by decide +kernel)
set_option maxRecDepth 20000 in
theorem gX6_heard_X3_refresh_n181 : GoodIn wsX6_heard (wsX3_refresh) := ggX6_heard_X3_refresh
set_option maxRecDepth 20000 in
theorem ggX6_heard_X1_size : GoodIn wsX6_heard wsX1_size := goodIn_r _ [52, 14, 104, 105, 106] (by decide +kernel) (by decide +kernel)
set_option maxRecDepth 20000 in
theorem gX6_heard_X1_size_n89 : GoodIn wsX6_heard (wsX1_size) := ggX6_heard_X1_size
set_option maxRecDepth 20000 in
theorem ggX6_heard_X1_numberOf : GoodIn wsX6_heard wsX1_numberOf := goodIn_r _ [22, 23, 104, 105, 106] (by decide +kernel) (by decide +kernel)
set_option maxRecDepth 20000 in
theorem gX6_heard_X1_numberOf_n100 : GoodIn wsX6_heard (wsX1_numberOf) := ggX6_heard_X1_numberOf
set_option maxRecDepth 20000 in
theorem ggX6_heard_X3_maskedSeconds : GoodIn wsX6_heard wsX3_maskedSeconds := goodIn_r _ [77, 66, 24, 25, 26, 78, 79, 80, 81, 82, 83, 84, 96, 97, 98, 99, 100, 101, 102, 103] (by decide +kernel) (by decide +kernel)
set_option maxRecDepth 20000 in
theorem gX6_heard_X3_maskedSeconds_n241 : GoodIn wsX6_heard (wsX3_maskedSeconds) := ggX6_heard_X3_maskedSeconds
theorem dX6_heard_0 : decode cX6_heard 0 = .ok (.aload_n 0, 1) := by decide +kernel
theorem dX6_heard_1 : decode cX6_heard 1 = .ok (.getfield 10, 3) := by decide +kernel
theorem dX6_heard_4 : decode cX6_heard 4 = .ok (.invokevirtual 181, 3) := by decide +kernel
theorem dX6_heard_7 : decode cX6_heard 7 = .ok (.iconst 0, 1) := by decide +kernel
theorem dX6_heard_8 : decode cX6_heard 8 = .ok (.istore_n 1, 1) := by decide +kernel
theorem dX6_heard_9 : decode cX6_heard 9 = .ok (.iconst 0, 1) := by decide +kernel
theorem dX6_heard_10 : decode cX6_heard 10 = .ok (.istore_n 2, 1) := by decide +kernel
theorem dX6_heard_11 : decode cX6_heard 11 = .ok (.iload_n 2, 1) := by decide +kernel
theorem dX6_heard_12 : decode cX6_heard 12 = .ok (.aload_n 0, 1) := by decide +kernel
theorem dX6_heard_13 : decode cX6_heard 13 = .ok (.getfield 23, 3) := by decide +kernel
theorem dX6_heard_16 : decode cX6_heard 16 = .ok (.getfield 60, 3) := by decide +kernel
theorem dX6_heard_19 : decode cX6_heard 19 = .ok (.invokevirtual 89, 3) := by decide +kernel
theorem dX6_heard_22 : decode cX6_heard 22 = .ok (.if_icmp .ge 24, 3) := by decide +kernel
theorem dX6_heard_25 : decode cX6_heard 25 = .ok (.iload_n 1, 1) := by decide +kernel
theorem dX6_heard_26 : decode cX6_heard 26 = .ok (.aload_n 0, 1) := by decide +kernel
theorem dX6_heard_27 : decode cX6_heard 27 = .ok (.getfield 23, 3) := by decide +kernel
theorem dX6_heard_30 : decode cX6_heard 30 = .ok (.getfield 60, 3) := by decide +kernel
theorem dX6_heard_33 : decode cX6_heard 33 = .ok (.iload_n 2, 1) := by decide +kernel
theorem dX6_heard_34 : decode cX6_heard 34 = .ok (.iconst 1, 1) := by decide +kernel
theorem dX6_heard_35 : decode cX6_heard 35 = .ok (.invokevirtual 100, 3) := by decide +kernel
theorem dX6_heard_38 : decode cX6_heard 38 = .ok (.iadd, 1) := by decide +kernel
theorem dX6_heard_39 : decode cX6_heard 39 = .ok (.istore_n 1, 1) := by decide +kernel
theorem dX6_heard_40 : decode cX6_heard 40 = .ok (.iinc 2 1, 3) := by decide +kernel
theorem dX6_heard_43 : decode cX6_heard 43 = .ok (.goto (-32), 3) := by decide +kernel
theorem dX6_heard_46 : decode cX6_heard 46 = .ok (.iload_n 1, 1) := by decide +kernel
theorem dX6_heard_47 : decode cX6_heard 47 = .ok (.ifCond .ne 5, 3) := by decide +kernel
theorem dX6_heard_50 : decode cX6_heard 50 = .ok (.dconst 1, 1) := by decide +kernel
theorem dX6_heard_51 : decode cX6_heard 51 = .ok (.dreturn, 1) := by decide +kernel
theorem dX6_heard_52 : decode cX6_heard 52 = .ok (.iload_n 1, 1) := by decide +kernel
theorem dX6_heard_53 : decode cX6_heard 53 = .ok (.aload_n 0, 1) := by decide +kernel
theorem dX6_heard_54 : decode cX6_heard 54 = .ok (.getfield 10, 3) := by decide +kernel
theorem dX6_heard_57 : decode cX6_heard 57 = .ok (.invokevirtual 241, 3) := by decide +kernel
theorem dX6_heard_60 : decode cX6_heard 60 = .ok (.isub, 1) := by decide +kernel
theorem dX6_heard_61 : decode cX6_heard 61 = .ok (.i2d, 1) := by decide +kernel
theorem dX6_heard_62 : decode cX6_heard 62 = .ok (.iload_n 1, 1) := by decide +kernel
theorem dX6_heard_63 : decode cX6_heard 63 = .ok (.i2d, 1) := by decide +kernel
theorem dX6_heard_64 : decode cX6_heard 64 = .ok (.ddiv, 1) := by decide +kernel
theorem dX6_heard_65 : decode cX6_heard 65 = .ok (.dreturn, 1) := by decide +kernel
theorem dX6_entry_0 : decode cX6_entry 0 = .ok (.iload_n 1, 1) := by decide +kernel
theorem dX6_entry_1 : decode cX6_entry 1 = .ok (.ifCond .lt 15, 3) := by decide +kernel
theorem dX6_entry_4 : decode cX6_entry 4 = .ok (.iload_n 1, 1) := by decide +kernel
theorem dX6_entry_5 : decode cX6_entry 5 = .ok (.aload_n 0, 1) := by decide +kernel
theorem dX6_entry_6 : decode cX6_entry 6 = .ok (.arraylength, 1) := by decide +kernel
theorem dX6_entry_7 : decode cX6_entry 7 = .ok (.if_icmp .ge 9, 3) := by decide +kernel
theorem dX6_entry_10 : decode cX6_entry 10 = .ok (.aload_n 0, 1) := by decide +kernel
theorem dX6_entry_11 : decode cX6_entry 11 = .ok (.iload_n 1, 1) := by decide +kernel
theorem dX6_entry_12 : decode cX6_entry 12 = .ok (.iaload, 1) := by decide +kernel
theorem dX6_entry_13 : decode cX6_entry 13 = .ok (.goto 4, 3) := by decide +kernel
theorem dX6_entry_16 : decode cX6_entry 16 = .ok (.iconst 0, 1) := by decide +kernel
theorem dX6_entry_17 : decode cX6_entry 17 = .ok (.ireturn, 1) := by decide +kernel
theorem dX6_put_0 : decode cX6_put 0 = .ok (.iload_n 1, 1) := by decide +kernel
theorem dX6_put_1 : decode cX6_put 1 = .ok (.ifCond .lt 13, 3) := by decide +kernel
theorem dX6_put_4 : decode cX6_put 4 = .ok (.iload_n 1, 1) := by decide +kernel
theorem dX6_put_5 : decode cX6_put 5 = .ok (.aload_n 0, 1) := by decide +kernel
theorem dX6_put_6 : decode cX6_put 6 = .ok (.arraylength, 1) := by decide +kernel
theorem dX6_put_7 : decode cX6_put 7 = .ok (.if_icmp .ge 7, 3) := by decide +kernel
theorem dX6_put_10 : decode cX6_put 10 = .ok (.aload_n 0, 1) := by decide +kernel
theorem dX6_put_11 : decode cX6_put 11 = .ok (.iload_n 1, 1) := by decide +kernel
theorem dX6_put_12 : decode cX6_put 12 = .ok (.iload_n 2, 1) := by decide +kernel
theorem dX6_put_13 : decode cX6_put 13 = .ok (.iastore, 1) := by decide +kernel
theorem dX6_put_14 : decode cX6_put 14 = .ok (.return_, 1) := by decide +kernel
theorem dX6_copyRow_0 : decode cX6_copyRow 0 = .ok (.iconst 0, 1) := by decide +kernel
theorem dX6_copyRow_1 : decode cX6_copyRow 1 = .ok (.istore_n 2, 1) := by decide +kernel
theorem dX6_copyRow_2 : decode cX6_copyRow 2 = .ok (.iload_n 2, 1) := by decide +kernel
theorem dX6_copyRow_3 : decode cX6_copyRow 3 = .ok (.aload_n 0, 1) := by decide +kernel
theorem dX6_copyRow_4 : decode cX6_copyRow 4 = .ok (.arraylength, 1) := by decide +kernel
theorem dX6_copyRow_5 : decode cX6_copyRow 5 = .ok (.if_icmp .ge 21, 3) := by decide +kernel
theorem dX6_copyRow_8 : decode cX6_copyRow 8 = .ok (.iload_n 2, 1) := by decide +kernel
theorem dX6_copyRow_9 : decode cX6_copyRow 9 = .ok (.aload_n 1, 1) := by decide +kernel
theorem dX6_copyRow_10 : decode cX6_copyRow 10 = .ok (.arraylength, 1) := by decide +kernel
theorem dX6_copyRow_11 : decode cX6_copyRow 11 = .ok (.if_icmp .ge 15, 3) := by decide +kernel
theorem dX6_copyRow_14 : decode cX6_copyRow 14 = .ok (.aload_n 1, 1) := by decide +kernel
theorem dX6_copyRow_15 : decode cX6_copyRow 15 = .ok (.iload_n 2, 1) := by decide +kernel
theorem dX6_copyRow_16 : decode cX6_copyRow 16 = .ok (.aload_n 0, 1) := by decide +kernel
theorem dX6_copyRow_17 : decode cX6_copyRow 17 = .ok (.iload_n 2, 1) := by decide +kernel
theorem dX6_copyRow_18 : decode cX6_copyRow 18 = .ok (.iaload, 1) := by decide +kernel
theorem dX6_copyRow_19 : decode cX6_copyRow 19 = .ok (.iastore, 1) := by decide +kernel
theorem dX6_copyRow_20 : decode cX6_copyRow 20 = .ok (.iinc 2 1, 3) := by decide +kernel
theorem dX6_copyRow_23 : decode cX6_copyRow 23 = .ok (.goto (-21), 3) := by decide +kernel
theorem dX6_copyRow_26 : decode cX6_copyRow 26 = .ok (.return_, 1) := by decide +kernel
theorem dX6_hasBit_0 : decode cX6_hasBit 0 = .ok (.iload_n 0, 1) := by decide +kernel
theorem dX6_hasBit_1 : decode cX6_hasBit 1 = .ok (.iload_n 1, 1) := by decide +kernel
theorem dX6_hasBit_2 : decode cX6_hasBit 2 = .ok (.ishr, 1) := by decide +kernel
theorem dX6_hasBit_3 : decode cX6_hasBit 3 = .ok (.iconst 1, 1) := by decide +kernel
theorem dX6_hasBit_4 : decode cX6_hasBit 4 = .ok (.iand, 1) := by decide +kernel
theorem dX6_hasBit_5 : decode cX6_hasBit 5 = .ok (.ifCond .eq 7, 3) := by decide +kernel
theorem dX6_hasBit_8 : decode cX6_hasBit 8 = .ok (.iconst 1, 1) := by decide +kernel
theorem dX6_hasBit_9 : decode cX6_hasBit 9 = .ok (.goto 4, 3) := by decide +kernel
theorem dX6_hasBit_12 : decode cX6_hasBit 12 = .ok (.iconst 0, 1) := by decide +kernel
theorem dX6_hasBit_13 : decode cX6_hasBit 13 = .ok (.ireturn, 1) := by decide +kernel
set_option maxRecDepth 20000 in
theorem ggX6_fitsCue_X6_entry : GoodIn wsX6_fitsCue wsX6_entry := goodIn_r _ [6] (by decide +kernel) (by decide +kernel)
set_option maxRecDepth 20000 in
theorem gX6_fitsCue_X6_entry : GoodIn wsX6_fitsCue (va_wsS RX6 215 yX6_entry wsX6_entry) := goodIn_app (goodIn_of _ (by decide +kernel)) ggX6_fitsCue_X6_entry
theorem dX6_fitsCue_0 : decode cX6_fitsCue 0 = .ok (.iload_n 1, 1) := by decide +kernel
theorem dX6_fitsCue_1 : decode cX6_fitsCue 1 = .ok (.getstatic 268, 3) := by decide +kernel
theorem dX6_fitsCue_4 : decode cX6_fitsCue 4 = .ok (.iload_n 0, 1) := by decide +kernel
theorem dX6_fitsCue_5 : decode cX6_fitsCue 5 = .ok (.invokestatic 215, 3) := by decide +kernel
theorem dX6_fitsCue_8 : decode cX6_fitsCue 8 = .ok (.if_icmp .lt 18, 3) := by decide +kernel
theorem dX6_fitsCue_11 : decode cX6_fitsCue 11 = .ok (.iload_n 1, 1) := by decide +kernel
theorem dX6_fitsCue_12 : decode cX6_fitsCue 12 = .ok (.getstatic 265, 3) := by decide +kernel
theorem dX6_fitsCue_15 : decode cX6_fitsCue 15 = .ok (.iload_n 0, 1) := by decide +kernel
theorem dX6_fitsCue_16 : decode cX6_fitsCue 16 = .ok (.invokestatic 215, 3) := by decide +kernel
theorem dX6_fitsCue_19 : decode cX6_fitsCue 19 = .ok (.if_icmp .gt 7, 3) := by decide +kernel
theorem dX6_fitsCue_22 : decode cX6_fitsCue 22 = .ok (.iconst 1, 1) := by decide +kernel
theorem dX6_fitsCue_23 : decode cX6_fitsCue 23 = .ok (.goto 4, 3) := by decide +kernel
theorem dX6_fitsCue_26 : decode cX6_fitsCue 26 = .ok (.iconst 0, 1) := by decide +kernel
theorem dX6_fitsCue_27 : decode cX6_fitsCue 27 = .ok (.ireturn, 1) := by decide +kernel
set_option maxRecDepth 20000 in
theorem ggX6_checkCue_X6_fitsCue : GoodIn wsX6_checkCue wsX6_fitsCue := goodIn_r _ [6, 7, 8, 9, 10, 5, 11] (by decide +kernel) (by decide +kernel)
set_option maxRecDepth 20000 in
theorem gX6_checkCue_X6_fitsCue : GoodIn wsX6_checkCue (va_wsS RX6 104 yX6_fitsCue wsX6_fitsCue) := goodIn_app (goodIn_of _ (by decide +kernel)) ggX6_checkCue_X6_fitsCue
theorem dX6_checkCue_0 : decode cX6_checkCue 0 = .ok (.iconst 0, 1) := by decide +kernel
theorem dX6_checkCue_1 : decode cX6_checkCue 1 = .ok (.iload_n 0, 1) := by decide +kernel
theorem dX6_checkCue_2 : decode cX6_checkCue 2 = .ok (.invokestatic 104, 3) := by decide +kernel
theorem dX6_checkCue_5 : decode cX6_checkCue 5 = .ok (.ifCond .eq 19, 3) := by decide +kernel
theorem dX6_checkCue_8 : decode cX6_checkCue 8 = .ok (.iconst 1, 1) := by decide +kernel
theorem dX6_checkCue_9 : decode cX6_checkCue 9 = .ok (.iload_n 1, 1) := by decide +kernel
theorem dX6_checkCue_10 : decode cX6_checkCue 10 = .ok (.invokestatic 104, 3) := by decide +kernel
theorem dX6_checkCue_13 : decode cX6_checkCue 13 = .ok (.ifCond .eq 11, 3) := by decide +kernel
theorem dX6_checkCue_16 : decode cX6_checkCue 16 = .ok (.iconst 2, 1) := by decide +kernel
theorem dX6_checkCue_17 : decode cX6_checkCue 17 = .ok (.iload_n 2, 1) := by decide +kernel
theorem dX6_checkCue_18 : decode cX6_checkCue 18 = .ok (.invokestatic 104, 3) := by decide +kernel
theorem dX6_checkCue_21 : decode cX6_checkCue 21 = .ok (.ifCond .ne 14, 3) := by decide +kernel
theorem dX6_checkCue_24 : decode cX6_checkCue 24 = .ok (.new 93, 3) := by decide +kernel
theorem dX6_checkCue_27 : decode cX6_checkCue 27 = .ok (.dup, 1) := by decide +kernel
theorem dX6_checkCue_28 : decode cX6_checkCue 28 = .ok (.ldc_w 271, 3) := by decide +kernel
theorem dX6_checkCue_31 : decode cX6_checkCue 31 = .ok (.invokespecial 97, 3) := by decide +kernel
theorem dX6_checkCue_34 : decode cX6_checkCue 34 = .ok (.athrow, 1) := by decide +kernel
theorem dX6_checkCue_35 : decode cX6_checkCue 35 = .ok (.return_, 1) := by decide +kernel
set_option maxRecDepth 20000 in
theorem ggX6_checkNumber_X1_has : GoodIn wsX6_checkNumber wsX1_has := goodIn_r _ [6, 7, 8, 9, 10] (by decide +kernel) (by decide +kernel)
set_option maxRecDepth 20000 in
theorem gX6_checkNumber_X1_has_n273 : GoodIn wsX6_checkNumber (wsX1_has) := ggX6_checkNumber_X1_has
