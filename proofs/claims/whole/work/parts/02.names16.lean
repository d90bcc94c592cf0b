set_option maxRecDepth 20000 in
theorem gX7_second_X7_holds : GoodIn wsX7_second (wsV RX7 95 RX7 yX7_holds wsX7_holds) := goodIn_app (goodIn_of _ (by decide +kernel)) ggX7_second_X7_holds
set_option maxRecDepth 20000 in
theorem ggX7_second_X7_layOut : GoodIn wsX7_second wsX7_layOut := goodIn_r _ [15, 1, 16, 2, 17, 18, 19, 5, 20, 21, 22, 23, 24, 25, 26, 27, 3, 4, 6, 28, 29, 30, 31, 32, 33, 34, 35, 36, 37, 38, 39, 40, 41, 42, 43, 44, 45, 46, 47, 48, 49, 50, 59, 60, 61, 62, 63, 64, 65, 66, 67, 68, 69, 70, 71, 72] (by decide +kernel) (by decide +kernel)
set_option maxRecDepth 20000 in
theorem gX7_second_X7_layOut : GoodIn wsX7_second (wsV RX7 155 RX7 yX7_layOut wsX7_layOut) := goodIn_app (goodIn_of _ (by decide +kernel)) ggX7_second_X7_layOut
set_option maxRecDepth 20000 in
theorem ggX7_second_X7_wordsAt : GoodIn wsX7_second wsX7_wordsAt := goodIn_r _ [20, 16, 21, 22, 23, 5, 24, 25, 26, 27, 3, 4, 6, 59, 60, 61, 62, 63, 64, 65, 66, 67, 68, 69, 70, 71, 72] (by decide +kernel) (by decide +kernel)
set_option maxRecDepth 20000 in
theorem gX7_second_X7_wordsAt : GoodIn wsX7_second (wsV RX7 72 RX7 yX7_wordsAt wsX7_wordsAt) := goodIn_app (goodIn_of _ (by decide +kernel)) ggX7_second_X7_wordsAt
set_option maxRecDepth 20000 in
theorem ggX7_second_X7_noisesAt : GoodIn wsX7_second wsX7_noisesAt := goodIn_r _ [54, 16, 21, 22, 23, 5, 24, 25, 26, 27, 3, 4, 6, 59, 60, 61, 62, 63, 64, 65, 66, 67, 68, 69, 70, 71, 72] (by decide +kernel) (by decide +kernel)
set_option maxRecDepth 20000 in
theorem gX7_second_X7_noisesAt : GoodIn wsX7_second (wsV RX7 164 RX7 yX7_noisesAt wsX7_noisesAt) := goodIn_app (goodIn_of _ (by decide +kernel)) ggX7_second_X7_noisesAt
set_option maxRecDepth 20000 in
theorem ggX7_second_X7_level : GoodIn wsX7_second wsX7_level := goodIn_r _ [42, 16, 43, 44, 45, 5, 46, 1, 21, 22, 23, 24, 25, 26, 27, 3, 4, 6, 47, 48, 49, 50, 28, 29, 30, 31, 32, 33, 34, 59, 60, 61, 62, 63, 64, 65, 66, 67, 68, 69, 70, 71, 72] (by decide +kernel) (by decide +kernel)
set_option maxRecDepth 20000 in
theorem gX7_second_X7_level : GoodIn wsX7_second (wsV RX7 76 RX7 yX7_level wsX7_level) := goodIn_app (goodIn_of _ (by decide +kernel)) ggX7_second_X7_level
set_option maxRecDepth 20000 in
theorem ggX7_second_X7_strongest : GoodIn wsX7_second wsX7_strongest := goodIn_r _ [58, 16, 43, 44, 45, 5, 46, 1, 21, 22, 23, 24, 25, 26, 27, 3, 4, 6, 47, 48, 49, 50, 59, 60, 61, 62, 63, 64, 65, 66, 67, 68, 69, 70, 71, 72] (by decide +kernel) (by decide +kernel)
set_option maxRecDepth 20000 in
theorem gX7_second_X7_strongest : GoodIn wsX7_second (wsV RX7 167 RX7 yX7_strongest wsX7_strongest) := goodIn_app (goodIn_of _ (by decide +kernel)) ggX7_second_X7_strongest
theorem dX7_second_0 : decode cX7_second 0 = .ok (.aload_n 0, 1) := by decide +kernel
theorem dX7_second_1 : decode cX7_second 1 = .ok (.iload_n 1, 1) := by decide +kernel
theorem dX7_second_2 : decode cX7_second 2 = .ok (.iconst 0, 1) := by decide +kernel
theorem dX7_second_3 : decode cX7_second 3 = .ok (.bipush 119, 2) := by decide +kernel
theorem dX7_second_5 : decode cX7_second 5 = .ok (.invokestatic 39, 3) := by decide +kernel
theorem dX7_second_8 : decode cX7_second 8 = .ok (.ifCond .ne 7, 3) := by decide +kernel
theorem dX7_second_11 : decode cX7_second 11 = .ok (.iconst 1, 1) := by decide +kernel
theorem dX7_second_12 : decode cX7_second 12 = .ok (.goto 17, 3) := by decide +kernel
theorem dX7_second_15 : decode cX7_second 15 = .ok (.iload_n 2, 1) := by decide +kernel
theorem dX7_second_16 : decode cX7_second 16 = .ok (.iconst 0, 1) := by decide +kernel
theorem dX7_second_17 : decode cX7_second 17 = .ok (.iconst 5, 1) := by decide +kernel
theorem dX7_second_18 : decode cX7_second 18 = .ok (.invokestatic 39, 3) := by decide +kernel
theorem dX7_second_21 : decode cX7_second 21 = .ok (.ifCond .eq 7, 3) := by decide +kernel
theorem dX7_second_24 : decode cX7_second 24 = .ok (.iconst 0, 1) := by decide +kernel
theorem dX7_second_25 : decode cX7_second 25 = .ok (.goto 4, 3) := by decide +kernel
theorem dX7_second_28 : decode cX7_second 28 = .ok (.iconst 2, 1) := by decide +kernel
theorem dX7_second_29 : decode cX7_second 29 = .ok (.invokevirtual 95, 3) := by decide +kernel
theorem dX7_second_32 : decode cX7_second 32 = .ok (.ifCond .ne 5, 3) := by decide +kernel
theorem dX7_second_35 : decode cX7_second 35 = .ok (.iconst 0, 1) := by decide +kernel
theorem dX7_second_36 : decode cX7_second 36 = .ok (.ireturn, 1) := by decide +kernel
theorem dX7_second_37 : decode cX7_second 37 = .ok (.aload_n 0, 1) := by decide +kernel
theorem dX7_second_38 : decode cX7_second 38 = .ok (.invokevirtual 155, 3) := by decide +kernel
theorem dX7_second_41 : decode cX7_second 41 = .ok (.iload_n 2, 1) := by decide +kernel
theorem dX7_second_42 : decode cX7_second 42 = .ok (.tableswitch 67 0 4 #[34, 41, 47, 53, 60], 34) := by decide +kernel
theorem dX7_second_76 : decode cX7_second 76 = .ok (.aload_n 0, 1) := by decide +kernel
theorem dX7_second_77 : decode cX7_second 77 = .ok (.getfield 26, 3) := by decide +kernel
theorem dX7_second_80 : decode cX7_second 80 = .ok (.iload_n 1, 1) := by decide +kernel
theorem dX7_second_81 : decode cX7_second 81 = .ok (.iaload, 1) := by decide +kernel
theorem dX7_second_82 : decode cX7_second 82 = .ok (.ireturn, 1) := by decide +kernel
theorem dX7_second_83 : decode cX7_second 83 = .ok (.aload_n 0, 1) := by decide +kernel
theorem dX7_second_84 : decode cX7_second 84 = .ok (.iload_n 1, 1) := by decide +kernel
theorem dX7_second_85 : decode cX7_second 85 = .ok (.invokevirtual 72, 3) := by decide +kernel
theorem dX7_second_88 : decode cX7_second 88 = .ok (.ireturn, 1) := by decide +kernel
theorem dX7_second_89 : decode cX7_second 89 = .ok (.aload_n 0, 1) := by decide +kernel
theorem dX7_second_90 : decode cX7_second 90 = .ok (.iload_n 1, 1) := by decide +kernel
theorem dX7_second_91 : decode cX7_second 91 = .ok (.invokevirtual 164, 3) := by decide +kernel
theorem dX7_second_94 : decode cX7_second 94 = .ok (.ireturn, 1) := by decide +kernel
theorem dX7_second_95 : decode cX7_second 95 = .ok (.aload_n 0, 1) := by decide +kernel
theorem dX7_second_96 : decode cX7_second 96 = .ok (.iload_n 1, 1) := by decide +kernel
theorem dX7_second_97 : decode cX7_second 97 = .ok (.iconst 0, 1) := by decide +kernel
theorem dX7_second_98 : decode cX7_second 98 = .ok (.invokevirtual 76, 3) := by decide +kernel
theorem dX7_second_101 : decode cX7_second 101 = .ok (.ireturn, 1) := by decide +kernel
theorem dX7_second_102 : decode cX7_second 102 = .ok (.aload_n 0, 1) := by decide +kernel
theorem dX7_second_103 : decode cX7_second 103 = .ok (.getfield 29, 3) := by decide +kernel
theorem dX7_second_106 : decode cX7_second 106 = .ok (.iload_n 1, 1) := by decide +kernel
theorem dX7_second_107 : decode cX7_second 107 = .ok (.iaload, 1) := by decide +kernel
theorem dX7_second_108 : decode cX7_second 108 = .ok (.ireturn, 1) := by decide +kernel
theorem dX7_second_109 : decode cX7_second 109 = .ok (.aload_n 0, 1) := by decide +kernel
theorem dX7_second_110 : decode cX7_second 110 = .ok (.iload_n 1, 1) := by decide +kernel
theorem dX7_second_111 : decode cX7_second 111 = .ok (.invokevirtual 167, 3) := by decide +kernel
theorem dX7_second_114 : decode cX7_second 114 = .ok (.ireturn, 1) := by decide +kernel
set_option maxRecDepth 20000 in
theorem ggX7_total_X7_in : GoodIn wsX7_total wsX7_in := goodIn_r _ [5] (by decide +kernel) (by decide +kernel)
set_option maxRecDepth 20000 in
theorem gX7_total_X7_in : GoodIn wsX7_total (va_wsS RX7 39 yX7_in wsX7_in) := goodIn_app (goodIn_of _ (by decide +kernel)) ggX7_total_X7_in
set_option maxRecDepth 20000 in
theorem ggX7_total_X7_holds : GoodIn wsX7_total wsX7_holds := goodIn_r _ [9, 10, 19, 20, 21, 22, 23, 24, 25, 26, 27, 28, 29, 30, 31, 32] (by decide +kernel) (by decide +kernel)
set_option maxRecDepth 20000 in
theorem gX7_total_X7_holds : GoodIn wsX7_total (wsV RX7 95 RX7 yX7_holds wsX7_holds) := goodIn_app (goodIn_of _ (by decide +kernel)) ggX7_total_X7_holds
set_option maxRecDepth 20000 in
theorem ggX7_total_X7_ofWord : GoodIn wsX7_total wsX7_ofWord := goodIn_r _ [14, 1, 19, 20, 21, 22, 23, 24, 25, 26, 27, 28, 29, 30, 31, 32] (by decide +kernel) (by decide +kernel)
set_option maxRecDepth 20000 in
theorem gX7_total_X7_ofWord : GoodIn wsX7_total (wsV RX7 69 RX7 yX7_ofWord wsX7_ofWord) := goodIn_app (goodIn_of _ (by decide +kernel)) ggX7_total_X7_ofWord
set_option maxRecDepth 20000 in
theorem ggX7_total_X7_ofNoise : GoodIn wsX7_total wsX7_ofNoise := goodIn_r _ [18, 1, 19, 20, 21, 22, 23, 24, 25, 26, 27, 28, 29, 30, 31, 32] (by decide +kernel) (by decide +kernel)
set_option maxRecDepth 20000 in
theorem gX7_total_X7_ofNoise : GoodIn wsX7_total (wsV RX7 58 RX7 yX7_ofNoise wsX7_ofNoise) := goodIn_app (goodIn_of _ (by decide +kernel)) ggX7_total_X7_ofNoise
theorem dX7_total_0 : decode cX7_total 0 = .ok (.aload_n 0, 1) := by decide +kernel
theorem dX7_total_1 : decode cX7_total 1 = .ok (.iload_n 1, 1) := by decide +kernel
theorem dX7_total_2 : decode cX7_total 2 = .ok (.iconst 0, 1) := by decide +kernel
theorem dX7_total_3 : decode cX7_total 3 = .ok (.iconst 1, 1) := by decide +kernel
theorem dX7_total_4 : decode cX7_total 4 = .ok (.invokestatic 39, 3) := by decide +kernel
theorem dX7_total_7 : decode cX7_total 7 = .ok (.ifCond .eq 7, 3) := by decide +kernel
theorem dX7_total_10 : decode cX7_total 10 = .ok (.iconst 0, 1) := by decide +kernel
theorem dX7_total_11 : decode cX7_total 11 = .ok (.goto 4, 3) := by decide +kernel
theorem dX7_total_14 : decode cX7_total 14 = .ok (.iconst 1, 1) := by decide +kernel
theorem dX7_total_15 : decode cX7_total 15 = .ok (.invokevirtual 95, 3) := by decide +kernel
theorem dX7_total_18 : decode cX7_total 18 = .ok (.ifCond .ne 5, 3) := by decide +kernel
theorem dX7_total_21 : decode cX7_total 21 = .ok (.iconst 0, 1) := by decide +kernel
theorem dX7_total_22 : decode cX7_total 22 = .ok (.ireturn, 1) := by decide +kernel
theorem dX7_total_23 : decode cX7_total 23 = .ok (.iconst 0, 1) := by decide +kernel
theorem dX7_total_24 : decode cX7_total 24 = .ok (.istore_n 2, 1) := by decide +kernel
theorem dX7_total_25 : decode cX7_total 25 = .ok (.iconst 0, 1) := by decide +kernel
theorem dX7_total_26 : decode cX7_total 26 = .ok (.istore_n 3, 1) := by decide +kernel
theorem dX7_total_27 : decode cX7_total 27 = .ok (.iload_n 3, 1) := by decide +kernel
theorem dX7_total_28 : decode cX7_total 28 = .ok (.aload_n 0, 1) := by decide +kernel
theorem dX7_total_29 : decode cX7_total 29 = .ok (.getfield 7, 3) := by decide +kernel
theorem dX7_total_32 : decode cX7_total 32 = .ok (.iconst 5, 1) := by decide +kernel
theorem dX7_total_33 : decode cX7_total 33 = .ok (.iaload, 1) := by decide +kernel
theorem dX7_total_34 : decode cX7_total 34 = .ok (.if_icmp .ge 25, 3) := by decide +kernel
theorem dX7_total_37 : decode cX7_total 37 = .ok (.iload_n 2, 1) := by decide +kernel
theorem dX7_total_38 : decode cX7_total 38 = .ok (.aload_n 0, 1) := by decide +kernel
theorem dX7_total_39 : decode cX7_total 39 = .ok (.iload_n 3, 1) := by decide +kernel
theorem dX7_total_40 : decode cX7_total 40 = .ok (.iconst 1, 1) := by decide +kernel
theorem dX7_total_41 : decode cX7_total 41 = .ok (.invokevirtual 69, 3) := by decide +kernel
theorem dX7_total_44 : decode cX7_total 44 = .ok (.aload_n 0, 1) := by decide +kernel
theorem dX7_total_45 : decode cX7_total 45 = .ok (.iload_n 3, 1) := by decide +kernel
theorem dX7_total_46 : decode cX7_total 46 = .ok (.iconst 2, 1) := by decide +kernel
theorem dX7_total_47 : decode cX7_total 47 = .ok (.invokevirtual 69, 3) := by decide +kernel
theorem dX7_total_50 : decode cX7_total 50 = .ok (.imul, 1) := by decide +kernel
theorem dX7_total_51 : decode cX7_total 51 = .ok (.iadd, 1) := by decide +kernel
theorem dX7_total_52 : decode cX7_total 52 = .ok (.istore_n 2, 1) := by decide +kernel
theorem dX7_total_53 : decode cX7_total 53 = .ok (.iinc 3 1, 3) := by decide +kernel
theorem dX7_total_56 : decode cX7_total 56 = .ok (.goto (-29), 3) := by decide +kernel
theorem dX7_total_59 : decode cX7_total 59 = .ok (.iconst 0, 1) := by decide +kernel
theorem dX7_total_60 : decode cX7_total 60 = .ok (.istore_n 3, 1) := by decide +kernel
theorem dX7_total_61 : decode cX7_total 61 = .ok (.iload_n 3, 1) := by decide +kernel
theorem dX7_total_62 : decode cX7_total 62 = .ok (.aload_n 0, 1) := by decide +kernel
theorem dX7_total_63 : decode cX7_total 63 = .ok (.getfield 7, 3) := by decide +kernel
theorem dX7_total_66 : decode cX7_total 66 = .ok (.bipush 6, 2) := by decide +kernel
theorem dX7_total_68 : decode cX7_total 68 = .ok (.iaload, 1) := by decide +kernel
theorem dX7_total_69 : decode cX7_total 69 = .ok (.if_icmp .ge 25, 3) := by decide +kernel
theorem dX7_total_72 : decode cX7_total 72 = .ok (.iload_n 2, 1) := by decide +kernel
theorem dX7_total_73 : decode cX7_total 73 = .ok (.aload_n 0, 1) := by decide +kernel
theorem dX7_total_74 : decode cX7_total 74 = .ok (.iload_n 3, 1) := by decide +kernel
theorem dX7_total_75 : decode cX7_total 75 = .ok (.iconst 1, 1) := by decide +kernel
theorem dX7_total_76 : decode cX7_total 76 = .ok (.invokevirtual 58, 3) := by decide +kernel
theorem dX7_total_79 : decode cX7_total 79 = .ok (.aload_n 0, 1) := by decide +kernel
theorem dX7_total_80 : decode cX7_total 80 = .ok (.iload_n 3, 1) := by decide +kernel
theorem dX7_total_81 : decode cX7_total 81 = .ok (.iconst 2, 1) := by decide +kernel
theorem dX7_total_82 : decode cX7_total 82 = .ok (.invokevirtual 58, 3) := by decide +kernel
theorem dX7_total_85 : decode cX7_total 85 = .ok (.imul, 1) := by decide +kernel
theorem dX7_total_86 : decode cX7_total 86 = .ok (.iadd, 1) := by decide +kernel
theorem dX7_total_87 : decode cX7_total 87 = .ok (.istore_n 2, 1) := by decide +kernel
theorem dX7_total_88 : decode cX7_total 88 = .ok (.iinc 3 1, 3) := by decide +kernel
theorem dX7_total_91 : decode cX7_total 91 = .ok (.goto (-30), 3) := by decide +kernel
theorem dX7_total_94 : decode cX7_total 94 = .ok (.iload_n 2, 1) := by decide +kernel
theorem dX7_total_95 : decode cX7_total 95 = .ok (.ireturn, 1) := by decide +kernel
set_option maxRecDepth 20000 in
theorem ggX7_isSilent_X7_wordsAt : GoodIn wsX7_isSilent wsX7_wordsAt := goodIn_r _ [5, 6, 7, 8, 9, 4, 10, 11, 12, 13, 14, 15, 16, 21, 22, 23, 24, 25, 26, 27, 28, 29, 30, 31, 32, 33, 34] (by decide +kernel) (by decide +kernel)
set_option maxRecDepth 20000 in
theorem gX7_isSilent_X7_wordsAt : GoodIn wsX7_isSilent (wsV RX7 72 RX7 yX7_wordsAt wsX7_wordsAt) := goodIn_app (goodIn_of _ (by decide +kernel)) ggX7_isSilent_X7_wordsAt
set_option maxRecDepth 20000 in
theorem ggX7_isSilent_X7_noisesAt : GoodIn wsX7_isSilent wsX7_noisesAt := goodIn_r _ [20, 6, 7, 8, 9, 4, 10, 11, 12, 13, 14, 15, 16, 21, 22, 23, 24, 25, 26, 27, 28, 29, 30, 31, 32, 33, 34] (by decide +kernel) (by decide +kernel)
set_option maxRecDepth 20000 in
theorem gX7_isSilent_X7_noisesAt : GoodIn wsX7_isSilent (wsV RX7 164 RX7 yX7_noisesAt wsX7_noisesAt) := goodIn_app (goodIn_of _ (by decide +kernel)) ggX7_isSilent_X7_noisesAt
theorem dX7_isSilent_0 : decode cX7_isSilent 0 = .ok (.aload_n 0, 1) := by decide +kernel
theorem dX7_isSilent_1 : decode cX7_isSilent 1 = .ok (.iload_n 1, 1) := by decide +kernel
theorem dX7_isSilent_2 : decode cX7_isSilent 2 = .ok (.invokevirtual 72, 3) := by decide +kernel
theorem dX7_isSilent_5 : decode cX7_isSilent 5 = .ok (.ifCond .ne 15, 3) := by decide +kernel
theorem dX7_isSilent_8 : decode cX7_isSilent 8 = .ok (.aload_n 0, 1) := by decide +kernel
theorem dX7_isSilent_9 : decode cX7_isSilent 9 = .ok (.iload_n 1, 1) := by decide +kernel
theorem dX7_isSilent_10 : decode cX7_isSilent 10 = .ok (.invokevirtual 164, 3) := by decide +kernel
theorem dX7_isSilent_13 : decode cX7_isSilent 13 = .ok (.ifCond .ne 7, 3) := by decide +kernel
theorem dX7_isSilent_16 : decode cX7_isSilent 16 = .ok (.iconst 1, 1) := by decide +kernel
theorem dX7_isSilent_17 : decode cX7_isSilent 17 = .ok (.goto 4, 3) := by decide +kernel
theorem dX7_isSilent_20 : decode cX7_isSilent 20 = .ok (.iconst 0, 1) := by decide +kernel
theorem dX7_isSilent_21 : decode cX7_isSilent 21 = .ok (.ireturn, 1) := by decide +kernel
set_option maxRecDepth 20000 in
theorem ggX7_lastSecond_X7_isSilent : GoodIn wsX7_lastSecond wsX7_isSilent := goodIn_r _ [5, 6, 7, 8, 4, 9, 10, 11, 12, 13, 14, 15, 16, 17, 18, 19, 20, 21, 22, 23, 24, 25, 26, 27, 28, 29, 30, 31, 32, 33, 34, 35, 36, 37, 38] (by decide +kernel) (by decide +kernel)
set_option maxRecDepth 20000 in
theorem gX7_lastSecond_X7_isSilent : GoodIn wsX7_lastSecond (wsV RX7 170 RX7 yX7_isSilent wsX7_isSilent) := goodIn_app (goodIn_of _ (by decide +kernel)) ggX7_lastSecond_X7_isSilent
theorem dX7_lastSecond_0 : decode cX7_lastSecond 0 = .ok (.bipush 119, 2) := by decide +kernel
theorem dX7_lastSecond_2 : decode cX7_lastSecond 2 = .ok (.istore_n 1, 1) := by decide +kernel
theorem dX7_lastSecond_3 : decode cX7_lastSecond 3 = .ok (.iload_n 1, 1) := by decide +kernel
theorem dX7_lastSecond_4 : decode cX7_lastSecond 4 = .ok (.ifCond .lt 17, 3) := by decide +kernel
theorem dX7_lastSecond_7 : decode cX7_lastSecond 7 = .ok (.aload_n 0, 1) := by decide +kernel
theorem dX7_lastSecond_8 : decode cX7_lastSecond 8 = .ok (.iload_n 1, 1) := by decide +kernel
theorem dX7_lastSecond_9 : decode cX7_lastSecond 9 = .ok (.invokevirtual 170, 3) := by decide +kernel
theorem dX7_lastSecond_12 : decode cX7_lastSecond 12 = .ok (.ifCond .eq 9, 3) := by decide +kernel
theorem dX7_lastSecond_15 : decode cX7_lastSecond 15 = .ok (.iinc 1 (-1), 3) := by decide +kernel
theorem dX7_lastSecond_18 : decode cX7_lastSecond 18 = .ok (.goto (-15), 3) := by decide +kernel
theorem dX7_lastSecond_21 : decode cX7_lastSecond 21 = .ok (.iload_n 1, 1) := by decide +kernel
theorem dX7_lastSecond_22 : decode cX7_lastSecond 22 = .ok (.ireturn, 1) := by decide +kernel
set_option maxRecDepth 20000 in
theorem ggX7_silentSeconds_X7_lastSecond : GoodIn wsX7_silentSeconds wsX7_lastSecond := goodIn_r _ [5, 6, 7, 8, 4, 9, 10, 11, 12, 13, 14, 15, 16, 17, 18, 19, 20, 21, 22, 23, 24, 25, 26, 27, 28, 29, 30, 31, 32, 33, 34, 35, 36, 37, 38, 39, 40, 41, 42] (by decide +kernel) (by decide +kernel)
set_option maxRecDepth 20000 in
theorem gX7_silentSeconds_X7_lastSecond : GoodIn wsX7_silentSeconds (wsV RX7 173 RX7 yX7_lastSecond wsX7_lastSecond) := goodIn_app (goodIn_of _ (by decide +kernel)) ggX7_silentSeconds_X7_lastSecond
set_option maxRecDepth 20000 in
theorem ggX7_silentSeconds_X7_isSilent : GoodIn wsX7_silentSeconds wsX7_isSilent := goodIn_r _ [9, 10, 11, 12, 4, 13, 14, 15, 16, 17, 18, 19, 20, 21, 22, 23, 24, 25, 26, 27, 28, 29, 30, 31, 32, 33, 34, 35, 36, 37, 38, 39, 40, 41, 42] (by decide +kernel) (by decide +kernel)
set_option maxRecDepth 20000 in
theorem gX7_silentSeconds_X7_isSilent : GoodIn wsX7_silentSeconds (wsV RX7 170 RX7 yX7_isSilent wsX7_isSilent) := goodIn_app (goodIn_of _ (by decide +kernel)) ggX7_silentSeconds_X7_isSilent
theorem dX7_silentSeconds_0 : decode cX7_silentSeconds 0 = .ok (.iconst 0, 1) := by decide +kernel
theorem dX7_silentSeconds_1 : decode cX7_silentSeconds 1 = .ok (.istore_n 1, 1) := by decide +kernel
theorem dX7_silentSeconds_2 : decode cX7_silentSeconds 2 = .ok (.iconst 0, 1) := by decide +kernel
theorem dX7_silentSeconds_3 : decode cX7_silentSeconds 3 = .ok (.istore_n 2, 1) := by decide +kernel
theorem dX7_silentSeconds_4 : decode cX7_silentSeconds 4 = .ok (.iload_n 2, 1) := by decide +kernel
theorem dX7_silentSeconds_5 : decode cX7_silentSeconds 5 = .ok (.aload_n 0, 1) := by decide +kernel
theorem dX7_silentSeconds_6 : decode cX7_silentSeconds 6 = .ok (.invokevirtual 173, 3) := by decide +kernel
theorem dX7_silentSeconds_9 : decode cX7_silentSeconds 9 = .ok (.if_icmp .ge 25, 3) := by decide +kernel
theorem dX7_silentSeconds_12 : decode cX7_silentSeconds 12 = .ok (.iload_n 1, 1) := by decide +kernel
theorem dX7_silentSeconds_13 : decode cX7_silentSeconds 13 = .ok (.aload_n 0, 1) := by decide +kernel
theorem dX7_silentSeconds_14 : decode cX7_silentSeconds 14 = .ok (.iload_n 2, 1) := by decide +kernel
theorem dX7_silentSeconds_15 : decode cX7_silentSeconds 15 = .ok (.invokevirtual 170, 3) := by decide +kernel
theorem dX7_silentSeconds_18 : decode cX7_silentSeconds 18 = .ok (.ifCond .eq 7, 3) := by decide +kernel
theorem dX7_silentSeconds_21 : decode cX7_silentSeconds 21 = .ok (.iconst 1, 1) := by decide +kernel
theorem dX7_silentSeconds_22 : decode cX7_silentSeconds 22 = .ok (.goto 4, 3) := by decide +kernel
theorem dX7_silentSeconds_25 : decode cX7_silentSeconds 25 = .ok (.iconst 0, 1) := by decide +kernel
theorem dX7_silentSeconds_26 : decode cX7_silentSeconds 26 = .ok (.iadd, 1) := by decide +kernel
theorem dX7_silentSeconds_27 : decode cX7_silentSeconds 27 = .ok (.istore_n 1, 1) := by decide +kernel
theorem dX7_silentSeconds_28 : decode cX7_silentSeconds 28 = .ok (.iinc 2 1, 3) := by decide +kernel
theorem dX7_silentSeconds_31 : decode cX7_silentSeconds 31 = .ok (.goto (-27), 3) := by decide +kernel
theorem dX7_silentSeconds_34 : decode cX7_silentSeconds 34 = .ok (.iload_n 1, 1) := by decide +kernel
theorem dX7_silentSeconds_35 : decode cX7_silentSeconds 35 = .ok (.ireturn, 1) := by decide +kernel
set_option maxRecDepth 20000 in
theorem ggX7_masksMost_X7_strongest : GoodIn wsX7_masksMost wsX7_strongest := goodIn_r _ [7, 1, 8, 9, 10, 6, 11, 12, 13, 14, 15, 16, 17, 18, 19, 20, 21, 22, 23, 24, 25, 26, 27, 28, 29, 30, 31, 32, 33, 34, 35, 36, 37, 38, 39, 40] (by decide +kernel) (by decide +kernel)
set_option maxRecDepth 20000 in
theorem gX7_masksMost_X7_strongest : GoodIn wsX7_masksMost (wsV RX7 167 RX7 yX7_strongest wsX7_strongest) := goodIn_app (goodIn_of _ (by decide +kernel)) ggX7_masksMost_X7_strongest
theorem dX7_masksMost_0 : decode cX7_masksMost 0 = .ok (.iconst (-1), 1) := by decide +kernel
theorem dX7_masksMost_1 : decode cX7_masksMost 1 = .ok (.istore_n 1, 1) := by decide +kernel
theorem dX7_masksMost_2 : decode cX7_masksMost 2 = .ok (.iconst 0, 1) := by decide +kernel
theorem dX7_masksMost_3 : decode cX7_masksMost 3 = .ok (.istore_n 2, 1) := by decide +kernel
theorem dX7_masksMost_4 : decode cX7_masksMost 4 = .ok (.iconst 0, 1) := by decide +kernel
theorem dX7_masksMost_5 : decode cX7_masksMost 5 = .ok (.istore_n 3, 1) := by decide +kernel
theorem dX7_masksMost_6 : decode cX7_masksMost 6 = .ok (.iload_n 3, 1) := by decide +kernel
theorem dX7_masksMost_7 : decode cX7_masksMost 7 = .ok (.aload_n 0, 1) := by decide +kernel
theorem dX7_masksMost_8 : decode cX7_masksMost 8 = .ok (.getfield 7, 3) := by decide +kernel
theorem dX7_masksMost_11 : decode cX7_masksMost 11 = .ok (.bipush 6, 2) := by decide +kernel
theorem dX7_masksMost_13 : decode cX7_masksMost 13 = .ok (.iaload, 1) := by decide +kernel
theorem dX7_masksMost_14 : decode cX7_masksMost 14 = .ok (.if_icmp .ge 83, 3) := by decide +kernel
theorem dX7_masksMost_17 : decode cX7_masksMost 17 = .ok (.iconst 0, 1) := by decide +kernel
theorem dX7_masksMost_18 : decode cX7_masksMost 18 = .ok (.istore 4, 2) := by decide +kernel
theorem dX7_masksMost_20 : decode cX7_masksMost 20 = .ok (.iconst 0, 1) := by decide +kernel
theorem dX7_masksMost_21 : decode cX7_masksMost 21 = .ok (.istore 5, 2) := by decide +kernel
theorem dX7_masksMost_23 : decode cX7_masksMost 23 = .ok (.iload 5, 2) := by decide +kernel
theorem dX7_masksMost_25 : decode cX7_masksMost 25 = .ok (.bipush 120, 2) := by decide +kernel
theorem dX7_masksMost_27 : decode cX7_masksMost 27 = .ok (.if_icmp .ge 39, 3) := by decide +kernel
theorem dX7_masksMost_30 : decode cX7_masksMost 30 = .ok (.iload 4, 2) := by decide +kernel
theorem dX7_masksMost_32 : decode cX7_masksMost 32 = .ok (.aload_n 0, 1) := by decide +kernel
theorem dX7_masksMost_33 : decode cX7_masksMost 33 = .ok (.getfield 29, 3) := by decide +kernel
theorem dX7_masksMost_36 : decode cX7_masksMost 36 = .ok (.iload 5, 2) := by decide +kernel
theorem dX7_masksMost_38 : decode cX7_masksMost 38 = .ok (.iaload, 1) := by decide +kernel
theorem dX7_masksMost_39 : decode cX7_masksMost 39 = .ok (.ifCond .eq 17, 3) := by decide +kernel
theorem dX7_masksMost_42 : decode cX7_masksMost 42 = .ok (.aload_n 0, 1) := by decide +kernel
theorem dX7_masksMost_43 : decode cX7_masksMost 43 = .ok (.iload 5, 2) := by decide +kernel
theorem dX7_masksMost_45 : decode cX7_masksMost 45 = .ok (.invokevirtual 167, 3) := by decide +kernel
theorem dX7_masksMost_48 : decode cX7_masksMost 48 = .ok (.iload_n 3, 1) := by decide +kernel
theorem dX7_masksMost_49 : decode cX7_masksMost 49 = .ok (.if_icmp .ne 7, 3) := by decide +kernel
theorem dX7_masksMost_52 : decode cX7_masksMost 52 = .ok (.iconst 1, 1) := by decide +kernel
theorem dX7_masksMost_53 : decode cX7_masksMost 53 = .ok (.goto 4, 3) := by decide +kernel
theorem dX7_masksMost_56 : decode cX7_masksMost 56 = .ok (.iconst 0, 1) := by decide +kernel
theorem dX7_masksMost_57 : decode cX7_masksMost 57 = .ok (.iadd, 1) := by decide +kernel
theorem dX7_masksMost_58 : decode cX7_masksMost 58 = .ok (.istore 4, 2) := by decide +kernel
theorem dX7_masksMost_60 : decode cX7_masksMost 60 = .ok (.iinc 5 1, 3) := by decide +kernel
theorem dX7_masksMost_63 : decode cX7_masksMost 63 = .ok (.goto (-40), 3) := by decide +kernel
theorem dX7_masksMost_66 : decode cX7_masksMost 66 = .ok (.iload 4, 2) := by decide +kernel
theorem dX7_masksMost_68 : decode cX7_masksMost 68 = .ok (.iload_n 2, 1) := by decide +kernel
theorem dX7_masksMost_69 : decode cX7_masksMost 69 = .ok (.if_icmp .le 7, 3) := by decide +kernel
theorem dX7_masksMost_72 : decode cX7_masksMost 72 = .ok (.iload_n 3, 1) := by decide +kernel
theorem dX7_masksMost_73 : decode cX7_masksMost 73 = .ok (.goto 4, 3) := by decide +kernel
theorem dX7_masksMost_76 : decode cX7_masksMost 76 = .ok (.iload_n 1, 1) := by decide +kernel
theorem dX7_masksMost_77 : decode cX7_masksMost 77 = .ok (.istore_n 1, 1) := by decide +kernel
theorem dX7_masksMost_78 : decode cX7_masksMost 78 = .ok (.iload 4, 2) := by decide +kernel
theorem dX7_masksMost_80 : decode cX7_masksMost 80 = .ok (.iload_n 2, 1) := by decide +kernel
theorem dX7_masksMost_81 : decode cX7_masksMost 81 = .ok (.if_icmp .le 8, 3) := by decide +kernel
theorem dX7_masksMost_84 : decode cX7_masksMost 84 = .ok (.iload 4, 2) := by decide +kernel
theorem dX7_masksMost_86 : decode cX7_masksMost 86 = .ok (.goto 4, 3) := by decide +kernel
theorem dX7_masksMost_89 : decode cX7_masksMost 89 = .ok (.iload_n 2, 1) := by decide +kernel
theorem dX7_masksMost_90 : decode cX7_masksMost 90 = .ok (.istore_n 2, 1) := by decide +kernel
theorem dX7_masksMost_91 : decode cX7_masksMost 91 = .ok (.iinc 3 1, 3) := by decide +kernel
theorem dX7_masksMost_94 : decode cX7_masksMost 94 = .ok (.goto (-88), 3) := by decide +kernel
theorem dX7_masksMost_97 : decode cX7_masksMost 97 = .ok (.iload_n 1, 1) := by decide +kernel
theorem dX7_masksMost_98 : decode cX7_masksMost 98 = .ok (.ireturn, 1) := by decide +kernel
set_option maxRecDepth 20000 in
theorem ggX7_count_X7_in : GoodIn wsX7_count wsX7_in := goodIn_r _ [7] (by decide +kernel) (by decide +kernel)
set_option maxRecDepth 20000 in
theorem gX7_count_X7_in : GoodIn wsX7_count (va_wsS RX7 39 yX7_in wsX7_in) := goodIn_app (goodIn_of _ (by decide +kernel)) ggX7_count_X7_in
set_option maxRecDepth 20000 in
theorem ggX7_count_X7_holds : GoodIn wsX7_count wsX7_holds := goodIn_r _ [11, 12, 92, 93, 94, 95, 96, 97, 98, 99, 100, 101, 102, 103, 104, 105] (by decide +kernel) (by decide +kernel)
set_option maxRecDepth 20000 in
theorem gX7_count_X7_holds : GoodIn wsX7_count (wsV RX7 95 RX7 yX7_holds wsX7_holds) := goodIn_app (goodIn_of _ (by decide +kernel)) ggX7_count_X7_holds
set_option maxRecDepth 20000 in
theorem ggX7_count_X7_layOut : GoodIn wsX7_count wsX7_layOut := goodIn_r _ [16, 17, 1, 18, 19, 20, 21, 6, 22, 23, 24, 25, 26, 27, 28, 29, 4, 5, 7, 30, 31, 32, 33, 34, 35, 36, 37, 38, 39, 40, 41, 42, 43, 44, 45, 46, 47, 48, 49, 50, 51, 52, 92, 93, 94, 95, 96, 97, 98, 99, 100, 101, 102, 103, 104, 105] (by decide +kernel) (by decide +kernel)
set_option maxRecDepth 20000 in
theorem gX7_count_X7_layOut : GoodIn wsX7_count (wsV RX7 155 RX7 yX7_layOut wsX7_layOut) := goodIn_app (goodIn_of _ (by decide +kernel)) ggX7_count_X7_layOut
set_option maxRecDepth 20000 in
theorem ggX7_count_X7_understood : GoodIn wsX7_count wsX7_understood := goodIn_r _ [56, 1, 57, 58, 59, 6, 60, 18, 30, 31, 32, 92, 93, 94, 95, 96, 97, 98, 99, 100, 101, 102, 103, 104, 105] (by decide +kernel) (by decide +kernel)
set_option maxRecDepth 20000 in
theorem gX7_count_X7_understood : GoodIn wsX7_count (wsV RX7 177 RX7 yX7_understood wsX7_understood) := goodIn_app (goodIn_of _ (by decide +kernel)) ggX7_count_X7_understood
set_option maxRecDepth 20000 in
theorem ggX7_count_X7_allMasked : GoodIn wsX7_count wsX7_allMasked := goodIn_r _ [64, 18, 65, 66, 6, 67, 92, 93, 94, 95, 96, 97, 98, 99, 100, 101, 102, 103, 104, 105] (by decide +kernel) (by decide +kernel)
set_option maxRecDepth 20000 in
theorem gX7_count_X7_allMasked : GoodIn wsX7_count (wsV RX7 180 RX7 yX7_allMasked wsX7_allMasked) := goodIn_app (goodIn_of _ (by decide +kernel)) ggX7_count_X7_allMasked
set_option maxRecDepth 20000 in
theorem ggX7_count_X7_lastSecond : GoodIn wsX7_count wsX7_lastSecond := goodIn_r _ [71, 72, 73, 74, 6, 75, 19, 20, 21, 22, 1, 23, 24, 25, 26, 27, 28, 29, 4, 5, 7, 76, 77, 78, 79, 92, 93, 94, 95, 96, 97, 98, 99, 100, 101, 102, 103, 104, 105] (by decide +kernel) (by decide +kernel)
set_option maxRecDepth 20000 in
theorem gX7_count_X7_lastSecond : GoodIn wsX7_count (wsV RX7 173 RX7 yX7_lastSecond wsX7_lastSecond) := goodIn_app (goodIn_of _ (by decide +kernel)) ggX7_count_X7_lastSecond
set_option maxRecDepth 20000 in
theorem ggX7_count_X7_silentSeconds : GoodIn wsX7_count wsX7_silentSeconds := goodIn_r _ [83, 68, 69, 70, 6, 71, 72, 73, 74, 75, 19, 20, 21, 22, 1, 23, 24, 25, 26, 27, 28, 29, 4, 5, 7, 76, 77, 78, 79, 92, 93, 94, 95, 96, 97, 98, 99, 100, 101, 102, 103, 104, 105] (by decide +kernel) (by decide +kernel)
set_option maxRecDepth 20000 in
theorem gX7_count_X7_silentSeconds : GoodIn wsX7_count (wsV RX7 183 RX7 yX7_silentSeconds wsX7_silentSeconds) := goodIn_app (goodIn_of _ (by decide +kernel)) ggX7_count_X7_silentSeconds
set_option maxRecDepth 20000 in
theorem ggX7_count_X7_masksMost : GoodIn wsX7_count wsX7_masksMost := goodIn_r _ [87, 1, 18, 88, 89, 90, 6, 91, 45, 46, 47, 48, 17, 23, 24, 25, 26, 27, 28, 29, 4, 5, 7, 49, 50, 51, 52, 92, 93, 94, 95, 96, 97, 98, 99, 100, 101, 102, 103, 104, 105] (by decide +kernel) (by decide +kernel)
set_option maxRecDepth 20000 in
theorem gX7_count_X7_masksMost : GoodIn wsX7_count (wsV RX7 186 RX7 yX7_masksMost wsX7_masksMost) := goodIn_app (goodIn_of _ (by decide +kernel)) ggX7_count_X7_masksMost
theorem dX7_count_0 : decode cX7_count 0 = .ok (.aload_n 0, 1) := by decide +kernel
theorem dX7_count_1 : decode cX7_count 1 = .ok (.iload_n 1, 1) := by decide +kernel
theorem dX7_count_2 : decode cX7_count 2 = .ok (.iconst 0, 1) := by decide +kernel
theorem dX7_count_3 : decode cX7_count 3 = .ok (.bipush 13, 2) := by decide +kernel
theorem dX7_count_5 : decode cX7_count 5 = .ok (.invokestatic 39, 3) := by decide +kernel
theorem dX7_count_8 : decode cX7_count 8 = .ok (.ifCond .eq 7, 3) := by decide +kernel
theorem dX7_count_11 : decode cX7_count 11 = .ok (.iconst 0, 1) := by decide +kernel
theorem dX7_count_12 : decode cX7_count 12 = .ok (.goto 4, 3) := by decide +kernel
theorem dX7_count_15 : decode cX7_count 15 = .ok (.iconst 1, 1) := by decide +kernel
theorem dX7_count_16 : decode cX7_count 16 = .ok (.invokevirtual 95, 3) := by decide +kernel
theorem dX7_count_19 : decode cX7_count 19 = .ok (.ifCond .ne 5, 3) := by decide +kernel
theorem dX7_count_22 : decode cX7_count 22 = .ok (.iconst 0, 1) := by decide +kernel
theorem dX7_count_23 : decode cX7_count 23 = .ok (.ireturn, 1) := by decide +kernel
theorem dX7_count_24 : decode cX7_count 24 = .ok (.aload_n 0, 1) := by decide +kernel
theorem dX7_count_25 : decode cX7_count 25 = .ok (.invokevirtual 155, 3) := by decide +kernel
theorem dX7_count_28 : decode cX7_count 28 = .ok (.iload_n 1, 1) := by decide +kernel
theorem dX7_count_29 : decode cX7_count 29 = .ok (.tableswitch 101 0 8 #[51, 58, 66, 71, 76, 81, 86, 91, 96], 51) := by decide +kernel
theorem dX7_count_80 : decode cX7_count 80 = .ok (.aload_n 0, 1) := by decide +kernel
theorem dX7_count_81 : decode cX7_count 81 = .ok (.getfield 7, 3) := by decide +kernel
theorem dX7_count_84 : decode cX7_count 84 = .ok (.iconst 5, 1) := by decide +kernel
theorem dX7_count_85 : decode cX7_count 85 = .ok (.iaload, 1) := by decide +kernel
theorem dX7_count_86 : decode cX7_count 86 = .ok (.ireturn, 1) := by decide +kernel
theorem dX7_count_87 : decode cX7_count 87 = .ok (.aload_n 0, 1) := by decide +kernel
theorem dX7_count_88 : decode cX7_count 88 = .ok (.getfield 7, 3) := by decide +kernel
theorem dX7_count_91 : decode cX7_count 91 = .ok (.bipush 6, 2) := by decide +kernel
theorem dX7_count_93 : decode cX7_count 93 = .ok (.iaload, 1) := by decide +kernel
theorem dX7_count_94 : decode cX7_count 94 = .ok (.ireturn, 1) := by decide +kernel
theorem dX7_count_95 : decode cX7_count 95 = .ok (.aload_n 0, 1) := by decide +kernel
theorem dX7_count_96 : decode cX7_count 96 = .ok (.invokevirtual 177, 3) := by decide +kernel
theorem dX7_count_99 : decode cX7_count 99 = .ok (.ireturn, 1) := by decide +kernel
theorem dX7_count_100 : decode cX7_count 100 = .ok (.aload_n 0, 1) := by decide +kernel
theorem dX7_count_101 : decode cX7_count 101 = .ok (.invokevirtual 180, 3) := by decide +kernel
theorem dX7_count_104 : decode cX7_count 104 = .ok (.ireturn, 1) := by decide +kernel
theorem dX7_count_105 : decode cX7_count 105 = .ok (.aload_n 0, 1) := by decide +kernel
theorem dX7_count_106 : decode cX7_count 106 = .ok (.invokevirtual 173, 3) := by decide +kernel
theorem dX7_count_109 : decode cX7_count 109 = .ok (.ireturn, 1) := by decide +kernel
theorem dX7_count_110 : decode cX7_count 110 = .ok (.aload_n 0, 1) := by decide +kernel
theorem dX7_count_111 : decode cX7_count 111 = .ok (.invokevirtual 183, 3) := by decide +kernel
theorem dX7_count_114 : decode cX7_count 114 = .ok (.ireturn, 1) := by decide +kernel
theorem dX7_count_115 : decode cX7_count 115 = .ok (.aload_n 0, 1) := by decide +kernel
theorem dX7_count_116 : decode cX7_count 116 = .ok (.invokevirtual 186, 3) := by decide +kernel
theorem dX7_count_119 : decode cX7_count 119 = .ok (.ireturn, 1) := by decide +kernel
theorem dX7_count_120 : decode cX7_count 120 = .ok (.aload_n 0, 1) := by decide +kernel
theorem dX7_count_121 : decode cX7_count 121 = .ok (.getfield 47, 3) := by decide +kernel
theorem dX7_count_124 : decode cX7_count 124 = .ok (.ireturn, 1) := by decide +kernel
theorem dX7_count_125 : decode cX7_count 125 = .ok (.aload_n 0, 1) := by decide +kernel
theorem dX7_count_126 : decode cX7_count 126 = .ok (.getfield 117, 3) := by decide +kernel
theorem dX7_count_129 : decode cX7_count 129 = .ok (.ireturn, 1) := by decide +kernel
theorem dX7_count_130 : decode cX7_count 130 = .ok (.aload_n 0, 1) := by decide +kernel
theorem dX7_count_131 : decode cX7_count 131 = .ok (.getfield 7, 3) := by decide +kernel
theorem dX7_count_134 : decode cX7_count 134 = .ok (.iload_n 1, 1) := by decide +kernel
theorem dX7_count_135 : decode cX7_count 135 = .ok (.bipush 9, 2) := by decide +kernel
theorem dX7_count_137 : decode cX7_count 137 = .ok (.isub, 1) := by decide +kernel
theorem dX7_count_138 : decode cX7_count 138 = .ok (.iaload, 1) := by decide +kernel
theorem dX7_count_139 : decode cX7_count 139 = .ok (.ireturn, 1) := by decide +kernel
set_option maxRecDepth 20000 in
theorem ggX7_toldWith_X7_layOut : GoodIn wsX7_toldWith wsX7_layOut := goodIn_r _ [6, 7, 1, 8, 9, 10, 11, 5, 12, 13, 14, 15, 16, 17, 18, 19, 20, 21, 22, 23, 24, 25, 26, 27, 28, 29, 30, 31, 32, 33, 34, 35, 36, 37, 38, 39, 40, 41, 42, 43, 44, 45, 61, 62, 63, 64, 65, 66, 67, 68, 69, 70, 71, 72, 73, 74] (by decide +kernel) (by decide +kernel)
set_option maxRecDepth 20000 in
theorem gX7_toldWith_X7_layOut : GoodIn wsX7_toldWith (wsV RX7 155 RX7 yX7_layOut wsX7_layOut) := goodIn_app (goodIn_of _ (by decide +kernel)) ggX7_toldWith_X7_layOut
set_option maxRecDepth 20000 in
theorem ggX7_toldWith_X7_understood : GoodIn wsX7_toldWith wsX7_understood := goodIn_r _ [49, 1, 50, 51, 52, 5, 53, 8, 23, 24, 25, 61, 62, 63, 64, 65, 66, 67, 68, 69, 70, 71, 72, 73, 74] (by decide +kernel) (by decide +kernel)
set_option maxRecDepth 20000 in
theorem gX7_toldWith_X7_understood : GoodIn wsX7_toldWith (wsV RX7 177 RX7 yX7_understood wsX7_understood) := goodIn_app (goodIn_of _ (by decide +kernel)) ggX7_toldWith_X7_understood
set_option maxRecDepth 20000 in
theorem ggX7_toldWith_X7_allMasked : GoodIn wsX7_toldWith wsX7_allMasked := goodIn_r _ [57, 8, 58, 59, 5, 60, 61, 62, 63, 64, 65, 66, 67, 68, 69, 70, 71, 72, 73, 74] (by decide +kernel) (by decide +kernel)
set_option maxRecDepth 20000 in
theorem gX7_toldWith_X7_allMasked : GoodIn wsX7_toldWith (wsV RX7 180 RX7 yX7_allMasked wsX7_allMasked) := goodIn_app (goodIn_of _ (by decide +kernel)) ggX7_toldWith_X7_allMasked
theorem dX7_toldWith_0 : decode cX7_toldWith 0 = .ok (.aload_n 0, 1) := by decide +kernel
theorem dX7_toldWith_1 : decode cX7_toldWith 1 = .ok (.getfield 7, 3) := by decide +kernel
theorem dX7_toldWith_4 : decode cX7_toldWith 4 = .ok (.iload_n 1, 1) := by decide +kernel
theorem dX7_toldWith_5 : decode cX7_toldWith 5 = .ok (.iaload, 1) := by decide +kernel
theorem dX7_toldWith_6 : decode cX7_toldWith 6 = .ok (.istore 4, 2) := by decide +kernel
theorem dX7_toldWith_8 : decode cX7_toldWith 8 = .ok (.aload_n 0, 1) := by decide +kernel
theorem dX7_toldWith_9 : decode cX7_toldWith 9 = .ok (.getfield 7, 3) := by decide +kernel
theorem dX7_toldWith_12 : decode cX7_toldWith 12 = .ok (.iload_n 1, 1) := by decide +kernel
theorem dX7_toldWith_13 : decode cX7_toldWith 13 = .ok (.iload_n 2, 1) := by decide +kernel
theorem dX7_toldWith_14 : decode cX7_toldWith 14 = .ok (.iastore, 1) := by decide +kernel
theorem dX7_toldWith_15 : decode cX7_toldWith 15 = .ok (.aload_n 0, 1) := by decide +kernel
theorem dX7_toldWith_16 : decode cX7_toldWith 16 = .ok (.invokevirtual 155, 3) := by decide +kernel
theorem dX7_toldWith_19 : decode cX7_toldWith 19 = .ok (.iload_n 3, 1) := by decide +kernel
theorem dX7_toldWith_20 : decode cX7_toldWith 20 = .ok (.ifCond .ne 10, 3) := by decide +kernel
theorem dX7_toldWith_23 : decode cX7_toldWith 23 = .ok (.aload_n 0, 1) := by decide +kernel
theorem dX7_toldWith_24 : decode cX7_toldWith 24 = .ok (.invokevirtual 177, 3) := by decide +kernel
theorem dX7_toldWith_27 : decode cX7_toldWith 27 = .ok (.goto 7, 3) := by decide +kernel
theorem dX7_toldWith_30 : decode cX7_toldWith 30 = .ok (.aload_n 0, 1) := by decide +kernel
theorem dX7_toldWith_31 : decode cX7_toldWith 31 = .ok (.invokevirtual 180, 3) := by decide +kernel
theorem dX7_toldWith_34 : decode cX7_toldWith 34 = .ok (.istore 5, 2) := by decide +kernel
theorem dX7_toldWith_36 : decode cX7_toldWith 36 = .ok (.aload_n 0, 1) := by decide +kernel
theorem dX7_toldWith_37 : decode cX7_toldWith 37 = .ok (.getfield 7, 3) := by decide +kernel
theorem dX7_toldWith_40 : decode cX7_toldWith 40 = .ok (.iload_n 1, 1) := by decide +kernel
theorem dX7_toldWith_41 : decode cX7_toldWith 41 = .ok (.iload 4, 2) := by decide +kernel
theorem dX7_toldWith_43 : decode cX7_toldWith 43 = .ok (.iastore, 1) := by decide +kernel
theorem dX7_toldWith_44 : decode cX7_toldWith 44 = .ok (.iload 5, 2) := by decide +kernel
theorem dX7_toldWith_46 : decode cX7_toldWith 46 = .ok (.ireturn, 1) := by decide +kernel
set_option maxRecDepth 20000 in
theorem ggX7_leastDucking_X7_toldWith : GoodIn wsX7_leastDucking wsX7_toldWith := goodIn_r _ [7, 2, 8, 9, 10, 6, 11, 12, 13, 14, 15, 16, 17, 18, 19, 20, 21, 22, 23, 24, 25, 26, 27, 28, 29, 30, 31, 32, 33, 34, 35, 36, 37, 38, 39, 40, 41, 42, 43, 44, 45, 46, 47, 48, 49, 50, 51, 52, 53, 54, 55, 56, 57, 58, 59, 60, 61, 62, 63, 64, 65, 66, 67, 68, 69, 70, 71, 72, 73, 74, 75, 76, 77, 78, 79] (by decide +kernel) (by decide +kernel)
set_option maxRecDepth 20000 in
theorem gX7_leastDucking_X7_toldWith : GoodIn wsX7_leastDucking (wsV RX7 189 RX7 yX7_toldWith wsX7_toldWith) := goodIn_app (goodIn_of _ (by decide +kernel)) ggX7_leastDucking_X7_toldWith
theorem dX7_leastDucking_0 : decode cX7_leastDucking 0 = .ok (.aload_n 0, 1) := by decide +kernel
theorem dX7_leastDucking_1 : decode cX7_leastDucking 1 = .ok (.iconst 0, 1) := by decide +kernel
theorem dX7_leastDucking_2 : decode cX7_leastDucking 2 = .ok (.putfield 35, 3) := by decide +kernel
theorem dX7_leastDucking_5 : decode cX7_leastDucking 5 = .ok (.iconst (-1), 1) := by decide +kernel
theorem dX7_leastDucking_6 : decode cX7_leastDucking 6 = .ok (.istore_n 1, 1) := by decide +kernel
theorem dX7_leastDucking_7 : decode cX7_leastDucking 7 = .ok (.bipush 20, 2) := by decide +kernel
theorem dX7_leastDucking_9 : decode cX7_leastDucking 9 = .ok (.istore_n 2, 1) := by decide +kernel
theorem dX7_leastDucking_10 : decode cX7_leastDucking 10 = .ok (.iload_n 2, 1) := by decide +kernel
theorem dX7_leastDucking_11 : decode cX7_leastDucking 11 = .ok (.ifCond .lt 35, 3) := by decide +kernel
theorem dX7_leastDucking_14 : decode cX7_leastDucking 14 = .ok (.aload_n 0, 1) := by decide +kernel
theorem dX7_leastDucking_15 : decode cX7_leastDucking 15 = .ok (.iconst 0, 1) := by decide +kernel
theorem dX7_leastDucking_16 : decode cX7_leastDucking 16 = .ok (.iload_n 2, 1) := by decide +kernel
theorem dX7_leastDucking_17 : decode cX7_leastDucking 17 = .ok (.iconst 0, 1) := by decide +kernel
theorem dX7_leastDucking_18 : decode cX7_leastDucking 18 = .ok (.invokevirtual 189, 3) := by decide +kernel
theorem dX7_leastDucking_21 : decode cX7_leastDucking 21 = .ok (.iconst 1, 1) := by decide +kernel
theorem dX7_leastDucking_22 : decode cX7_leastDucking 22 = .ok (.aload_n 0, 1) := by decide +kernel
theorem dX7_leastDucking_23 : decode cX7_leastDucking 23 = .ok (.getfield 7, 3) := by decide +kernel
theorem dX7_leastDucking_26 : decode cX7_leastDucking 26 = .ok (.iconst 5, 1) := by decide +kernel
theorem dX7_leastDucking_27 : decode cX7_leastDucking 27 = .ok (.iaload, 1) := by decide +kernel
theorem dX7_leastDucking_28 : decode cX7_leastDucking 28 = .ok (.ishl, 1) := by decide +kernel
theorem dX7_leastDucking_29 : decode cX7_leastDucking 29 = .ok (.iconst 1, 1) := by decide +kernel
theorem dX7_leastDucking_30 : decode cX7_leastDucking 30 = .ok (.isub, 1) := by decide +kernel
theorem dX7_leastDucking_31 : decode cX7_leastDucking 31 = .ok (.if_icmp .ne 7, 3) := by decide +kernel
theorem dX7_leastDucking_34 : decode cX7_leastDucking 34 = .ok (.iload_n 2, 1) := by decide +kernel
theorem dX7_leastDucking_35 : decode cX7_leastDucking 35 = .ok (.goto 4, 3) := by decide +kernel
theorem dX7_leastDucking_38 : decode cX7_leastDucking 38 = .ok (.iload_n 1, 1) := by decide +kernel
theorem dX7_leastDucking_39 : decode cX7_leastDucking 39 = .ok (.istore_n 1, 1) := by decide +kernel
theorem dX7_leastDucking_40 : decode cX7_leastDucking 40 = .ok (.iinc 2 (-1), 3) := by decide +kernel
theorem dX7_leastDucking_43 : decode cX7_leastDucking 43 = .ok (.goto (-33), 3) := by decide +kernel
theorem dX7_leastDucking_46 : decode cX7_leastDucking 46 = .ok (.iload_n 1, 1) := by decide +kernel
theorem dX7_leastDucking_47 : decode cX7_leastDucking 47 = .ok (.ireturn, 1) := by decide +kernel
set_option maxRecDepth 20000 in
theorem ggX7_ifSet_X7_in : GoodIn wsX7_ifSet wsX7_in := goodIn_r _ [4] (by decide +kernel) (by decide +kernel)
set_option maxRecDepth 20000 in
theorem gX7_ifSet_X7_in : GoodIn wsX7_ifSet (va_wsS RX7 39 yX7_in wsX7_in) := goodIn_app (goodIn_of _ (by decide +kernel)) ggX7_ifSet_X7_in
set_option maxRecDepth 20000 in
theorem ggX7_ifSet_X7_isValue : GoodIn wsX7_ifSet wsX7_isValue := goodIn_r _ [7, 1, 2, 3, 4] (by decide +kernel) (by decide +kernel)
set_option maxRecDepth 20000 in
theorem gX7_ifSet_X7_isValue : GoodIn wsX7_ifSet (va_wsS RX7 114 yX7_isValue wsX7_isValue) := goodIn_app (goodIn_of _ (by decide +kernel)) ggX7_ifSet_X7_isValue
set_option maxRecDepth 20000 in
theorem ggX7_ifSet_X7_holds : GoodIn wsX7_ifSet wsX7_holds := goodIn_r _ [11, 12, 73, 74, 75, 76, 77, 78, 79, 80, 81, 82, 83, 84, 85, 86] (by decide +kernel) (by decide +kernel)
set_option maxRecDepth 20000 in
theorem gX7_ifSet_X7_holds : GoodIn wsX7_ifSet (wsV RX7 95 RX7 yX7_holds wsX7_holds) := goodIn_app (goodIn_of _ (by decide +kernel)) ggX7_ifSet_X7_holds
set_option maxRecDepth 20000 in
theorem ggX7_ifSet_X7_toldWith : GoodIn wsX7_ifSet wsX7_toldWith := goodIn_r _ [16, 17, 18, 19, 20, 3, 21, 22, 23, 24, 25, 26, 27, 28, 29, 30, 31, 32, 33, 34, 1, 2, 4, 35, 36, 37, 38, 39, 40, 41, 42, 43, 44, 45, 46, 47, 48, 49, 50, 51, 52, 53, 54, 55, 56, 57, 58, 59, 60, 61, 62, 63, 64, 65, 66, 67, 68, 69, 70, 71, 72, 73, 74, 75, 76, 77, 78, 79, 80, 81, 82, 83, 84, 85, 86] (by decide +kernel) (by decide +kernel)
set_option maxRecDepth 20000 in
theorem gX7_ifSet_X7_toldWith : GoodIn wsX7_ifSet (wsV RX7 189 RX7 yX7_toldWith wsX7_toldWith) := goodIn_app (goodIn_of _ (by decide +kernel)) ggX7_ifSet_X7_toldWith
theorem dX7_ifSet_0 : decode cX7_ifSet 0 = .ok (.iload_n 1, 1) := by decide +kernel
theorem dX7_ifSet_1 : decode cX7_ifSet 1 = .ok (.iconst 0, 1) := by decide +kernel
theorem dX7_ifSet_2 : decode cX7_ifSet 2 = .ok (.iconst 4, 1) := by decide +kernel
theorem dX7_ifSet_3 : decode cX7_ifSet 3 = .ok (.invokestatic 39, 3) := by decide +kernel
theorem dX7_ifSet_6 : decode cX7_ifSet 6 = .ok (.istore 4, 2) := by decide +kernel
theorem dX7_ifSet_8 : decode cX7_ifSet 8 = .ok (.aload_n 0, 1) := by decide +kernel
theorem dX7_ifSet_9 : decode cX7_ifSet 9 = .ok (.iload 4, 2) := by decide +kernel
theorem dX7_ifSet_11 : decode cX7_ifSet 11 = .ok (.ifCond .ne 7, 3) := by decide +kernel
theorem dX7_ifSet_14 : decode cX7_ifSet 14 = .ok (.iconst 1, 1) := by decide +kernel
theorem dX7_ifSet_15 : decode cX7_ifSet 15 = .ok (.goto 25, 3) := by decide +kernel
theorem dX7_ifSet_18 : decode cX7_ifSet 18 = .ok (.iload_n 1, 1) := by decide +kernel
theorem dX7_ifSet_19 : decode cX7_ifSet 19 = .ok (.iload_n 2, 1) := by decide +kernel
theorem dX7_ifSet_20 : decode cX7_ifSet 20 = .ok (.invokestatic 114, 3) := by decide +kernel
theorem dX7_ifSet_23 : decode cX7_ifSet 23 = .ok (.ifCond .eq 16, 3) := by decide +kernel
theorem dX7_ifSet_26 : decode cX7_ifSet 26 = .ok (.iload_n 3, 1) := by decide +kernel
theorem dX7_ifSet_27 : decode cX7_ifSet 27 = .ok (.iconst 0, 1) := by decide +kernel
theorem dX7_ifSet_28 : decode cX7_ifSet 28 = .ok (.iconst 1, 1) := by decide +kernel
theorem dX7_ifSet_29 : decode cX7_ifSet 29 = .ok (.invokestatic 39, 3) := by decide +kernel
theorem dX7_ifSet_32 : decode cX7_ifSet 32 = .ok (.ifCond .eq 7, 3) := by decide +kernel
theorem dX7_ifSet_35 : decode cX7_ifSet 35 = .ok (.iconst 0, 1) := by decide +kernel
theorem dX7_ifSet_36 : decode cX7_ifSet 36 = .ok (.goto 4, 3) := by decide +kernel
theorem dX7_ifSet_39 : decode cX7_ifSet 39 = .ok (.iconst 2, 1) := by decide +kernel
theorem dX7_ifSet_40 : decode cX7_ifSet 40 = .ok (.invokevirtual 95, 3) := by decide +kernel
theorem dX7_ifSet_43 : decode cX7_ifSet 43 = .ok (.ifCond .eq 13, 3) := by decide +kernel
theorem dX7_ifSet_46 : decode cX7_ifSet 46 = .ok (.aload_n 0, 1) := by decide +kernel
theorem dX7_ifSet_47 : decode cX7_ifSet 47 = .ok (.iload_n 1, 1) := by decide +kernel
theorem dX7_ifSet_48 : decode cX7_ifSet 48 = .ok (.iload_n 2, 1) := by decide +kernel
theorem dX7_ifSet_49 : decode cX7_ifSet 49 = .ok (.iload_n 3, 1) := by decide +kernel
theorem dX7_ifSet_50 : decode cX7_ifSet 50 = .ok (.invokevirtual 189, 3) := by decide +kernel
theorem dX7_ifSet_53 : decode cX7_ifSet 53 = .ok (.goto 4, 3) := by decide +kernel
theorem dX7_ifSet_56 : decode cX7_ifSet 56 = .ok (.iconst 0, 1) := by decide +kernel
theorem dX7_ifSet_57 : decode cX7_ifSet 57 = .ok (.ireturn, 1) := by decide +kernel
set_option maxRecDepth 20000 in
theorem ggX7_bestShift_X7_isCue : GoodIn wsX7_bestShift wsX7_isCue := goodIn_r _ [6, 1, 7, 8, 5, 9, 62, 63, 64, 65, 66, 67, 68, 69, 70, 71, 72, 73, 74, 75] (by decide +kernel) (by decide +kernel)
set_option maxRecDepth 20000 in
theorem gX7_bestShift_X7_isCue : GoodIn wsX7_bestShift (wsV RX7 106 RX7 yX7_isCue wsX7_isCue) := goodIn_app (goodIn_of _ (by decide +kernel)) ggX7_bestShift_X7_isCue
set_option maxRecDepth 20000 in
theorem ggX7_bestShift_X7_holds : GoodIn wsX7_bestShift wsX7_holds := goodIn_r _ [13, 14, 62, 63, 64, 65, 66, 67, 68, 69, 70, 71, 72, 73, 74, 75] (by decide +kernel) (by decide +kernel)
set_option maxRecDepth 20000 in
theorem gX7_bestShift_X7_holds : GoodIn wsX7_bestShift (wsV RX7 95 RX7 yX7_holds wsX7_holds) := goodIn_app (goodIn_of _ (by decide +kernel)) ggX7_bestShift_X7_holds
set_option maxRecDepth 20000 in
theorem ggX7_bestShift_X7_whereIs : GoodIn wsX7_bestShift wsX7_whereIs := goodIn_r _ [17] (by decide +kernel) (by decide +kernel)
set_option maxRecDepth 20000 in
theorem gX7_bestShift_X7_whereIs : GoodIn wsX7_bestShift (va_wsS RX7 43 yX7_whereIs wsX7_whereIs) := goodIn_app (goodIn_of _ (by decide +kernel)) ggX7_bestShift_X7_whereIs
set_option maxRecDepth 20000 in
theorem ggX7_bestShift_X7_layOut : GoodIn wsX7_bestShift wsX7_layOut := goodIn_r _ [21, 22, 1, 23, 24, 25, 26, 5, 27, 28, 29, 30, 31, 15, 16, 17, 7, 8, 9, 32, 33, 34, 35, 36, 37, 38, 39, 40, 41, 42, 43, 44, 45, 46, 47, 48, 49, 50, 51, 52, 53, 54, 62, 63, 64, 65, 66, 67, 68, 69, 70, 71, 72, 73, 74, 75] (by decide +kernel) (by decide +kernel)
set_option maxRecDepth 20000 in
theorem gX7_bestShift_X7_layOut : GoodIn wsX7_bestShift (wsV RX7 155 RX7 yX7_layOut wsX7_layOut) := goodIn_app (goodIn_of _ (by decide +kernel)) ggX7_bestShift_X7_layOut
set_option maxRecDepth 20000 in
theorem ggX7_bestShift_X7_allMasked : GoodIn wsX7_bestShift wsX7_allMasked := goodIn_r _ [58, 23, 59, 60, 5, 61, 62, 63, 64, 65, 66, 67, 68, 69, 70, 71, 72, 73, 74, 75] (by decide +kernel) (by decide +kernel)
set_option maxRecDepth 20000 in
theorem gX7_bestShift_X7_allMasked : GoodIn wsX7_bestShift (wsV RX7 180 RX7 yX7_allMasked wsX7_allMasked) := goodIn_app (goodIn_of _ (by decide +kernel)) ggX7_bestShift_X7_allMasked
set_option maxRecDepth 20000 in
theorem ggX7_bestShift_X7_in : GoodIn wsX7_bestShift wsX7_in := goodIn_r _ [9] (by decide +kernel) (by decide +kernel)
set_option maxRecDepth 20000 in
theorem gX7_bestShift_X7_in : GoodIn wsX7_bestShift (va_wsS RX7 39 yX7_in wsX7_in) := goodIn_app (goodIn_of _ (by decide +kernel)) ggX7_bestShift_X7_in
theorem dX7_bestShift_0 : decode cX7_bestShift 0 = .ok (.aload_n 0, 1) := by decide +kernel
theorem dX7_bestShift_1 : decode cX7_bestShift 1 = .ok (.aload_n 0, 1) := by decide +kernel
theorem dX7_bestShift_2 : decode cX7_bestShift 2 = .ok (.iconst 0, 1) := by decide +kernel
theorem dX7_bestShift_3 : decode cX7_bestShift 3 = .ok (.iload_n 1, 1) := by decide +kernel
theorem dX7_bestShift_4 : decode cX7_bestShift 4 = .ok (.invokevirtual 106, 3) := by decide +kernel
theorem dX7_bestShift_7 : decode cX7_bestShift 7 = .ok (.ifCond .eq 7, 3) := by decide +kernel
theorem dX7_bestShift_10 : decode cX7_bestShift 10 = .ok (.iconst 0, 1) := by decide +kernel
theorem dX7_bestShift_11 : decode cX7_bestShift 11 = .ok (.goto 4, 3) := by decide +kernel
theorem dX7_bestShift_14 : decode cX7_bestShift 14 = .ok (.iconst 1, 1) := by decide +kernel
theorem dX7_bestShift_15 : decode cX7_bestShift 15 = .ok (.invokevirtual 95, 3) := by decide +kernel
theorem dX7_bestShift_18 : decode cX7_bestShift 18 = .ok (.ifCond .ne 5, 3) := by decide +kernel
theorem dX7_bestShift_21 : decode cX7_bestShift 21 = .ok (.iconst 0, 1) := by decide +kernel
theorem dX7_bestShift_22 : decode cX7_bestShift 22 = .ok (.ireturn, 1) := by decide +kernel
theorem dX7_bestShift_23 : decode cX7_bestShift 23 = .ok (.iconst 0, 1) := by decide +kernel
theorem dX7_bestShift_24 : decode cX7_bestShift 24 = .ok (.iload_n 1, 1) := by decide +kernel
theorem dX7_bestShift_25 : decode cX7_bestShift 25 = .ok (.invokestatic 43, 3) := by decide +kernel
theorem dX7_bestShift_28 : decode cX7_bestShift 28 = .ok (.iconst 0, 1) := by decide +kernel
theorem dX7_bestShift_29 : decode cX7_bestShift 29 = .ok (.iadd, 1) := by decide +kernel
theorem dX7_bestShift_30 : decode cX7_bestShift 30 = .ok (.istore_n 2, 1) := by decide +kernel
theorem dX7_bestShift_31 : decode cX7_bestShift 31 = .ok (.aload_n 0, 1) := by decide +kernel
theorem dX7_bestShift_32 : decode cX7_bestShift 32 = .ok (.getfield 7, 3) := by decide +kernel
theorem dX7_bestShift_35 : decode cX7_bestShift 35 = .ok (.iload_n 2, 1) := by decide +kernel
theorem dX7_bestShift_36 : decode cX7_bestShift 36 = .ok (.iaload, 1) := by decide +kernel
theorem dX7_bestShift_37 : decode cX7_bestShift 37 = .ok (.istore_n 3, 1) := by decide +kernel
theorem dX7_bestShift_38 : decode cX7_bestShift 38 = .ok (.iconst 0, 1) := by decide +kernel
theorem dX7_bestShift_39 : decode cX7_bestShift 39 = .ok (.istore 4, 2) := by decide +kernel
theorem dX7_bestShift_41 : decode cX7_bestShift 41 = .ok (.aload_n 0, 1) := by decide +kernel
theorem dX7_bestShift_42 : decode cX7_bestShift 42 = .ok (.invokevirtual 155, 3) := by decide +kernel
theorem dX7_bestShift_45 : decode cX7_bestShift 45 = .ok (.aload_n 0, 1) := by decide +kernel
theorem dX7_bestShift_46 : decode cX7_bestShift 46 = .ok (.invokevirtual 180, 3) := by decide +kernel
theorem dX7_bestShift_49 : decode cX7_bestShift 49 = .ok (.istore 5, 2) := by decide +kernel
theorem dX7_bestShift_51 : decode cX7_bestShift 51 = .ok (.iconst 1, 1) := by decide +kernel
theorem dX7_bestShift_52 : decode cX7_bestShift 52 = .ok (.istore 6, 2) := by decide +kernel
theorem dX7_bestShift_54 : decode cX7_bestShift 54 = .ok (.iload 6, 2) := by decide +kernel
theorem dX7_bestShift_56 : decode cX7_bestShift 56 = .ok (.bipush 20, 2) := by decide +kernel
theorem dX7_bestShift_58 : decode cX7_bestShift 58 = .ok (.if_icmp .gt 100, 3) := by decide +kernel
theorem dX7_bestShift_61 : decode cX7_bestShift 61 = .ok (.iload 6, 2) := by decide +kernel
theorem dX7_bestShift_63 : decode cX7_bestShift 63 = .ok (.iconst 2, 1) := by decide +kernel
theorem dX7_bestShift_64 : decode cX7_bestShift 64 = .ok (.irem, 1) := by decide +kernel
theorem dX7_bestShift_65 : decode cX7_bestShift 65 = .ok (.iconst 1, 1) := by decide +kernel
theorem dX7_bestShift_66 : decode cX7_bestShift 66 = .ok (.if_icmp .ne 12, 3) := by decide +kernel
theorem dX7_bestShift_69 : decode cX7_bestShift 69 = .ok (.iload 6, 2) := by decide +kernel
theorem dX7_bestShift_71 : decode cX7_bestShift 71 = .ok (.iconst 2, 1) := by decide +kernel
theorem dX7_bestShift_72 : decode cX7_bestShift 72 = .ok (.idiv, 1) := by decide +kernel
theorem dX7_bestShift_73 : decode cX7_bestShift 73 = .ok (.iconst 1, 1) := by decide +kernel
theorem dX7_bestShift_74 : decode cX7_bestShift 74 = .ok (.iadd, 1) := by decide +kernel
theorem dX7_bestShift_75 : decode cX7_bestShift 75 = .ok (.goto 8, 3) := by decide +kernel
theorem dX7_bestShift_78 : decode cX7_bestShift 78 = .ok (.iload 6, 2) := by decide +kernel
theorem dX7_bestShift_80 : decode cX7_bestShift 80 = .ok (.iconst 2, 1) := by decide +kernel
theorem dX7_bestShift_81 : decode cX7_bestShift 81 = .ok (.idiv, 1) := by decide +kernel
theorem dX7_bestShift_82 : decode cX7_bestShift 82 = .ok (.ineg, 1) := by decide +kernel
theorem dX7_bestShift_83 : decode cX7_bestShift 83 = .ok (.istore 7, 2) := by decide +kernel
theorem dX7_bestShift_85 : decode cX7_bestShift 85 = .ok (.aload_n 0, 1) := by decide +kernel
theorem dX7_bestShift_86 : decode cX7_bestShift 86 = .ok (.getfield 7, 3) := by decide +kernel
theorem dX7_bestShift_89 : decode cX7_bestShift 89 = .ok (.iload_n 2, 1) := by decide +kernel
theorem dX7_bestShift_90 : decode cX7_bestShift 90 = .ok (.iload_n 3, 1) := by decide +kernel
theorem dX7_bestShift_91 : decode cX7_bestShift 91 = .ok (.iload 7, 2) := by decide +kernel
theorem dX7_bestShift_93 : decode cX7_bestShift 93 = .ok (.iadd, 1) := by decide +kernel
theorem dX7_bestShift_94 : decode cX7_bestShift 94 = .ok (.iastore, 1) := by decide +kernel
theorem dX7_bestShift_95 : decode cX7_bestShift 95 = .ok (.aload_n 0, 1) := by decide +kernel
theorem dX7_bestShift_96 : decode cX7_bestShift 96 = .ok (.getfield 7, 3) := by decide +kernel
theorem dX7_bestShift_99 : decode cX7_bestShift 99 = .ok (.iload_n 2, 1) := by decide +kernel
theorem dX7_bestShift_100 : decode cX7_bestShift 100 = .ok (.iaload, 1) := by decide +kernel
theorem dX7_bestShift_101 : decode cX7_bestShift 101 = .ok (.iconst 0, 1) := by decide +kernel
theorem dX7_bestShift_102 : decode cX7_bestShift 102 = .ok (.bipush 99, 2) := by decide +kernel
theorem dX7_bestShift_104 : decode cX7_bestShift 104 = .ok (.invokestatic 39, 3) := by decide +kernel
theorem dX7_bestShift_107 : decode cX7_bestShift 107 = .ok (.ifCond .eq 45, 3) := by decide +kernel
theorem dX7_bestShift_110 : decode cX7_bestShift 110 = .ok (.aload_n 0, 1) := by decide +kernel
theorem dX7_bestShift_111 : decode cX7_bestShift 111 = .ok (.invokevirtual 155, 3) := by decide +kernel
theorem dX7_bestShift_114 : decode cX7_bestShift 114 = .ok (.aload_n 0, 1) := by decide +kernel
theorem dX7_bestShift_115 : decode cX7_bestShift 115 = .ok (.invokevirtual 180, 3) := by decide +kernel
theorem dX7_bestShift_118 : decode cX7_bestShift 118 = .ok (.istore 8, 2) := by decide +kernel
theorem dX7_bestShift_120 : decode cX7_bestShift 120 = .ok (.iload 8, 2) := by decide +kernel
theorem dX7_bestShift_122 : decode cX7_bestShift 122 = .ok (.iload 5, 2) := by decide +kernel
theorem dX7_bestShift_124 : decode cX7_bestShift 124 = .ok (.if_icmp .ge 8, 3) := by decide +kernel
theorem dX7_bestShift_127 : decode cX7_bestShift 127 = .ok (.iload 7, 2) := by decide +kernel
theorem dX7_bestShift_129 : decode cX7_bestShift 129 = .ok (.goto 5, 3) := by decide +kernel
theorem dX7_bestShift_132 : decode cX7_bestShift 132 = .ok (.iload 4, 2) := by decide +kernel
theorem dX7_bestShift_134 : decode cX7_bestShift 134 = .ok (.istore 4, 2) := by decide +kernel
theorem dX7_bestShift_136 : decode cX7_bestShift 136 = .ok (.iload 8, 2) := by decide +kernel
theorem dX7_bestShift_138 : decode cX7_bestShift 138 = .ok (.iload 5, 2) := by decide +kernel
theorem dX7_bestShift_140 : decode cX7_bestShift 140 = .ok (.if_icmp .ge 8, 3) := by decide +kernel
theorem dX7_bestShift_143 : decode cX7_bestShift 143 = .ok (.iload 8, 2) := by decide +kernel
theorem dX7_bestShift_145 : decode cX7_bestShift 145 = .ok (.goto 5, 3) := by decide +kernel
theorem dX7_bestShift_148 : decode cX7_bestShift 148 = .ok (.iload 5, 2) := by decide +kernel
theorem dX7_bestShift_150 : decode cX7_bestShift 150 = .ok (.istore 5, 2) := by decide +kernel
theorem dX7_bestShift_152 : decode cX7_bestShift 152 = .ok (.iinc 6 1, 3) := by decide +kernel
theorem dX7_bestShift_155 : decode cX7_bestShift 155 = .ok (.goto (-101), 3) := by decide +kernel
theorem dX7_bestShift_158 : decode cX7_bestShift 158 = .ok (.aload_n 0, 1) := by decide +kernel
theorem dX7_bestShift_159 : decode cX7_bestShift 159 = .ok (.getfield 7, 3) := by decide +kernel
theorem dX7_bestShift_162 : decode cX7_bestShift 162 = .ok (.iload_n 2, 1) := by decide +kernel
theorem dX7_bestShift_163 : decode cX7_bestShift 163 = .ok (.iload_n 3, 1) := by decide +kernel
theorem dX7_bestShift_164 : decode cX7_bestShift 164 = .ok (.iastore, 1) := by decide +kernel
theorem dX7_bestShift_165 : decode cX7_bestShift 165 = .ok (.iload 4, 2) := by decide +kernel
theorem dX7_bestShift_167 : decode cX7_bestShift 167 = .ok (.bipush 10, 2) := by decide +kernel
theorem dX7_bestShift_169 : decode cX7_bestShift 169 = .ok (.iadd, 1) := by decide +kernel
theorem dX7_bestShift_170 : decode cX7_bestShift 170 = .ok (.ireturn, 1) := by decide +kernel
set_option maxRecDepth 20000 in
theorem ggX7_loudestQuiet_X7_isCue : GoodIn wsX7_loudestQuiet wsX7_isCue := goodIn_r _ [6, 1, 7, 8, 5, 9, 62, 63, 64, 65, 66, 67, 68, 69, 70, 71, 72, 73, 74, 75] (by decide +kernel) (by decide +kernel)
set_option maxRecDepth 20000 in
theorem gX7_loudestQuiet_X7_isCue : GoodIn wsX7_loudestQuiet (wsV RX7 106 RX7 yX7_isCue wsX7_isCue) := goodIn_app (goodIn_of _ (by decide +kernel)) ggX7_loudestQuiet_X7_isCue
set_option maxRecDepth 20000 in
theorem ggX7_loudestQuiet_X7_holds : GoodIn wsX7_loudestQuiet wsX7_holds := goodIn_r _ [13, 14, 62, 63, 64, 65, 66, 67, 68, 69, 70, 71, 72, 73, 74, 75] (by decide +kernel) (by decide +kernel)
set_option maxRecDepth 20000 in
theorem gX7_loudestQuiet_X7_holds : GoodIn wsX7_loudestQuiet (wsV RX7 95 RX7 yX7_holds wsX7_holds) := goodIn_app (goodIn_of _ (by decide +kernel)) ggX7_loudestQuiet_X7_holds
