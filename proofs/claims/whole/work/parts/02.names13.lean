theorem dX7_strength_4 : decode cX7_strength 4 = .ok (.invokevirtual 54, 3) := by decide +kernel
theorem dX7_strength_7 : decode cX7_strength 7 = .ok (.ifCond .eq 33, 3) := by decide +kernel
theorem dX7_strength_10 : decode cX7_strength 10 = .ok (.aload_n 0, 1) := by decide +kernel
theorem dX7_strength_11 : decode cX7_strength 11 = .ok (.iload_n 1, 1) := by decide +kernel
theorem dX7_strength_12 : decode cX7_strength 12 = .ok (.iconst 2, 1) := by decide +kernel
theorem dX7_strength_13 : decode cX7_strength 13 = .ok (.invokevirtual 58, 3) := by decide +kernel
theorem dX7_strength_16 : decode cX7_strength 16 = .ok (.aload_n 0, 1) := by decide +kernel
theorem dX7_strength_17 : decode cX7_strength 17 = .ok (.iload_n 1, 1) := by decide +kernel
theorem dX7_strength_18 : decode cX7_strength 18 = .ok (.iconst 3, 1) := by decide +kernel
theorem dX7_strength_19 : decode cX7_strength 19 = .ok (.invokevirtual 58, 3) := by decide +kernel
theorem dX7_strength_22 : decode cX7_strength 22 = .ok (.iconst 1, 1) := by decide +kernel
theorem dX7_strength_23 : decode cX7_strength 23 = .ok (.if_icmp .ne 7, 3) := by decide +kernel
theorem dX7_strength_26 : decode cX7_strength 26 = .ok (.iconst 0, 1) := by decide +kernel
theorem dX7_strength_27 : decode cX7_strength 27 = .ok (.goto 9, 3) := by decide +kernel
theorem dX7_strength_30 : decode cX7_strength 30 = .ok (.aload_n 0, 1) := by decide +kernel
theorem dX7_strength_31 : decode cX7_strength 31 = .ok (.getfield 26, 3) := by decide +kernel
theorem dX7_strength_34 : decode cX7_strength 34 = .ok (.iload_n 2, 1) := by decide +kernel
theorem dX7_strength_35 : decode cX7_strength 35 = .ok (.iaload, 1) := by decide +kernel
theorem dX7_strength_36 : decode cX7_strength 36 = .ok (.isub, 1) := by decide +kernel
theorem dX7_strength_37 : decode cX7_strength 37 = .ok (.goto 4, 3) := by decide +kernel
theorem dX7_strength_40 : decode cX7_strength 40 = .ok (.iconst 0, 1) := by decide +kernel
theorem dX7_strength_41 : decode cX7_strength 41 = .ok (.istore_n 3, 1) := by decide +kernel
theorem dX7_strength_42 : decode cX7_strength 42 = .ok (.iload_n 3, 1) := by decide +kernel
theorem dX7_strength_43 : decode cX7_strength 43 = .ok (.ifCond .ge 7, 3) := by decide +kernel
theorem dX7_strength_46 : decode cX7_strength 46 = .ok (.iconst 0, 1) := by decide +kernel
theorem dX7_strength_47 : decode cX7_strength 47 = .ok (.goto 4, 3) := by decide +kernel
theorem dX7_strength_50 : decode cX7_strength 50 = .ok (.iload_n 3, 1) := by decide +kernel
theorem dX7_strength_51 : decode cX7_strength 51 = .ok (.ireturn, 1) := by decide +kernel
set_option maxRecDepth 20000 in
theorem ggX7_level_X7_strength : GoodIn wsX7_level wsX7_strength := goodIn_r _ [6, 7, 8, 9, 10, 5, 11, 1, 12, 13, 14, 15, 16, 17, 18, 19, 20, 21, 29, 30, 31, 32, 33, 34, 35, 36, 37, 38, 39, 40, 41, 42] (by decide +kernel) (by decide +kernel)
set_option maxRecDepth 20000 in
theorem gX7_level_X7_strength : GoodIn wsX7_level (wsV RX7 62 RX7 yX7_strength wsX7_strength) := goodIn_app (goodIn_of _ (by decide +kernel)) ggX7_level_X7_strength
set_option maxRecDepth 20000 in
theorem ggX7_level_X7_has : GoodIn wsX7_level wsX7_has := goodIn_r _ [24] (by decide +kernel) (by decide +kernel)
set_option maxRecDepth 20000 in
theorem gX7_level_X7_has : GoodIn wsX7_level (va_wsS RX7 65 yX7_has wsX7_has) := goodIn_app (goodIn_of _ (by decide +kernel)) ggX7_level_X7_has
set_option maxRecDepth 20000 in
theorem ggX7_level_X7_ofWord : GoodIn wsX7_level wsX7_ofWord := goodIn_r _ [28, 1, 29, 30, 31, 32, 33, 34, 35, 36, 37, 38, 39, 40, 41, 42] (by decide +kernel) (by decide +kernel)
set_option maxRecDepth 20000 in
theorem gX7_level_X7_ofWord : GoodIn wsX7_level (wsV RX7 69 RX7 yX7_ofWord wsX7_ofWord) := goodIn_app (goodIn_of _ (by decide +kernel)) ggX7_level_X7_ofWord
theorem dX7_level_0 : decode cX7_level 0 = .ok (.iconst 0, 1) := by decide +kernel
theorem dX7_level_1 : decode cX7_level 1 = .ok (.istore_n 3, 1) := by decide +kernel
theorem dX7_level_2 : decode cX7_level 2 = .ok (.iconst 0, 1) := by decide +kernel
theorem dX7_level_3 : decode cX7_level 3 = .ok (.istore 4, 2) := by decide +kernel
theorem dX7_level_5 : decode cX7_level 5 = .ok (.iconst 0, 1) := by decide +kernel
theorem dX7_level_6 : decode cX7_level 6 = .ok (.istore 5, 2) := by decide +kernel
theorem dX7_level_8 : decode cX7_level 8 = .ok (.iload 5, 2) := by decide +kernel
theorem dX7_level_10 : decode cX7_level 10 = .ok (.aload_n 0, 1) := by decide +kernel
theorem dX7_level_11 : decode cX7_level 11 = .ok (.getfield 7, 3) := by decide +kernel
theorem dX7_level_14 : decode cX7_level 14 = .ok (.bipush 6, 2) := by decide +kernel
theorem dX7_level_16 : decode cX7_level 16 = .ok (.iaload, 1) := by decide +kernel
theorem dX7_level_17 : decode cX7_level 17 = .ok (.if_icmp .ge 46, 3) := by decide +kernel
theorem dX7_level_20 : decode cX7_level 20 = .ok (.aload_n 0, 1) := by decide +kernel
theorem dX7_level_21 : decode cX7_level 21 = .ok (.iload 5, 2) := by decide +kernel
theorem dX7_level_23 : decode cX7_level 23 = .ok (.iload_n 1, 1) := by decide +kernel
theorem dX7_level_24 : decode cX7_level 24 = .ok (.invokevirtual 62, 3) := by decide +kernel
theorem dX7_level_27 : decode cX7_level 27 = .ok (.istore 6, 2) := by decide +kernel
theorem dX7_level_29 : decode cX7_level 29 = .ok (.iload 6, 2) := by decide +kernel
theorem dX7_level_31 : decode cX7_level 31 = .ok (.iload_n 3, 1) := by decide +kernel
theorem dX7_level_32 : decode cX7_level 32 = .ok (.if_icmp .le 8, 3) := by decide +kernel
theorem dX7_level_35 : decode cX7_level 35 = .ok (.iload 6, 2) := by decide +kernel
theorem dX7_level_37 : decode cX7_level 37 = .ok (.goto 4, 3) := by decide +kernel
theorem dX7_level_40 : decode cX7_level 40 = .ok (.iload_n 3, 1) := by decide +kernel
theorem dX7_level_41 : decode cX7_level 41 = .ok (.istore_n 3, 1) := by decide +kernel
theorem dX7_level_42 : decode cX7_level 42 = .ok (.iload 4, 2) := by decide +kernel
theorem dX7_level_44 : decode cX7_level 44 = .ok (.iload 6, 2) := by decide +kernel
theorem dX7_level_46 : decode cX7_level 46 = .ok (.ifCond .le 7, 3) := by decide +kernel
theorem dX7_level_49 : decode cX7_level 49 = .ok (.iconst 1, 1) := by decide +kernel
theorem dX7_level_50 : decode cX7_level 50 = .ok (.goto 4, 3) := by decide +kernel
theorem dX7_level_53 : decode cX7_level 53 = .ok (.iconst 0, 1) := by decide +kernel
theorem dX7_level_54 : decode cX7_level 54 = .ok (.iadd, 1) := by decide +kernel
theorem dX7_level_55 : decode cX7_level 55 = .ok (.istore 4, 2) := by decide +kernel
theorem dX7_level_57 : decode cX7_level 57 = .ok (.iinc 5 1, 3) := by decide +kernel
theorem dX7_level_60 : decode cX7_level 60 = .ok (.goto (-52), 3) := by decide +kernel
theorem dX7_level_63 : decode cX7_level 63 = .ok (.iconst 0, 1) := by decide +kernel
theorem dX7_level_64 : decode cX7_level 64 = .ok (.istore 5, 2) := by decide +kernel
theorem dX7_level_66 : decode cX7_level 66 = .ok (.iload 5, 2) := by decide +kernel
theorem dX7_level_68 : decode cX7_level 68 = .ok (.aload_n 0, 1) := by decide +kernel
theorem dX7_level_69 : decode cX7_level 69 = .ok (.getfield 7, 3) := by decide +kernel
theorem dX7_level_72 : decode cX7_level 72 = .ok (.iconst 5, 1) := by decide +kernel
theorem dX7_level_73 : decode cX7_level 73 = .ok (.iaload, 1) := by decide +kernel
theorem dX7_level_74 : decode cX7_level 74 = .ok (.if_icmp .ge 44, 3) := by decide +kernel
theorem dX7_level_77 : decode cX7_level 77 = .ok (.iload_n 2, 1) := by decide +kernel
theorem dX7_level_78 : decode cX7_level 78 = .ok (.iload 5, 2) := by decide +kernel
theorem dX7_level_80 : decode cX7_level 80 = .ok (.invokestatic 65, 3) := by decide +kernel
theorem dX7_level_83 : decode cX7_level 83 = .ok (.ifCond .eq 29, 3) := by decide +kernel
theorem dX7_level_86 : decode cX7_level 86 = .ok (.aload_n 0, 1) := by decide +kernel
theorem dX7_level_87 : decode cX7_level 87 = .ok (.iload 5, 2) := by decide +kernel
theorem dX7_level_89 : decode cX7_level 89 = .ok (.iconst 2, 1) := by decide +kernel
theorem dX7_level_90 : decode cX7_level 90 = .ok (.invokevirtual 69, 3) := by decide +kernel
theorem dX7_level_93 : decode cX7_level 93 = .ok (.iload_n 3, 1) := by decide +kernel
theorem dX7_level_94 : decode cX7_level 94 = .ok (.if_icmp .le 13, 3) := by decide +kernel
theorem dX7_level_97 : decode cX7_level 97 = .ok (.aload_n 0, 1) := by decide +kernel
theorem dX7_level_98 : decode cX7_level 98 = .ok (.iload 5, 2) := by decide +kernel
theorem dX7_level_100 : decode cX7_level 100 = .ok (.iconst 2, 1) := by decide +kernel
theorem dX7_level_101 : decode cX7_level 101 = .ok (.invokevirtual 69, 3) := by decide +kernel
theorem dX7_level_104 : decode cX7_level 104 = .ok (.goto 4, 3) := by decide +kernel
theorem dX7_level_107 : decode cX7_level 107 = .ok (.iload_n 3, 1) := by decide +kernel
theorem dX7_level_108 : decode cX7_level 108 = .ok (.istore_n 3, 1) := by decide +kernel
theorem dX7_level_109 : decode cX7_level 109 = .ok (.iinc 4 1, 3) := by decide +kernel
theorem dX7_level_112 : decode cX7_level 112 = .ok (.iinc 5 1, 3) := by decide +kernel
theorem dX7_level_115 : decode cX7_level 115 = .ok (.goto (-49), 3) := by decide +kernel
theorem dX7_level_118 : decode cX7_level 118 = .ok (.iload 4, 2) := by decide +kernel
theorem dX7_level_120 : decode cX7_level 120 = .ok (.ifCond .ne 7, 3) := by decide +kernel
theorem dX7_level_123 : decode cX7_level 123 = .ok (.iconst 0, 1) := by decide +kernel
theorem dX7_level_124 : decode cX7_level 124 = .ok (.goto 16, 3) := by decide +kernel
theorem dX7_level_127 : decode cX7_level 127 = .ok (.iload_n 3, 1) := by decide +kernel
theorem dX7_level_128 : decode cX7_level 128 = .ok (.aload_n 0, 1) := by decide +kernel
theorem dX7_level_129 : decode cX7_level 129 = .ok (.getfield 7, 3) := by decide +kernel
theorem dX7_level_132 : decode cX7_level 132 = .ok (.iconst 2, 1) := by decide +kernel
theorem dX7_level_133 : decode cX7_level 133 = .ok (.iaload, 1) := by decide +kernel
theorem dX7_level_134 : decode cX7_level 134 = .ok (.iload 4, 2) := by decide +kernel
theorem dX7_level_136 : decode cX7_level 136 = .ok (.iconst 1, 1) := by decide +kernel
theorem dX7_level_137 : decode cX7_level 137 = .ok (.isub, 1) := by decide +kernel
theorem dX7_level_138 : decode cX7_level 138 = .ok (.imul, 1) := by decide +kernel
theorem dX7_level_139 : decode cX7_level 139 = .ok (.iadd, 1) := by decide +kernel
theorem dX7_level_140 : decode cX7_level 140 = .ok (.ireturn, 1) := by decide +kernel
set_option maxRecDepth 20000 in
theorem ggX7_cover_X7_wordsAt : GoodIn wsX7_cover wsX7_wordsAt := goodIn_r _ [5, 6, 7, 8, 9, 4, 10, 11, 12, 13, 14, 15, 16, 37, 38, 39, 40, 41, 42, 43, 44, 45, 46, 47, 48, 49, 50] (by decide +kernel) (by decide +kernel)
set_option maxRecDepth 20000 in
theorem gX7_cover_X7_wordsAt : GoodIn wsX7_cover (wsV RX7 72 RX7 yX7_wordsAt wsX7_wordsAt) := goodIn_app (goodIn_of _ (by decide +kernel)) ggX7_cover_X7_wordsAt
set_option maxRecDepth 20000 in
theorem ggX7_cover_X7_level : GoodIn wsX7_cover wsX7_level := goodIn_r _ [20, 6, 21, 22, 23, 4, 24, 25, 7, 8, 9, 10, 11, 12, 13, 14, 15, 16, 26, 27, 28, 29, 30, 31, 32, 33, 34, 35, 36, 37, 38, 39, 40, 41, 42, 43, 44, 45, 46, 47, 48, 49, 50] (by decide +kernel) (by decide +kernel)
set_option maxRecDepth 20000 in
theorem gX7_cover_X7_level : GoodIn wsX7_cover (wsV RX7 76 RX7 yX7_level wsX7_level) := goodIn_app (goodIn_of _ (by decide +kernel)) ggX7_cover_X7_level
theorem dX7_cover_0 : decode cX7_cover 0 = .ok (.aload_n 0, 1) := by decide +kernel
theorem dX7_cover_1 : decode cX7_cover 1 = .ok (.iload_n 2, 1) := by decide +kernel
theorem dX7_cover_2 : decode cX7_cover 2 = .ok (.aload_n 0, 1) := by decide +kernel
theorem dX7_cover_3 : decode cX7_cover 3 = .ok (.iload_n 2, 1) := by decide +kernel
theorem dX7_cover_4 : decode cX7_cover 4 = .ok (.invokevirtual 72, 3) := by decide +kernel
theorem dX7_cover_7 : decode cX7_cover 7 = .ok (.iconst 1, 1) := by decide +kernel
theorem dX7_cover_8 : decode cX7_cover 8 = .ok (.iload_n 1, 1) := by decide +kernel
theorem dX7_cover_9 : decode cX7_cover 9 = .ok (.ishl, 1) := by decide +kernel
theorem dX7_cover_10 : decode cX7_cover 10 = .ok (.iconst (-1), 1) := by decide +kernel
theorem dX7_cover_11 : decode cX7_cover 11 = .ok (.ixor, 1) := by decide +kernel
theorem dX7_cover_12 : decode cX7_cover 12 = .ok (.iand, 1) := by decide +kernel
theorem dX7_cover_13 : decode cX7_cover 13 = .ok (.invokevirtual 76, 3) := by decide +kernel
theorem dX7_cover_16 : decode cX7_cover 16 = .ok (.ireturn, 1) := by decide +kernel
set_option maxRecDepth 20000 in
theorem ggX7_layOut_X7_wordsAt : GoodIn wsX7_layOut wsX7_wordsAt := goodIn_r _ [8, 2, 9, 10, 11, 7, 12, 13, 14, 15, 16, 17, 18, 42, 43, 44, 45, 46, 47, 48, 49, 50, 51, 52, 53, 54, 55] (by decide +kernel) (by decide +kernel)
set_option maxRecDepth 20000 in
theorem gX7_layOut_X7_wordsAt : GoodIn wsX7_layOut (wsV RX7 72 RX7 yX7_wordsAt wsX7_wordsAt) := goodIn_app (goodIn_of _ (by decide +kernel)) ggX7_layOut_X7_wordsAt
set_option maxRecDepth 20000 in
theorem ggX7_layOut_X7_has : GoodIn wsX7_layOut wsX7_has := goodIn_r _ [21] (by decide +kernel) (by decide +kernel)
set_option maxRecDepth 20000 in
theorem gX7_layOut_X7_has : GoodIn wsX7_layOut (va_wsS RX7 65 yX7_has wsX7_has) := goodIn_app (goodIn_of _ (by decide +kernel)) ggX7_layOut_X7_has
set_option maxRecDepth 20000 in
theorem ggX7_layOut_X7_ofWord : GoodIn wsX7_layOut wsX7_ofWord := goodIn_r _ [25, 2, 42, 43, 44, 45, 46, 47, 48, 49, 50, 51, 52, 53, 54, 55] (by decide +kernel) (by decide +kernel)
set_option maxRecDepth 20000 in
theorem gX7_layOut_X7_ofWord : GoodIn wsX7_layOut (wsV RX7 69 RX7 yX7_ofWord wsX7_ofWord) := goodIn_app (goodIn_of _ (by decide +kernel)) ggX7_layOut_X7_ofWord
set_option maxRecDepth 20000 in
theorem ggX7_layOut_X7_cover : GoodIn wsX7_layOut wsX7_cover := goodIn_r _ [29, 4, 5, 6, 7, 8, 2, 9, 10, 11, 12, 13, 14, 15, 16, 17, 18, 30, 31, 32, 33, 34, 35, 36, 37, 1, 38, 39, 40, 41, 19, 20, 21, 22, 23, 24, 25, 42, 43, 44, 45, 46, 47, 48, 49, 50, 51, 52, 53, 54, 55] (by decide +kernel) (by decide +kernel)
set_option maxRecDepth 20000 in
theorem gX7_layOut_X7_cover : GoodIn wsX7_layOut (wsV RX7 79 RX7 yX7_cover wsX7_cover) := goodIn_app (goodIn_of _ (by decide +kernel)) ggX7_layOut_X7_cover
theorem dX7_layOut_0 : decode cX7_layOut 0 = .ok (.iconst 0, 1) := by decide +kernel
theorem dX7_layOut_1 : decode cX7_layOut 1 = .ok (.istore_n 1, 1) := by decide +kernel
theorem dX7_layOut_2 : decode cX7_layOut 2 = .ok (.iload_n 1, 1) := by decide +kernel
theorem dX7_layOut_3 : decode cX7_layOut 3 = .ok (.bipush 120, 2) := by decide +kernel
theorem dX7_layOut_5 : decode cX7_layOut 5 = .ok (.if_icmp .ge 144, 3) := by decide +kernel
theorem dX7_layOut_8 : decode cX7_layOut 8 = .ok (.aload_n 0, 1) := by decide +kernel
theorem dX7_layOut_9 : decode cX7_layOut 9 = .ok (.iload_n 1, 1) := by decide +kernel
theorem dX7_layOut_10 : decode cX7_layOut 10 = .ok (.invokevirtual 72, 3) := by decide +kernel
theorem dX7_layOut_13 : decode cX7_layOut 13 = .ok (.istore_n 2, 1) := by decide +kernel
theorem dX7_layOut_14 : decode cX7_layOut 14 = .ok (.iload_n 1, 1) := by decide +kernel
theorem dX7_layOut_15 : decode cX7_layOut 15 = .ok (.ifCond .ne 7, 3) := by decide +kernel
theorem dX7_layOut_18 : decode cX7_layOut 18 = .ok (.iconst 0, 1) := by decide +kernel
theorem dX7_layOut_19 : decode cX7_layOut 19 = .ok (.goto 18, 3) := by decide +kernel
theorem dX7_layOut_22 : decode cX7_layOut 22 = .ok (.aload_n 0, 1) := by decide +kernel
theorem dX7_layOut_23 : decode cX7_layOut 23 = .ok (.getfield 26, 3) := by decide +kernel
theorem dX7_layOut_26 : decode cX7_layOut 26 = .ok (.iload_n 1, 1) := by decide +kernel
theorem dX7_layOut_27 : decode cX7_layOut 27 = .ok (.iconst 1, 1) := by decide +kernel
theorem dX7_layOut_28 : decode cX7_layOut 28 = .ok (.isub, 1) := by decide +kernel
theorem dX7_layOut_29 : decode cX7_layOut 29 = .ok (.iaload, 1) := by decide +kernel
theorem dX7_layOut_30 : decode cX7_layOut 30 = .ok (.aload_n 0, 1) := by decide +kernel
theorem dX7_layOut_31 : decode cX7_layOut 31 = .ok (.getfield 7, 3) := by decide +kernel
theorem dX7_layOut_34 : decode cX7_layOut 34 = .ok (.iconst 1, 1) := by decide +kernel
theorem dX7_layOut_35 : decode cX7_layOut 35 = .ok (.iaload, 1) := by decide +kernel
theorem dX7_layOut_36 : decode cX7_layOut 36 = .ok (.isub, 1) := by decide +kernel
theorem dX7_layOut_37 : decode cX7_layOut 37 = .ok (.istore_n 3, 1) := by decide +kernel
theorem dX7_layOut_38 : decode cX7_layOut 38 = .ok (.aload_n 0, 1) := by decide +kernel
theorem dX7_layOut_39 : decode cX7_layOut 39 = .ok (.getfield 26, 3) := by decide +kernel
theorem dX7_layOut_42 : decode cX7_layOut 42 = .ok (.iload_n 1, 1) := by decide +kernel
theorem dX7_layOut_43 : decode cX7_layOut 43 = .ok (.iload_n 2, 1) := by decide +kernel
theorem dX7_layOut_44 : decode cX7_layOut 44 = .ok (.ifCond .eq 12, 3) := by decide +kernel
theorem dX7_layOut_47 : decode cX7_layOut 47 = .ok (.aload_n 0, 1) := by decide +kernel
theorem dX7_layOut_48 : decode cX7_layOut 48 = .ok (.getfield 7, 3) := by decide +kernel
theorem dX7_layOut_51 : decode cX7_layOut 51 = .ok (.iconst 0, 1) := by decide +kernel
theorem dX7_layOut_52 : decode cX7_layOut 52 = .ok (.iaload, 1) := by decide +kernel
theorem dX7_layOut_53 : decode cX7_layOut 53 = .ok (.goto 12, 3) := by decide +kernel
theorem dX7_layOut_56 : decode cX7_layOut 56 = .ok (.iload_n 3, 1) := by decide +kernel
theorem dX7_layOut_57 : decode cX7_layOut 57 = .ok (.ifCond .ge 7, 3) := by decide +kernel
theorem dX7_layOut_60 : decode cX7_layOut 60 = .ok (.iconst 0, 1) := by decide +kernel
theorem dX7_layOut_61 : decode cX7_layOut 61 = .ok (.goto 4, 3) := by decide +kernel
theorem dX7_layOut_64 : decode cX7_layOut 64 = .ok (.iload_n 3, 1) := by decide +kernel
theorem dX7_layOut_65 : decode cX7_layOut 65 = .ok (.iastore, 1) := by decide +kernel
theorem dX7_layOut_66 : decode cX7_layOut 66 = .ok (.aload_n 0, 1) := by decide +kernel
theorem dX7_layOut_67 : decode cX7_layOut 67 = .ok (.getfield 29, 3) := by decide +kernel
theorem dX7_layOut_70 : decode cX7_layOut 70 = .ok (.iload_n 1, 1) := by decide +kernel
theorem dX7_layOut_71 : decode cX7_layOut 71 = .ok (.iconst 0, 1) := by decide +kernel
theorem dX7_layOut_72 : decode cX7_layOut 72 = .ok (.iastore, 1) := by decide +kernel
theorem dX7_layOut_73 : decode cX7_layOut 73 = .ok (.iconst 0, 1) := by decide +kernel
theorem dX7_layOut_74 : decode cX7_layOut 74 = .ok (.istore 4, 2) := by decide +kernel
theorem dX7_layOut_76 : decode cX7_layOut 76 = .ok (.iload 4, 2) := by decide +kernel
theorem dX7_layOut_78 : decode cX7_layOut 78 = .ok (.aload_n 0, 1) := by decide +kernel
theorem dX7_layOut_79 : decode cX7_layOut 79 = .ok (.getfield 7, 3) := by decide +kernel
theorem dX7_layOut_82 : decode cX7_layOut 82 = .ok (.iconst 5, 1) := by decide +kernel
theorem dX7_layOut_83 : decode cX7_layOut 83 = .ok (.iaload, 1) := by decide +kernel
theorem dX7_layOut_84 : decode cX7_layOut 84 = .ok (.if_icmp .ge 59, 3) := by decide +kernel
theorem dX7_layOut_87 : decode cX7_layOut 87 = .ok (.aload_n 0, 1) := by decide +kernel
theorem dX7_layOut_88 : decode cX7_layOut 88 = .ok (.getfield 29, 3) := by decide +kernel
theorem dX7_layOut_91 : decode cX7_layOut 91 = .ok (.iload_n 1, 1) := by decide +kernel
theorem dX7_layOut_92 : decode cX7_layOut 92 = .ok (.dup2, 1) := by decide +kernel
theorem dX7_layOut_93 : decode cX7_layOut 93 = .ok (.iaload, 1) := by decide +kernel
theorem dX7_layOut_94 : decode cX7_layOut 94 = .ok (.iload_n 2, 1) := by decide +kernel
theorem dX7_layOut_95 : decode cX7_layOut 95 = .ok (.iload 4, 2) := by decide +kernel
theorem dX7_layOut_97 : decode cX7_layOut 97 = .ok (.invokestatic 65, 3) := by decide +kernel
theorem dX7_layOut_100 : decode cX7_layOut 100 = .ok (.ifCond .eq 34, 3) := by decide +kernel
theorem dX7_layOut_103 : decode cX7_layOut 103 = .ok (.aload_n 0, 1) := by decide +kernel
theorem dX7_layOut_104 : decode cX7_layOut 104 = .ok (.iload 4, 2) := by decide +kernel
theorem dX7_layOut_106 : decode cX7_layOut 106 = .ok (.iconst 2, 1) := by decide +kernel
theorem dX7_layOut_107 : decode cX7_layOut 107 = .ok (.invokevirtual 69, 3) := by decide +kernel
theorem dX7_layOut_110 : decode cX7_layOut 110 = .ok (.aload_n 0, 1) := by decide +kernel
theorem dX7_layOut_111 : decode cX7_layOut 111 = .ok (.iload 4, 2) := by decide +kernel
theorem dX7_layOut_113 : decode cX7_layOut 113 = .ok (.iload_n 1, 1) := by decide +kernel
theorem dX7_layOut_114 : decode cX7_layOut 114 = .ok (.invokevirtual 79, 3) := by decide +kernel
theorem dX7_layOut_117 : decode cX7_layOut 117 = .ok (.aload_n 0, 1) := by decide +kernel
theorem dX7_layOut_118 : decode cX7_layOut 118 = .ok (.getfield 7, 3) := by decide +kernel
theorem dX7_layOut_121 : decode cX7_layOut 121 = .ok (.iconst 3, 1) := by decide +kernel
theorem dX7_layOut_122 : decode cX7_layOut 122 = .ok (.iaload, 1) := by decide +kernel
theorem dX7_layOut_123 : decode cX7_layOut 123 = .ok (.iadd, 1) := by decide +kernel
theorem dX7_layOut_124 : decode cX7_layOut 124 = .ok (.if_icmp .ge 10, 3) := by decide +kernel
theorem dX7_layOut_127 : decode cX7_layOut 127 = .ok (.iconst 1, 1) := by decide +kernel
theorem dX7_layOut_128 : decode cX7_layOut 128 = .ok (.iload 4, 2) := by decide +kernel
theorem dX7_layOut_130 : decode cX7_layOut 130 = .ok (.ishl, 1) := by decide +kernel
theorem dX7_layOut_131 : decode cX7_layOut 131 = .ok (.goto 4, 3) := by decide +kernel
theorem dX7_layOut_134 : decode cX7_layOut 134 = .ok (.iconst 0, 1) := by decide +kernel
theorem dX7_layOut_135 : decode cX7_layOut 135 = .ok (.ior, 1) := by decide +kernel
theorem dX7_layOut_136 : decode cX7_layOut 136 = .ok (.iastore, 1) := by decide +kernel
theorem dX7_layOut_137 : decode cX7_layOut 137 = .ok (.iinc 4 1, 3) := by decide +kernel
theorem dX7_layOut_140 : decode cX7_layOut 140 = .ok (.goto (-64), 3) := by decide +kernel
theorem dX7_layOut_143 : decode cX7_layOut 143 = .ok (.iinc 1 1, 3) := by decide +kernel
theorem dX7_layOut_146 : decode cX7_layOut 146 = .ok (.goto (-144), 3) := by decide +kernel
theorem dX7_layOut_149 : decode cX7_layOut 149 = .ok (.return_, 1) := by decide +kernel
set_option maxRecDepth 20000 in
theorem ggX7_maskedOf_X7_has : GoodIn wsX7_maskedOf wsX7_has := goodIn_r _ [5] (by decide +kernel) (by decide +kernel)
set_option maxRecDepth 20000 in
theorem gX7_maskedOf_X7_has : GoodIn wsX7_maskedOf (va_wsS RX7 65 yX7_has wsX7_has) := goodIn_app (goodIn_of _ (by decide +kernel)) ggX7_maskedOf_X7_has
theorem dX7_maskedOf_0 : decode cX7_maskedOf 0 = .ok (.iconst 0, 1) := by decide +kernel
theorem dX7_maskedOf_1 : decode cX7_maskedOf 1 = .ok (.istore_n 2, 1) := by decide +kernel
theorem dX7_maskedOf_2 : decode cX7_maskedOf 2 = .ok (.iconst 0, 1) := by decide +kernel
theorem dX7_maskedOf_3 : decode cX7_maskedOf 3 = .ok (.istore_n 3, 1) := by decide +kernel
theorem dX7_maskedOf_4 : decode cX7_maskedOf 4 = .ok (.iload_n 3, 1) := by decide +kernel
theorem dX7_maskedOf_5 : decode cX7_maskedOf 5 = .ok (.bipush 120, 2) := by decide +kernel
theorem dX7_maskedOf_7 : decode cX7_maskedOf 7 = .ok (.if_icmp .ge 30, 3) := by decide +kernel
theorem dX7_maskedOf_10 : decode cX7_maskedOf 10 = .ok (.iload_n 2, 1) := by decide +kernel
theorem dX7_maskedOf_11 : decode cX7_maskedOf 11 = .ok (.aload_n 0, 1) := by decide +kernel
theorem dX7_maskedOf_12 : decode cX7_maskedOf 12 = .ok (.getfield 29, 3) := by decide +kernel
theorem dX7_maskedOf_15 : decode cX7_maskedOf 15 = .ok (.iload_n 3, 1) := by decide +kernel
theorem dX7_maskedOf_16 : decode cX7_maskedOf 16 = .ok (.iaload, 1) := by decide +kernel
theorem dX7_maskedOf_17 : decode cX7_maskedOf 17 = .ok (.iload_n 1, 1) := by decide +kernel
theorem dX7_maskedOf_18 : decode cX7_maskedOf 18 = .ok (.invokestatic 65, 3) := by decide +kernel
theorem dX7_maskedOf_21 : decode cX7_maskedOf 21 = .ok (.ifCond .eq 7, 3) := by decide +kernel
theorem dX7_maskedOf_24 : decode cX7_maskedOf 24 = .ok (.iconst 1, 1) := by decide +kernel
theorem dX7_maskedOf_25 : decode cX7_maskedOf 25 = .ok (.goto 4, 3) := by decide +kernel
theorem dX7_maskedOf_28 : decode cX7_maskedOf 28 = .ok (.iconst 0, 1) := by decide +kernel
theorem dX7_maskedOf_29 : decode cX7_maskedOf 29 = .ok (.iadd, 1) := by decide +kernel
theorem dX7_maskedOf_30 : decode cX7_maskedOf 30 = .ok (.istore_n 2, 1) := by decide +kernel
theorem dX7_maskedOf_31 : decode cX7_maskedOf 31 = .ok (.iinc 3 1, 3) := by decide +kernel
theorem dX7_maskedOf_34 : decode cX7_maskedOf 34 = .ok (.goto (-30), 3) := by decide +kernel
theorem dX7_maskedOf_37 : decode cX7_maskedOf 37 = .ok (.iload_n 2, 1) := by decide +kernel
theorem dX7_maskedOf_38 : decode cX7_maskedOf 38 = .ok (.ireturn, 1) := by decide +kernel
set_option maxRecDepth 20000 in
theorem ggX7_allMasked_X7_bits : GoodIn wsX7_allMasked wsX7_bits := goodIn_r _ [5] (by decide +kernel) (by decide +kernel)
set_option maxRecDepth 20000 in
theorem gX7_allMasked_X7_bits : GoodIn wsX7_allMasked (va_wsS RX7 82 yX7_bits wsX7_bits) := goodIn_app (goodIn_of _ (by decide +kernel)) ggX7_allMasked_X7_bits
theorem dX7_allMasked_0 : decode cX7_allMasked 0 = .ok (.iconst 0, 1) := by decide +kernel
theorem dX7_allMasked_1 : decode cX7_allMasked 1 = .ok (.istore_n 1, 1) := by decide +kernel
theorem dX7_allMasked_2 : decode cX7_allMasked 2 = .ok (.iconst 0, 1) := by decide +kernel
theorem dX7_allMasked_3 : decode cX7_allMasked 3 = .ok (.istore_n 2, 1) := by decide +kernel
theorem dX7_allMasked_4 : decode cX7_allMasked 4 = .ok (.iload_n 2, 1) := by decide +kernel
theorem dX7_allMasked_5 : decode cX7_allMasked 5 = .ok (.bipush 120, 2) := by decide +kernel
theorem dX7_allMasked_7 : decode cX7_allMasked 7 = .ok (.if_icmp .ge 21, 3) := by decide +kernel
theorem dX7_allMasked_10 : decode cX7_allMasked 10 = .ok (.iload_n 1, 1) := by decide +kernel
theorem dX7_allMasked_11 : decode cX7_allMasked 11 = .ok (.aload_n 0, 1) := by decide +kernel
theorem dX7_allMasked_12 : decode cX7_allMasked 12 = .ok (.getfield 29, 3) := by decide +kernel
theorem dX7_allMasked_15 : decode cX7_allMasked 15 = .ok (.iload_n 2, 1) := by decide +kernel
theorem dX7_allMasked_16 : decode cX7_allMasked 16 = .ok (.iaload, 1) := by decide +kernel
theorem dX7_allMasked_17 : decode cX7_allMasked 17 = .ok (.invokestatic 82, 3) := by decide +kernel
theorem dX7_allMasked_20 : decode cX7_allMasked 20 = .ok (.iadd, 1) := by decide +kernel
theorem dX7_allMasked_21 : decode cX7_allMasked 21 = .ok (.istore_n 1, 1) := by decide +kernel
theorem dX7_allMasked_22 : decode cX7_allMasked 22 = .ok (.iinc 2 1, 3) := by decide +kernel
theorem dX7_allMasked_25 : decode cX7_allMasked 25 = .ok (.goto (-21), 3) := by decide +kernel
theorem dX7_allMasked_28 : decode cX7_allMasked 28 = .ok (.iload_n 1, 1) := by decide +kernel
theorem dX7_allMasked_29 : decode cX7_allMasked 29 = .ok (.ireturn, 1) := by decide +kernel
set_option maxRecDepth 20000 in
theorem ggX7_understood_X7_maskedOf : GoodIn wsX7_understood wsX7_maskedOf := goodIn_r _ [6, 7, 8, 9, 5, 10, 11, 12, 13, 14, 15, 16, 17, 18, 19, 20, 21, 22, 23, 24] (by decide +kernel) (by decide +kernel)
set_option maxRecDepth 20000 in
theorem gX7_understood_X7_maskedOf : GoodIn wsX7_understood (wsV RX7 85 RX7 yX7_maskedOf wsX7_maskedOf) := goodIn_app (goodIn_of _ (by decide +kernel)) ggX7_understood_X7_maskedOf
theorem dX7_understood_0 : decode cX7_understood 0 = .ok (.iconst 0, 1) := by decide +kernel
theorem dX7_understood_1 : decode cX7_understood 1 = .ok (.istore_n 1, 1) := by decide +kernel
theorem dX7_understood_2 : decode cX7_understood 2 = .ok (.iconst 0, 1) := by decide +kernel
theorem dX7_understood_3 : decode cX7_understood 3 = .ok (.istore_n 2, 1) := by decide +kernel
theorem dX7_understood_4 : decode cX7_understood 4 = .ok (.iload_n 2, 1) := by decide +kernel
theorem dX7_understood_5 : decode cX7_understood 5 = .ok (.aload_n 0, 1) := by decide +kernel
theorem dX7_understood_6 : decode cX7_understood 6 = .ok (.getfield 7, 3) := by decide +kernel
theorem dX7_understood_9 : decode cX7_understood 9 = .ok (.iconst 5, 1) := by decide +kernel
theorem dX7_understood_10 : decode cX7_understood 10 = .ok (.iaload, 1) := by decide +kernel
theorem dX7_understood_11 : decode cX7_understood 11 = .ok (.if_icmp .ge 33, 3) := by decide +kernel
theorem dX7_understood_14 : decode cX7_understood 14 = .ok (.iload_n 1, 1) := by decide +kernel
theorem dX7_understood_15 : decode cX7_understood 15 = .ok (.aload_n 0, 1) := by decide +kernel
theorem dX7_understood_16 : decode cX7_understood 16 = .ok (.iload_n 2, 1) := by decide +kernel
theorem dX7_understood_17 : decode cX7_understood 17 = .ok (.invokevirtual 85, 3) := by decide +kernel
theorem dX7_understood_20 : decode cX7_understood 20 = .ok (.aload_n 0, 1) := by decide +kernel
theorem dX7_understood_21 : decode cX7_understood 21 = .ok (.getfield 7, 3) := by decide +kernel
theorem dX7_understood_24 : decode cX7_understood 24 = .ok (.iconst 4, 1) := by decide +kernel
theorem dX7_understood_25 : decode cX7_understood 25 = .ok (.iaload, 1) := by decide +kernel
theorem dX7_understood_26 : decode cX7_understood 26 = .ok (.if_icmp .gt 9, 3) := by decide +kernel
theorem dX7_understood_29 : decode cX7_understood 29 = .ok (.iconst 1, 1) := by decide +kernel
theorem dX7_understood_30 : decode cX7_understood 30 = .ok (.iload_n 2, 1) := by decide +kernel
theorem dX7_understood_31 : decode cX7_understood 31 = .ok (.ishl, 1) := by decide +kernel
theorem dX7_understood_32 : decode cX7_understood 32 = .ok (.goto 4, 3) := by decide +kernel
theorem dX7_understood_35 : decode cX7_understood 35 = .ok (.iconst 0, 1) := by decide +kernel
theorem dX7_understood_36 : decode cX7_understood 36 = .ok (.ior, 1) := by decide +kernel
theorem dX7_understood_37 : decode cX7_understood 37 = .ok (.istore_n 1, 1) := by decide +kernel
theorem dX7_understood_38 : decode cX7_understood 38 = .ok (.iinc 2 1, 3) := by decide +kernel
theorem dX7_understood_41 : decode cX7_understood 41 = .ok (.goto (-37), 3) := by decide +kernel
theorem dX7_understood_44 : decode cX7_understood 44 = .ok (.iload_n 1, 1) := by decide +kernel
theorem dX7_understood_45 : decode cX7_understood 45 = .ok (.ireturn, 1) := by decide +kernel
set_option maxRecDepth 20000 in
theorem ggX7_strongest_X7_strength : GoodIn wsX7_strongest wsX7_strength := goodIn_r _ [6, 7, 8, 9, 10, 5, 11, 1, 12, 13, 14, 15, 16, 17, 18, 19, 20, 21, 22, 23, 24, 25, 26, 27, 28, 29, 30, 31, 32, 33, 34, 35] (by decide +kernel) (by decide +kernel)
set_option maxRecDepth 20000 in
theorem gX7_strongest_X7_strength : GoodIn wsX7_strongest (wsV RX7 62 RX7 yX7_strength wsX7_strength) := goodIn_app (goodIn_of _ (by decide +kernel)) ggX7_strongest_X7_strength
theorem dX7_strongest_0 : decode cX7_strongest 0 = .ok (.iconst (-1), 1) := by decide +kernel
theorem dX7_strongest_1 : decode cX7_strongest 1 = .ok (.istore_n 2, 1) := by decide +kernel
theorem dX7_strongest_2 : decode cX7_strongest 2 = .ok (.iconst 0, 1) := by decide +kernel
theorem dX7_strongest_3 : decode cX7_strongest 3 = .ok (.istore_n 3, 1) := by decide +kernel
theorem dX7_strongest_4 : decode cX7_strongest 4 = .ok (.iconst 0, 1) := by decide +kernel
theorem dX7_strongest_5 : decode cX7_strongest 5 = .ok (.istore 4, 2) := by decide +kernel
theorem dX7_strongest_7 : decode cX7_strongest 7 = .ok (.iload 4, 2) := by decide +kernel
theorem dX7_strongest_9 : decode cX7_strongest 9 = .ok (.aload_n 0, 1) := by decide +kernel
theorem dX7_strongest_10 : decode cX7_strongest 10 = .ok (.getfield 7, 3) := by decide +kernel
theorem dX7_strongest_13 : decode cX7_strongest 13 = .ok (.bipush 6, 2) := by decide +kernel
theorem dX7_strongest_15 : decode cX7_strongest 15 = .ok (.iaload, 1) := by decide +kernel
theorem dX7_strongest_16 : decode cX7_strongest 16 = .ok (.if_icmp .ge 44, 3) := by decide +kernel
theorem dX7_strongest_19 : decode cX7_strongest 19 = .ok (.aload_n 0, 1) := by decide +kernel
theorem dX7_strongest_20 : decode cX7_strongest 20 = .ok (.iload 4, 2) := by decide +kernel
theorem dX7_strongest_22 : decode cX7_strongest 22 = .ok (.iload_n 1, 1) := by decide +kernel
theorem dX7_strongest_23 : decode cX7_strongest 23 = .ok (.invokevirtual 62, 3) := by decide +kernel
theorem dX7_strongest_26 : decode cX7_strongest 26 = .ok (.istore 5, 2) := by decide +kernel
theorem dX7_strongest_28 : decode cX7_strongest 28 = .ok (.iload 5, 2) := by decide +kernel
theorem dX7_strongest_30 : decode cX7_strongest 30 = .ok (.iload_n 3, 1) := by decide +kernel
theorem dX7_strongest_31 : decode cX7_strongest 31 = .ok (.if_icmp .le 8, 3) := by decide +kernel
theorem dX7_strongest_34 : decode cX7_strongest 34 = .ok (.iload 4, 2) := by decide +kernel
theorem dX7_strongest_36 : decode cX7_strongest 36 = .ok (.goto 4, 3) := by decide +kernel
theorem dX7_strongest_39 : decode cX7_strongest 39 = .ok (.iload_n 2, 1) := by decide +kernel
theorem dX7_strongest_40 : decode cX7_strongest 40 = .ok (.istore_n 2, 1) := by decide +kernel
theorem dX7_strongest_41 : decode cX7_strongest 41 = .ok (.iload 5, 2) := by decide +kernel
theorem dX7_strongest_43 : decode cX7_strongest 43 = .ok (.iload_n 3, 1) := by decide +kernel
theorem dX7_strongest_44 : decode cX7_strongest 44 = .ok (.if_icmp .le 8, 3) := by decide +kernel
theorem dX7_strongest_47 : decode cX7_strongest 47 = .ok (.iload 5, 2) := by decide +kernel
theorem dX7_strongest_49 : decode cX7_strongest 49 = .ok (.goto 4, 3) := by decide +kernel
theorem dX7_strongest_52 : decode cX7_strongest 52 = .ok (.iload_n 3, 1) := by decide +kernel
theorem dX7_strongest_53 : decode cX7_strongest 53 = .ok (.istore_n 3, 1) := by decide +kernel
theorem dX7_strongest_54 : decode cX7_strongest 54 = .ok (.iinc 4 1, 3) := by decide +kernel
theorem dX7_strongest_57 : decode cX7_strongest 57 = .ok (.goto (-50), 3) := by decide +kernel
theorem dX7_strongest_60 : decode cX7_strongest 60 = .ok (.iload_n 2, 1) := by decide +kernel
theorem dX7_strongest_61 : decode cX7_strongest 61 = .ok (.ireturn, 1) := by decide +kernel
set_option maxRecDepth 20000 in
theorem ggX7_areNumbers_X7_in : GoodIn wsX7_areNumbers wsX7_in := goodIn_r _ [4] (by decide +kernel) (by decide +kernel)
set_option maxRecDepth 20000 in
theorem gX7_areNumbers_X7_in : GoodIn wsX7_areNumbers (va_wsS RX7 39 yX7_in wsX7_in) := goodIn_app (goodIn_of _ (by decide +kernel)) ggX7_areNumbers_X7_in
theorem dX7_areNumbers_0 : decode cX7_areNumbers 0 = .ok (.iload_n 0, 1) := by decide +kernel
theorem dX7_areNumbers_1 : decode cX7_areNumbers 1 = .ok (.iconst 0, 1) := by decide +kernel
theorem dX7_areNumbers_2 : decode cX7_areNumbers 2 = .ok (.bipush 99, 2) := by decide +kernel
theorem dX7_areNumbers_4 : decode cX7_areNumbers 4 = .ok (.invokestatic 39, 3) := by decide +kernel
theorem dX7_areNumbers_7 : decode cX7_areNumbers 7 = .ok (.ifCond .eq 27, 3) := by decide +kernel
theorem dX7_areNumbers_10 : decode cX7_areNumbers 10 = .ok (.iload_n 1, 1) := by decide +kernel
theorem dX7_areNumbers_11 : decode cX7_areNumbers 11 = .ok (.iconst 1, 1) := by decide +kernel
theorem dX7_areNumbers_12 : decode cX7_areNumbers 12 = .ok (.bipush 20, 2) := by decide +kernel
theorem dX7_areNumbers_14 : decode cX7_areNumbers 14 = .ok (.invokestatic 39, 3) := by decide +kernel
theorem dX7_areNumbers_17 : decode cX7_areNumbers 17 = .ok (.ifCond .eq 17, 3) := by decide +kernel
theorem dX7_areNumbers_20 : decode cX7_areNumbers 20 = .ok (.iload_n 2, 1) := by decide +kernel
theorem dX7_areNumbers_21 : decode cX7_areNumbers 21 = .ok (.iconst 1, 1) := by decide +kernel
theorem dX7_areNumbers_22 : decode cX7_areNumbers 22 = .ok (.bipush 30, 2) := by decide +kernel
theorem dX7_areNumbers_24 : decode cX7_areNumbers 24 = .ok (.invokestatic 39, 3) := by decide +kernel
theorem dX7_areNumbers_27 : decode cX7_areNumbers 27 = .ok (.ifCond .eq 7, 3) := by decide +kernel
theorem dX7_areNumbers_30 : decode cX7_areNumbers 30 = .ok (.iconst 1, 1) := by decide +kernel
theorem dX7_areNumbers_31 : decode cX7_areNumbers 31 = .ok (.goto 4, 3) := by decide +kernel
theorem dX7_areNumbers_34 : decode cX7_areNumbers 34 = .ok (.iconst 0, 1) := by decide +kernel
theorem dX7_areNumbers_35 : decode cX7_areNumbers 35 = .ok (.ireturn, 1) := by decide +kernel
theorem dX7_isRoom_0 : decode cX7_isRoom 0 = .ok (.iload_n 1, 1) := by decide +kernel
theorem dX7_isRoom_1 : decode cX7_isRoom 1 = .ok (.ifCond .eq 22, 3) := by decide +kernel
theorem dX7_isRoom_4 : decode cX7_isRoom 4 = .ok (.aload_n 0, 1) := by decide +kernel
theorem dX7_isRoom_5 : decode cX7_isRoom 5 = .ok (.getfield 7, 3) := by decide +kernel
theorem dX7_isRoom_8 : decode cX7_isRoom 8 = .ok (.iconst 5, 1) := by decide +kernel
theorem dX7_isRoom_9 : decode cX7_isRoom 9 = .ok (.iaload, 1) := by decide +kernel
theorem dX7_isRoom_10 : decode cX7_isRoom 10 = .ok (.bipush 10, 2) := by decide +kernel
theorem dX7_isRoom_12 : decode cX7_isRoom 12 = .ok (.if_icmp .ge 7, 3) := by decide +kernel
theorem dX7_isRoom_15 : decode cX7_isRoom 15 = .ok (.iconst 1, 1) := by decide +kernel
theorem dX7_isRoom_16 : decode cX7_isRoom 16 = .ok (.goto 24, 3) := by decide +kernel
theorem dX7_isRoom_19 : decode cX7_isRoom 19 = .ok (.iconst 0, 1) := by decide +kernel
theorem dX7_isRoom_20 : decode cX7_isRoom 20 = .ok (.goto 20, 3) := by decide +kernel
theorem dX7_isRoom_23 : decode cX7_isRoom 23 = .ok (.aload_n 0, 1) := by decide +kernel
theorem dX7_isRoom_24 : decode cX7_isRoom 24 = .ok (.getfield 7, 3) := by decide +kernel
theorem dX7_isRoom_27 : decode cX7_isRoom 27 = .ok (.bipush 6, 2) := by decide +kernel
theorem dX7_isRoom_29 : decode cX7_isRoom 29 = .ok (.iaload, 1) := by decide +kernel
theorem dX7_isRoom_30 : decode cX7_isRoom 30 = .ok (.bipush 12, 2) := by decide +kernel
theorem dX7_isRoom_32 : decode cX7_isRoom 32 = .ok (.if_icmp .ge 7, 3) := by decide +kernel
theorem dX7_isRoom_35 : decode cX7_isRoom 35 = .ok (.iconst 1, 1) := by decide +kernel
theorem dX7_isRoom_36 : decode cX7_isRoom 36 = .ok (.goto 4, 3) := by decide +kernel
theorem dX7_isRoom_39 : decode cX7_isRoom 39 = .ok (.iconst 0, 1) := by decide +kernel
theorem dX7_isRoom_40 : decode cX7_isRoom 40 = .ok (.ireturn, 1) := by decide +kernel
set_option maxRecDepth 20000 in
theorem ggX7_add_X7_whereIs : GoodIn wsX7_add wsX7_whereIs := goodIn_r _ [5] (by decide +kernel) (by decide +kernel)
set_option maxRecDepth 20000 in
theorem gX7_add_X7_whereIs : GoodIn wsX7_add (va_wsS RX7 43 yX7_whereIs wsX7_whereIs) := goodIn_app (goodIn_of _ (by decide +kernel)) ggX7_add_X7_whereIs
theorem dX7_add_0 : decode cX7_add 0 = .ok (.iload_n 1, 1) := by decide +kernel
theorem dX7_add_1 : decode cX7_add 1 = .ok (.ifCond .eq 12, 3) := by decide +kernel
theorem dX7_add_4 : decode cX7_add 4 = .ok (.aload_n 0, 1) := by decide +kernel
theorem dX7_add_5 : decode cX7_add 5 = .ok (.getfield 7, 3) := by decide +kernel
theorem dX7_add_8 : decode cX7_add 8 = .ok (.iconst 5, 1) := by decide +kernel
theorem dX7_add_9 : decode cX7_add 9 = .ok (.iaload, 1) := by decide +kernel
theorem dX7_add_10 : decode cX7_add 10 = .ok (.goto 10, 3) := by decide +kernel
theorem dX7_add_13 : decode cX7_add 13 = .ok (.aload_n 0, 1) := by decide +kernel
theorem dX7_add_14 : decode cX7_add 14 = .ok (.getfield 7, 3) := by decide +kernel
theorem dX7_add_17 : decode cX7_add 17 = .ok (.bipush 6, 2) := by decide +kernel
theorem dX7_add_19 : decode cX7_add 19 = .ok (.iaload, 1) := by decide +kernel
theorem dX7_add_20 : decode cX7_add 20 = .ok (.istore 6, 2) := by decide +kernel
theorem dX7_add_22 : decode cX7_add 22 = .ok (.iload_n 1, 1) := by decide +kernel
theorem dX7_add_23 : decode cX7_add 23 = .ok (.iload 6, 2) := by decide +kernel
theorem dX7_add_25 : decode cX7_add 25 = .ok (.invokestatic 43, 3) := by decide +kernel
theorem dX7_add_28 : decode cX7_add 28 = .ok (.istore 7, 2) := by decide +kernel
theorem dX7_add_30 : decode cX7_add 30 = .ok (.aload_n 0, 1) := by decide +kernel
theorem dX7_add_31 : decode cX7_add 31 = .ok (.getfield 7, 3) := by decide +kernel
theorem dX7_add_34 : decode cX7_add 34 = .ok (.iload 7, 2) := by decide +kernel
theorem dX7_add_36 : decode cX7_add 36 = .ok (.iconst 0, 1) := by decide +kernel
theorem dX7_add_37 : decode cX7_add 37 = .ok (.iadd, 1) := by decide +kernel
theorem dX7_add_38 : decode cX7_add 38 = .ok (.iload_n 2, 1) := by decide +kernel
theorem dX7_add_39 : decode cX7_add 39 = .ok (.iastore, 1) := by decide +kernel
theorem dX7_add_40 : decode cX7_add 40 = .ok (.aload_n 0, 1) := by decide +kernel
theorem dX7_add_41 : decode cX7_add 41 = .ok (.getfield 7, 3) := by decide +kernel
theorem dX7_add_44 : decode cX7_add 44 = .ok (.iload 7, 2) := by decide +kernel
theorem dX7_add_46 : decode cX7_add 46 = .ok (.iconst 1, 1) := by decide +kernel
theorem dX7_add_47 : decode cX7_add 47 = .ok (.iadd, 1) := by decide +kernel
theorem dX7_add_48 : decode cX7_add 48 = .ok (.iload_n 3, 1) := by decide +kernel
theorem dX7_add_49 : decode cX7_add 49 = .ok (.iastore, 1) := by decide +kernel
theorem dX7_add_50 : decode cX7_add 50 = .ok (.aload_n 0, 1) := by decide +kernel
theorem dX7_add_51 : decode cX7_add 51 = .ok (.getfield 7, 3) := by decide +kernel
theorem dX7_add_54 : decode cX7_add 54 = .ok (.iload 7, 2) := by decide +kernel
theorem dX7_add_56 : decode cX7_add 56 = .ok (.iconst 2, 1) := by decide +kernel
theorem dX7_add_57 : decode cX7_add 57 = .ok (.iadd, 1) := by decide +kernel
theorem dX7_add_58 : decode cX7_add 58 = .ok (.iload 4, 2) := by decide +kernel
theorem dX7_add_60 : decode cX7_add 60 = .ok (.iastore, 1) := by decide +kernel
theorem dX7_add_61 : decode cX7_add 61 = .ok (.iload_n 1, 1) := by decide +kernel
theorem dX7_add_62 : decode cX7_add 62 = .ok (.ifCond .ne 14, 3) := by decide +kernel
theorem dX7_add_65 : decode cX7_add 65 = .ok (.aload_n 0, 1) := by decide +kernel
theorem dX7_add_66 : decode cX7_add 66 = .ok (.getfield 7, 3) := by decide +kernel
theorem dX7_add_69 : decode cX7_add 69 = .ok (.iload 7, 2) := by decide +kernel
theorem dX7_add_71 : decode cX7_add 71 = .ok (.iconst 3, 1) := by decide +kernel
theorem dX7_add_72 : decode cX7_add 72 = .ok (.iadd, 1) := by decide +kernel
theorem dX7_add_73 : decode cX7_add 73 = .ok (.iload 5, 2) := by decide +kernel
theorem dX7_add_75 : decode cX7_add 75 = .ok (.iastore, 1) := by decide +kernel
theorem dX7_add_76 : decode cX7_add 76 = .ok (.aload_n 0, 1) := by decide +kernel
theorem dX7_add_77 : decode cX7_add 77 = .ok (.getfield 7, 3) := by decide +kernel
theorem dX7_add_80 : decode cX7_add 80 = .ok (.iload_n 1, 1) := by decide +kernel
theorem dX7_add_81 : decode cX7_add 81 = .ok (.ifCond .eq 7, 3) := by decide +kernel
theorem dX7_add_84 : decode cX7_add 84 = .ok (.iconst 5, 1) := by decide +kernel
theorem dX7_add_85 : decode cX7_add 85 = .ok (.goto 5, 3) := by decide +kernel
theorem dX7_add_88 : decode cX7_add 88 = .ok (.bipush 6, 2) := by decide +kernel
theorem dX7_add_90 : decode cX7_add 90 = .ok (.dup2, 1) := by decide +kernel
theorem dX7_add_91 : decode cX7_add 91 = .ok (.iaload, 1) := by decide +kernel
theorem dX7_add_92 : decode cX7_add 92 = .ok (.iconst 1, 1) := by decide +kernel
theorem dX7_add_93 : decode cX7_add 93 = .ok (.iadd, 1) := by decide +kernel
theorem dX7_add_94 : decode cX7_add 94 = .ok (.iastore, 1) := by decide +kernel
theorem dX7_add_95 : decode cX7_add 95 = .ok (.iload 6, 2) := by decide +kernel
theorem dX7_add_97 : decode cX7_add 97 = .ok (.ireturn, 1) := by decide +kernel
set_option maxRecDepth 20000 in
theorem ggX7_word_X7_areNumbers : GoodIn wsX7_word wsX7_areNumbers := goodIn_r _ [4, 5, 6, 3, 7] (by decide +kernel) (by decide +kernel)
set_option maxRecDepth 20000 in
theorem gX7_word_X7_areNumbers : GoodIn wsX7_word (va_wsS RX7 88 yX7_areNumbers wsX7_areNumbers) := goodIn_app (goodIn_of _ (by decide +kernel)) ggX7_word_X7_areNumbers
set_option maxRecDepth 20000 in
theorem ggX7_word_X7_isRoom : GoodIn wsX7_word wsX7_isRoom := goodIn_r _ [11, 12, 34, 35, 36, 37, 38, 39, 40, 41, 42, 43, 44, 45, 46, 47] (by decide +kernel) (by decide +kernel)
set_option maxRecDepth 20000 in
theorem gX7_word_X7_isRoom : GoodIn wsX7_word (wsV RX7 91 RX7 yX7_isRoom wsX7_isRoom) := goodIn_app (goodIn_of _ (by decide +kernel)) ggX7_word_X7_isRoom
set_option maxRecDepth 20000 in
theorem ggX7_word_X7_holds : GoodIn wsX7_word wsX7_holds := goodIn_r _ [16, 17, 34, 35, 36, 37, 38, 39, 40, 41, 42, 43, 44, 45, 46, 47] (by decide +kernel) (by decide +kernel)
set_option maxRecDepth 20000 in
theorem gX7_word_X7_holds : GoodIn wsX7_word (wsV RX7 95 RX7 yX7_holds wsX7_holds) := goodIn_app (goodIn_of _ (by decide +kernel)) ggX7_word_X7_holds
set_option maxRecDepth 20000 in
theorem ggX7_word_X7_save : GoodIn wsX7_word wsX7_save := goodIn_r _ [21, 22, 23, 12, 24, 25, 3, 26, 34, 35, 36, 37, 38, 39, 40, 41, 42, 43, 44, 45, 46, 47] (by decide +kernel) (by decide +kernel)
set_option maxRecDepth 20000 in
theorem gX7_word_X7_save : GoodIn wsX7_word (wsV RX7 99 RX7 yX7_save wsX7_save) := goodIn_app (goodIn_of _ (by decide +kernel)) ggX7_word_X7_save
set_option maxRecDepth 20000 in
theorem ggX7_word_X7_add : GoodIn wsX7_word wsX7_add := goodIn_r _ [30, 12, 31, 32, 3, 33, 34, 35, 36, 37, 38, 39, 40, 41, 42, 43, 44, 45, 46, 47] (by decide +kernel) (by decide +kernel)
set_option maxRecDepth 20000 in
theorem gX7_word_X7_add : GoodIn wsX7_word (wsV RX7 102 RX7 yX7_add wsX7_add) := goodIn_app (goodIn_of _ (by decide +kernel)) ggX7_word_X7_add
theorem dX7_word_0 : decode cX7_word 0 = .ok (.aload_n 0, 1) := by decide +kernel
theorem dX7_word_1 : decode cX7_word 1 = .ok (.iload_n 1, 1) := by decide +kernel
theorem dX7_word_2 : decode cX7_word 2 = .ok (.iload_n 2, 1) := by decide +kernel
theorem dX7_word_3 : decode cX7_word 3 = .ok (.iload_n 3, 1) := by decide +kernel
theorem dX7_word_4 : decode cX7_word 4 = .ok (.invokestatic 88, 3) := by decide +kernel
theorem dX7_word_7 : decode cX7_word 7 = .ok (.ifCond .ne 7, 3) := by decide +kernel
theorem dX7_word_10 : decode cX7_word 10 = .ok (.iconst 1, 1) := by decide +kernel
theorem dX7_word_11 : decode cX7_word 11 = .ok (.goto 16, 3) := by decide +kernel
theorem dX7_word_14 : decode cX7_word 14 = .ok (.aload_n 0, 1) := by decide +kernel
theorem dX7_word_15 : decode cX7_word 15 = .ok (.iconst 1, 1) := by decide +kernel
theorem dX7_word_16 : decode cX7_word 16 = .ok (.invokevirtual 91, 3) := by decide +kernel
theorem dX7_word_19 : decode cX7_word 19 = .ok (.ifCond .eq 7, 3) := by decide +kernel
theorem dX7_word_22 : decode cX7_word 22 = .ok (.iconst 0, 1) := by decide +kernel
theorem dX7_word_23 : decode cX7_word 23 = .ok (.goto 4, 3) := by decide +kernel
theorem dX7_word_26 : decode cX7_word 26 = .ok (.iconst 2, 1) := by decide +kernel
theorem dX7_word_27 : decode cX7_word 27 = .ok (.invokevirtual 95, 3) := by decide +kernel
theorem dX7_word_30 : decode cX7_word 30 = .ok (.ifCond .ne 5, 3) := by decide +kernel
theorem dX7_word_33 : decode cX7_word 33 = .ok (.iconst 0, 1) := by decide +kernel
theorem dX7_word_34 : decode cX7_word 34 = .ok (.ireturn, 1) := by decide +kernel
theorem dX7_word_35 : decode cX7_word 35 = .ok (.aload_n 0, 1) := by decide +kernel
theorem dX7_word_36 : decode cX7_word 36 = .ok (.invokevirtual 99, 3) := by decide +kernel
theorem dX7_word_39 : decode cX7_word 39 = .ok (.aload_n 0, 1) := by decide +kernel
theorem dX7_word_40 : decode cX7_word 40 = .ok (.iconst 1, 1) := by decide +kernel
theorem dX7_word_41 : decode cX7_word 41 = .ok (.iload_n 1, 1) := by decide +kernel
theorem dX7_word_42 : decode cX7_word 42 = .ok (.iload_n 2, 1) := by decide +kernel
theorem dX7_word_43 : decode cX7_word 43 = .ok (.iload_n 3, 1) := by decide +kernel
theorem dX7_word_44 : decode cX7_word 44 = .ok (.iconst 0, 1) := by decide +kernel
theorem dX7_word_45 : decode cX7_word 45 = .ok (.invokevirtual 102, 3) := by decide +kernel
theorem dX7_word_48 : decode cX7_word 48 = .ok (.ireturn, 1) := by decide +kernel
set_option maxRecDepth 20000 in
theorem ggX7_noise_X7_areNumbers : GoodIn wsX7_noise wsX7_areNumbers := goodIn_r _ [4, 5, 6, 3, 7] (by decide +kernel) (by decide +kernel)
set_option maxRecDepth 20000 in
theorem gX7_noise_X7_areNumbers : GoodIn wsX7_noise (va_wsS RX7 88 yX7_areNumbers wsX7_areNumbers) := goodIn_app (goodIn_of _ (by decide +kernel)) ggX7_noise_X7_areNumbers
set_option maxRecDepth 20000 in
theorem ggX7_noise_X7_isRoom : GoodIn wsX7_noise wsX7_isRoom := goodIn_r _ [11, 12, 34, 35, 36, 37, 38, 39, 40, 41, 42, 43, 44, 45, 46, 47] (by decide +kernel) (by decide +kernel)
set_option maxRecDepth 20000 in
theorem gX7_noise_X7_isRoom : GoodIn wsX7_noise (wsV RX7 91 RX7 yX7_isRoom wsX7_isRoom) := goodIn_app (goodIn_of _ (by decide +kernel)) ggX7_noise_X7_isRoom
set_option maxRecDepth 20000 in
theorem ggX7_noise_X7_holds : GoodIn wsX7_noise wsX7_holds := goodIn_r _ [16, 17, 34, 35, 36, 37, 38, 39, 40, 41, 42, 43, 44, 45, 46, 47] (by decide +kernel) (by decide +kernel)
set_option maxRecDepth 20000 in
theorem gX7_noise_X7_holds : GoodIn wsX7_noise (wsV RX7 95 RX7 yX7_holds wsX7_holds) := goodIn_app (goodIn_of _ (by decide +kernel)) ggX7_noise_X7_holds
set_option maxRecDepth 20000 in
theorem ggX7_noise_X7_save : GoodIn wsX7_noise wsX7_save := goodIn_r _ [21, 22, 23, 12, 24, 25, 3, 26, 34, 35, 36, 37, 38, 39, 40, 41, 42, 43, 44, 45, 46, 47] (by decide +kernel) (by decide +kernel)
set_option maxRecDepth 20000 in
theorem gX7_noise_X7_save : GoodIn wsX7_noise (wsV RX7 99 RX7 yX7_save wsX7_save) := goodIn_app (goodIn_of _ (by decide +kernel)) ggX7_noise_X7_save
set_option maxRecDepth 20000 in
theorem ggX7_noise_X7_add : GoodIn wsX7_noise wsX7_add := goodIn_r _ [30, 12, 31, 32, 3, 33, 34, 35, 36, 37, 38, 39, 40, 41, 42, 43, 44, 45, 46, 47] (by decide +kernel) (by decide +kernel)
set_option maxRecDepth 20000 in
theorem gX7_noise_X7_add : GoodIn wsX7_noise (wsV RX7 102 RX7 yX7_add wsX7_add) := goodIn_app (goodIn_of _ (by decide +kernel)) ggX7_noise_X7_add
theorem dX7_noise_0 : decode cX7_noise 0 = .ok (.aload_n 0, 1) := by decide +kernel
theorem dX7_noise_1 : decode cX7_noise 1 = .ok (.iload_n 1, 1) := by decide +kernel
theorem dX7_noise_2 : decode cX7_noise 2 = .ok (.iload_n 2, 1) := by decide +kernel
theorem dX7_noise_3 : decode cX7_noise 3 = .ok (.iload_n 3, 1) := by decide +kernel
theorem dX7_noise_4 : decode cX7_noise 4 = .ok (.invokestatic 88, 3) := by decide +kernel
theorem dX7_noise_7 : decode cX7_noise 7 = .ok (.ifCond .ne 7, 3) := by decide +kernel
theorem dX7_noise_10 : decode cX7_noise 10 = .ok (.iconst 1, 1) := by decide +kernel
theorem dX7_noise_11 : decode cX7_noise 11 = .ok (.goto 16, 3) := by decide +kernel
theorem dX7_noise_14 : decode cX7_noise 14 = .ok (.aload_n 0, 1) := by decide +kernel
theorem dX7_noise_15 : decode cX7_noise 15 = .ok (.iconst 0, 1) := by decide +kernel
theorem dX7_noise_16 : decode cX7_noise 16 = .ok (.invokevirtual 91, 3) := by decide +kernel
theorem dX7_noise_19 : decode cX7_noise 19 = .ok (.ifCond .eq 7, 3) := by decide +kernel
theorem dX7_noise_22 : decode cX7_noise 22 = .ok (.iconst 0, 1) := by decide +kernel
theorem dX7_noise_23 : decode cX7_noise 23 = .ok (.goto 4, 3) := by decide +kernel
theorem dX7_noise_26 : decode cX7_noise 26 = .ok (.iconst 2, 1) := by decide +kernel
theorem dX7_noise_27 : decode cX7_noise 27 = .ok (.invokevirtual 95, 3) := by decide +kernel
theorem dX7_noise_30 : decode cX7_noise 30 = .ok (.ifCond .ne 5, 3) := by decide +kernel
theorem dX7_noise_33 : decode cX7_noise 33 = .ok (.iconst 0, 1) := by decide +kernel
theorem dX7_noise_34 : decode cX7_noise 34 = .ok (.ireturn, 1) := by decide +kernel
theorem dX7_noise_35 : decode cX7_noise 35 = .ok (.aload_n 0, 1) := by decide +kernel
theorem dX7_noise_36 : decode cX7_noise 36 = .ok (.invokevirtual 99, 3) := by decide +kernel
theorem dX7_noise_39 : decode cX7_noise 39 = .ok (.aload_n 0, 1) := by decide +kernel
theorem dX7_noise_40 : decode cX7_noise 40 = .ok (.iconst 0, 1) := by decide +kernel
theorem dX7_noise_41 : decode cX7_noise 41 = .ok (.iload_n 1, 1) := by decide +kernel
theorem dX7_noise_42 : decode cX7_noise 42 = .ok (.iload_n 2, 1) := by decide +kernel
theorem dX7_noise_43 : decode cX7_noise 43 = .ok (.iload_n 3, 1) := by decide +kernel
theorem dX7_noise_44 : decode cX7_noise 44 = .ok (.iload 4, 2) := by decide +kernel
theorem dX7_noise_46 : decode cX7_noise 46 = .ok (.ifCond .eq 7, 3) := by decide +kernel
theorem dX7_noise_49 : decode cX7_noise 49 = .ok (.iconst 1, 1) := by decide +kernel
theorem dX7_noise_50 : decode cX7_noise 50 = .ok (.goto 4, 3) := by decide +kernel
theorem dX7_noise_53 : decode cX7_noise 53 = .ok (.iconst 0, 1) := by decide +kernel
theorem dX7_noise_54 : decode cX7_noise 54 = .ok (.invokevirtual 102, 3) := by decide +kernel
theorem dX7_noise_57 : decode cX7_noise 57 = .ok (.ireturn, 1) := by decide +kernel
set_option maxRecDepth 20000 in
theorem ggX7_remove_X7_isCue : GoodIn wsX7_remove wsX7_isCue := goodIn_r _ [6, 1, 7, 8, 5, 9, 31, 32, 33, 34, 35, 36, 37, 38, 39, 40, 41, 42, 43, 44] (by decide +kernel) (by decide +kernel)
set_option maxRecDepth 20000 in
theorem gX7_remove_X7_isCue : GoodIn wsX7_remove (wsV RX7 106 RX7 yX7_isCue wsX7_isCue) := goodIn_app (goodIn_of _ (by decide +kernel)) ggX7_remove_X7_isCue
set_option maxRecDepth 20000 in
theorem ggX7_remove_X7_holds : GoodIn wsX7_remove wsX7_holds := goodIn_r _ [13, 14, 31, 32, 33, 34, 35, 36, 37, 38, 39, 40, 41, 42, 43, 44] (by decide +kernel) (by decide +kernel)
set_option maxRecDepth 20000 in
theorem gX7_remove_X7_holds : GoodIn wsX7_remove (wsV RX7 95 RX7 yX7_holds wsX7_holds) := goodIn_app (goodIn_of _ (by decide +kernel)) ggX7_remove_X7_holds
set_option maxRecDepth 20000 in
theorem ggX7_remove_X7_save : GoodIn wsX7_remove wsX7_save := goodIn_r _ [18, 19, 20, 1, 21, 22, 5, 23, 31, 32, 33, 34, 35, 36, 37, 38, 39, 40, 41, 42, 43, 44] (by decide +kernel) (by decide +kernel)
set_option maxRecDepth 20000 in
theorem gX7_remove_X7_save : GoodIn wsX7_remove (wsV RX7 99 RX7 yX7_save wsX7_save) := goodIn_app (goodIn_of _ (by decide +kernel)) ggX7_remove_X7_save
set_option maxRecDepth 20000 in
theorem ggX7_remove_X7_takeOut : GoodIn wsX7_remove wsX7_takeOut := goodIn_r _ [27, 1, 28, 29, 5, 30, 31, 32, 33, 34, 35, 36, 37, 38, 39, 40, 41, 42, 43, 44] (by decide +kernel) (by decide +kernel)
set_option maxRecDepth 20000 in
theorem gX7_remove_X7_takeOut : GoodIn wsX7_remove (wsV RX7 110 RX7 yX7_takeOut wsX7_takeOut) := goodIn_app (goodIn_of _ (by decide +kernel)) ggX7_remove_X7_takeOut
theorem dX7_remove_0 : decode cX7_remove 0 = .ok (.aload_n 0, 1) := by decide +kernel
theorem dX7_remove_1 : decode cX7_remove 1 = .ok (.aload_n 0, 1) := by decide +kernel
theorem dX7_remove_2 : decode cX7_remove 2 = .ok (.iload_n 1, 1) := by decide +kernel
theorem dX7_remove_3 : decode cX7_remove 3 = .ok (.iload_n 2, 1) := by decide +kernel
theorem dX7_remove_4 : decode cX7_remove 4 = .ok (.invokevirtual 106, 3) := by decide +kernel
theorem dX7_remove_7 : decode cX7_remove 7 = .ok (.ifCond .eq 7, 3) := by decide +kernel
theorem dX7_remove_10 : decode cX7_remove 10 = .ok (.iconst 0, 1) := by decide +kernel
theorem dX7_remove_11 : decode cX7_remove 11 = .ok (.goto 4, 3) := by decide +kernel
theorem dX7_remove_14 : decode cX7_remove 14 = .ok (.iconst 1, 1) := by decide +kernel
theorem dX7_remove_15 : decode cX7_remove 15 = .ok (.invokevirtual 95, 3) := by decide +kernel
theorem dX7_remove_18 : decode cX7_remove 18 = .ok (.ifCond .ne 5, 3) := by decide +kernel
theorem dX7_remove_21 : decode cX7_remove 21 = .ok (.iconst 0, 1) := by decide +kernel
theorem dX7_remove_22 : decode cX7_remove 22 = .ok (.ireturn, 1) := by decide +kernel
theorem dX7_remove_23 : decode cX7_remove 23 = .ok (.aload_n 0, 1) := by decide +kernel
theorem dX7_remove_24 : decode cX7_remove 24 = .ok (.invokevirtual 99, 3) := by decide +kernel
theorem dX7_remove_27 : decode cX7_remove 27 = .ok (.aload_n 0, 1) := by decide +kernel
theorem dX7_remove_28 : decode cX7_remove 28 = .ok (.iload_n 1, 1) := by decide +kernel
theorem dX7_remove_29 : decode cX7_remove 29 = .ok (.iload_n 2, 1) := by decide +kernel
theorem dX7_remove_30 : decode cX7_remove 30 = .ok (.invokevirtual 110, 3) := by decide +kernel
theorem dX7_remove_33 : decode cX7_remove 33 = .ok (.iload_n 1, 1) := by decide +kernel
theorem dX7_remove_34 : decode cX7_remove 34 = .ok (.ifCond .eq 12, 3) := by decide +kernel
theorem dX7_remove_37 : decode cX7_remove 37 = .ok (.aload_n 0, 1) := by decide +kernel
theorem dX7_remove_38 : decode cX7_remove 38 = .ok (.getfield 7, 3) := by decide +kernel
theorem dX7_remove_41 : decode cX7_remove 41 = .ok (.iconst 5, 1) := by decide +kernel
theorem dX7_remove_42 : decode cX7_remove 42 = .ok (.iaload, 1) := by decide +kernel
theorem dX7_remove_43 : decode cX7_remove 43 = .ok (.goto 10, 3) := by decide +kernel
theorem dX7_remove_46 : decode cX7_remove 46 = .ok (.aload_n 0, 1) := by decide +kernel
theorem dX7_remove_47 : decode cX7_remove 47 = .ok (.getfield 7, 3) := by decide +kernel
theorem dX7_remove_50 : decode cX7_remove 50 = .ok (.bipush 6, 2) := by decide +kernel
theorem dX7_remove_52 : decode cX7_remove 52 = .ok (.iaload, 1) := by decide +kernel
theorem dX7_remove_53 : decode cX7_remove 53 = .ok (.ireturn, 1) := by decide +kernel
set_option maxRecDepth 20000 in
theorem ggX7_takeOut_X7_whereIs : GoodIn wsX7_takeOut wsX7_whereIs := goodIn_r _ [5] (by decide +kernel) (by decide +kernel)
set_option maxRecDepth 20000 in
theorem gX7_takeOut_X7_whereIs : GoodIn wsX7_takeOut (va_wsS RX7 43 yX7_whereIs wsX7_whereIs) := goodIn_app (goodIn_of _ (by decide +kernel)) ggX7_takeOut_X7_whereIs
theorem dX7_takeOut_0 : decode cX7_takeOut 0 = .ok (.iload_n 1, 1) := by decide +kernel
theorem dX7_takeOut_1 : decode cX7_takeOut 1 = .ok (.ifCond .eq 7, 3) := by decide +kernel
theorem dX7_takeOut_4 : decode cX7_takeOut 4 = .ok (.iconst 5, 1) := by decide +kernel
theorem dX7_takeOut_5 : decode cX7_takeOut 5 = .ok (.goto 5, 3) := by decide +kernel
theorem dX7_takeOut_8 : decode cX7_takeOut 8 = .ok (.bipush 6, 2) := by decide +kernel
theorem dX7_takeOut_10 : decode cX7_takeOut 10 = .ok (.istore_n 3, 1) := by decide +kernel
theorem dX7_takeOut_11 : decode cX7_takeOut 11 = .ok (.iload_n 1, 1) := by decide +kernel
theorem dX7_takeOut_12 : decode cX7_takeOut 12 = .ok (.ifCond .eq 7, 3) := by decide +kernel
theorem dX7_takeOut_15 : decode cX7_takeOut 15 = .ok (.iconst 3, 1) := by decide +kernel
theorem dX7_takeOut_16 : decode cX7_takeOut 16 = .ok (.goto 4, 3) := by decide +kernel
theorem dX7_takeOut_19 : decode cX7_takeOut 19 = .ok (.iconst 4, 1) := by decide +kernel
theorem dX7_takeOut_20 : decode cX7_takeOut 20 = .ok (.istore 4, 2) := by decide +kernel
theorem dX7_takeOut_22 : decode cX7_takeOut 22 = .ok (.aload_n 0, 1) := by decide +kernel
theorem dX7_takeOut_23 : decode cX7_takeOut 23 = .ok (.getfield 7, 3) := by decide +kernel
theorem dX7_takeOut_26 : decode cX7_takeOut 26 = .ok (.iload_n 3, 1) := by decide +kernel
theorem dX7_takeOut_27 : decode cX7_takeOut 27 = .ok (.dup2, 1) := by decide +kernel
theorem dX7_takeOut_28 : decode cX7_takeOut 28 = .ok (.iaload, 1) := by decide +kernel
theorem dX7_takeOut_29 : decode cX7_takeOut 29 = .ok (.iconst 1, 1) := by decide +kernel
theorem dX7_takeOut_30 : decode cX7_takeOut 30 = .ok (.isub, 1) := by decide +kernel
theorem dX7_takeOut_31 : decode cX7_takeOut 31 = .ok (.iastore, 1) := by decide +kernel
theorem dX7_takeOut_32 : decode cX7_takeOut 32 = .ok (.iload_n 1, 1) := by decide +kernel
theorem dX7_takeOut_33 : decode cX7_takeOut 33 = .ok (.iload_n 2, 1) := by decide +kernel
theorem dX7_takeOut_34 : decode cX7_takeOut 34 = .ok (.invokestatic 43, 3) := by decide +kernel
theorem dX7_takeOut_37 : decode cX7_takeOut 37 = .ok (.istore 5, 2) := by decide +kernel
theorem dX7_takeOut_39 : decode cX7_takeOut 39 = .ok (.iload 5, 2) := by decide +kernel
theorem dX7_takeOut_41 : decode cX7_takeOut 41 = .ok (.iload_n 1, 1) := by decide +kernel
theorem dX7_takeOut_42 : decode cX7_takeOut 42 = .ok (.aload_n 0, 1) := by decide +kernel
theorem dX7_takeOut_43 : decode cX7_takeOut 43 = .ok (.getfield 7, 3) := by decide +kernel
theorem dX7_takeOut_46 : decode cX7_takeOut 46 = .ok (.iload_n 3, 1) := by decide +kernel
theorem dX7_takeOut_47 : decode cX7_takeOut 47 = .ok (.iaload, 1) := by decide +kernel
theorem dX7_takeOut_48 : decode cX7_takeOut 48 = .ok (.invokestatic 43, 3) := by decide +kernel
theorem dX7_takeOut_51 : decode cX7_takeOut 51 = .ok (.if_icmp .ge 26, 3) := by decide +kernel
theorem dX7_takeOut_54 : decode cX7_takeOut 54 = .ok (.aload_n 0, 1) := by decide +kernel
theorem dX7_takeOut_55 : decode cX7_takeOut 55 = .ok (.getfield 7, 3) := by decide +kernel
