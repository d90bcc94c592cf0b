theorem dX7_takeOut_58 : decode cX7_takeOut 58 = .ok (.iload 5, 2) := by decide +kernel
theorem dX7_takeOut_60 : decode cX7_takeOut 60 = .ok (.aload_n 0, 1) := by decide +kernel
theorem dX7_takeOut_61 : decode cX7_takeOut 61 = .ok (.getfield 7, 3) := by decide +kernel
theorem dX7_takeOut_64 : decode cX7_takeOut 64 = .ok (.iload 5, 2) := by decide +kernel
theorem dX7_takeOut_66 : decode cX7_takeOut 66 = .ok (.iload 4, 2) := by decide +kernel
theorem dX7_takeOut_68 : decode cX7_takeOut 68 = .ok (.iadd, 1) := by decide +kernel
theorem dX7_takeOut_69 : decode cX7_takeOut 69 = .ok (.iaload, 1) := by decide +kernel
theorem dX7_takeOut_70 : decode cX7_takeOut 70 = .ok (.iastore, 1) := by decide +kernel
theorem dX7_takeOut_71 : decode cX7_takeOut 71 = .ok (.iinc 5 1, 3) := by decide +kernel
theorem dX7_takeOut_74 : decode cX7_takeOut 74 = .ok (.goto (-35), 3) := by decide +kernel
theorem dX7_takeOut_77 : decode cX7_takeOut 77 = .ok (.return_, 1) := by decide +kernel
set_option maxRecDepth 20000 in
theorem ggX7_shift_X7_isCue : GoodIn wsX7_shift wsX7_isCue := goodIn_r _ [6, 1, 7, 8, 5, 9, 27, 28, 29, 30, 31, 32, 33, 34, 35, 36, 37, 38, 39, 40] (by decide +kernel) (by decide +kernel)
set_option maxRecDepth 20000 in
theorem gX7_shift_X7_isCue : GoodIn wsX7_shift (wsV RX7 106 RX7 yX7_isCue wsX7_isCue) := goodIn_app (goodIn_of _ (by decide +kernel)) ggX7_shift_X7_isCue
set_option maxRecDepth 20000 in
theorem ggX7_shift_X7_whereIs : GoodIn wsX7_shift wsX7_whereIs := goodIn_r _ [12] (by decide +kernel) (by decide +kernel)
set_option maxRecDepth 20000 in
theorem gX7_shift_X7_whereIs : GoodIn wsX7_shift (va_wsS RX7 43 yX7_whereIs wsX7_whereIs) := goodIn_app (goodIn_of _ (by decide +kernel)) ggX7_shift_X7_whereIs
set_option maxRecDepth 20000 in
theorem ggX7_shift_X7_in : GoodIn wsX7_shift wsX7_in := goodIn_r _ [9] (by decide +kernel) (by decide +kernel)
set_option maxRecDepth 20000 in
theorem gX7_shift_X7_in : GoodIn wsX7_shift (va_wsS RX7 39 yX7_in wsX7_in) := goodIn_app (goodIn_of _ (by decide +kernel)) ggX7_shift_X7_in
set_option maxRecDepth 20000 in
theorem ggX7_shift_X7_holds : GoodIn wsX7_shift wsX7_holds := goodIn_r _ [16, 17, 27, 28, 29, 30, 31, 32, 33, 34, 35, 36, 37, 38, 39, 40] (by decide +kernel) (by decide +kernel)
set_option maxRecDepth 20000 in
theorem gX7_shift_X7_holds : GoodIn wsX7_shift (wsV RX7 95 RX7 yX7_holds wsX7_holds) := goodIn_app (goodIn_of _ (by decide +kernel)) ggX7_shift_X7_holds
set_option maxRecDepth 20000 in
theorem ggX7_shift_X7_save : GoodIn wsX7_shift wsX7_save := goodIn_r _ [21, 22, 23, 1, 24, 25, 5, 26, 27, 28, 29, 30, 31, 32, 33, 34, 35, 36, 37, 38, 39, 40] (by decide +kernel) (by decide +kernel)
set_option maxRecDepth 20000 in
theorem gX7_shift_X7_save : GoodIn wsX7_shift (wsV RX7 99 RX7 yX7_save wsX7_save) := goodIn_app (goodIn_of _ (by decide +kernel)) ggX7_shift_X7_save
theorem dX7_shift_0 : decode cX7_shift 0 = .ok (.aload_n 0, 1) := by decide +kernel
theorem dX7_shift_1 : decode cX7_shift 1 = .ok (.iload_n 1, 1) := by decide +kernel
theorem dX7_shift_2 : decode cX7_shift 2 = .ok (.iload_n 2, 1) := by decide +kernel
theorem dX7_shift_3 : decode cX7_shift 3 = .ok (.invokevirtual 106, 3) := by decide +kernel
theorem dX7_shift_6 : decode cX7_shift 6 = .ok (.istore 4, 2) := by decide +kernel
theorem dX7_shift_8 : decode cX7_shift 8 = .ok (.iload 4, 2) := by decide +kernel
theorem dX7_shift_10 : decode cX7_shift 10 = .ok (.ifCond .eq 11, 3) := by decide +kernel
theorem dX7_shift_13 : decode cX7_shift 13 = .ok (.iload_n 1, 1) := by decide +kernel
theorem dX7_shift_14 : decode cX7_shift 14 = .ok (.iload_n 2, 1) := by decide +kernel
theorem dX7_shift_15 : decode cX7_shift 15 = .ok (.invokestatic 43, 3) := by decide +kernel
theorem dX7_shift_18 : decode cX7_shift 18 = .ok (.goto 5, 3) := by decide +kernel
theorem dX7_shift_21 : decode cX7_shift 21 = .ok (.bipush 7, 2) := by decide +kernel
theorem dX7_shift_23 : decode cX7_shift 23 = .ok (.istore 5, 2) := by decide +kernel
theorem dX7_shift_25 : decode cX7_shift 25 = .ok (.iload_n 3, 1) := by decide +kernel
theorem dX7_shift_26 : decode cX7_shift 26 = .ok (.bipush (-99), 2) := by decide +kernel
theorem dX7_shift_28 : decode cX7_shift 28 = .ok (.bipush 99, 2) := by decide +kernel
theorem dX7_shift_30 : decode cX7_shift 30 = .ok (.invokestatic 39, 3) := by decide +kernel
theorem dX7_shift_33 : decode cX7_shift 33 = .ok (.ifCond .eq 27, 3) := by decide +kernel
theorem dX7_shift_36 : decode cX7_shift 36 = .ok (.aload_n 0, 1) := by decide +kernel
theorem dX7_shift_37 : decode cX7_shift 37 = .ok (.getfield 7, 3) := by decide +kernel
theorem dX7_shift_40 : decode cX7_shift 40 = .ok (.iload 5, 2) := by decide +kernel
theorem dX7_shift_42 : decode cX7_shift 42 = .ok (.iconst 0, 1) := by decide +kernel
theorem dX7_shift_43 : decode cX7_shift 43 = .ok (.iadd, 1) := by decide +kernel
theorem dX7_shift_44 : decode cX7_shift 44 = .ok (.iaload, 1) := by decide +kernel
theorem dX7_shift_45 : decode cX7_shift 45 = .ok (.iload_n 3, 1) := by decide +kernel
theorem dX7_shift_46 : decode cX7_shift 46 = .ok (.iadd, 1) := by decide +kernel
theorem dX7_shift_47 : decode cX7_shift 47 = .ok (.iconst 0, 1) := by decide +kernel
theorem dX7_shift_48 : decode cX7_shift 48 = .ok (.bipush 99, 2) := by decide +kernel
theorem dX7_shift_50 : decode cX7_shift 50 = .ok (.invokestatic 39, 3) := by decide +kernel
theorem dX7_shift_53 : decode cX7_shift 53 = .ok (.ifCond .eq 7, 3) := by decide +kernel
theorem dX7_shift_56 : decode cX7_shift 56 = .ok (.iconst 1, 1) := by decide +kernel
theorem dX7_shift_57 : decode cX7_shift 57 = .ok (.goto 4, 3) := by decide +kernel
theorem dX7_shift_60 : decode cX7_shift 60 = .ok (.iconst 0, 1) := by decide +kernel
theorem dX7_shift_61 : decode cX7_shift 61 = .ok (.istore 6, 2) := by decide +kernel
theorem dX7_shift_63 : decode cX7_shift 63 = .ok (.aload_n 0, 1) := by decide +kernel
theorem dX7_shift_64 : decode cX7_shift 64 = .ok (.iload 4, 2) := by decide +kernel
theorem dX7_shift_66 : decode cX7_shift 66 = .ok (.ifCond .ne 7, 3) := by decide +kernel
theorem dX7_shift_69 : decode cX7_shift 69 = .ok (.iconst 1, 1) := by decide +kernel
theorem dX7_shift_70 : decode cX7_shift 70 = .ok (.goto 13, 3) := by decide +kernel
theorem dX7_shift_73 : decode cX7_shift 73 = .ok (.iload 6, 2) := by decide +kernel
theorem dX7_shift_75 : decode cX7_shift 75 = .ok (.ifCond .eq 7, 3) := by decide +kernel
theorem dX7_shift_78 : decode cX7_shift 78 = .ok (.iconst 0, 1) := by decide +kernel
theorem dX7_shift_79 : decode cX7_shift 79 = .ok (.goto 4, 3) := by decide +kernel
theorem dX7_shift_82 : decode cX7_shift 82 = .ok (.iconst 2, 1) := by decide +kernel
theorem dX7_shift_83 : decode cX7_shift 83 = .ok (.invokevirtual 95, 3) := by decide +kernel
theorem dX7_shift_86 : decode cX7_shift 86 = .ok (.ifCond .ne 5, 3) := by decide +kernel
theorem dX7_shift_89 : decode cX7_shift 89 = .ok (.iconst 0, 1) := by decide +kernel
theorem dX7_shift_90 : decode cX7_shift 90 = .ok (.ireturn, 1) := by decide +kernel
theorem dX7_shift_91 : decode cX7_shift 91 = .ok (.aload_n 0, 1) := by decide +kernel
theorem dX7_shift_92 : decode cX7_shift 92 = .ok (.invokevirtual 99, 3) := by decide +kernel
theorem dX7_shift_95 : decode cX7_shift 95 = .ok (.aload_n 0, 1) := by decide +kernel
theorem dX7_shift_96 : decode cX7_shift 96 = .ok (.getfield 7, 3) := by decide +kernel
theorem dX7_shift_99 : decode cX7_shift 99 = .ok (.iload 5, 2) := by decide +kernel
theorem dX7_shift_101 : decode cX7_shift 101 = .ok (.iconst 0, 1) := by decide +kernel
theorem dX7_shift_102 : decode cX7_shift 102 = .ok (.iadd, 1) := by decide +kernel
theorem dX7_shift_103 : decode cX7_shift 103 = .ok (.dup2, 1) := by decide +kernel
theorem dX7_shift_104 : decode cX7_shift 104 = .ok (.iaload, 1) := by decide +kernel
theorem dX7_shift_105 : decode cX7_shift 105 = .ok (.iload_n 3, 1) := by decide +kernel
theorem dX7_shift_106 : decode cX7_shift 106 = .ok (.iadd, 1) := by decide +kernel
theorem dX7_shift_107 : decode cX7_shift 107 = .ok (.iastore, 1) := by decide +kernel
theorem dX7_shift_108 : decode cX7_shift 108 = .ok (.aload_n 0, 1) := by decide +kernel
theorem dX7_shift_109 : decode cX7_shift 109 = .ok (.getfield 7, 3) := by decide +kernel
theorem dX7_shift_112 : decode cX7_shift 112 = .ok (.iload 5, 2) := by decide +kernel
theorem dX7_shift_114 : decode cX7_shift 114 = .ok (.iconst 0, 1) := by decide +kernel
theorem dX7_shift_115 : decode cX7_shift 115 = .ok (.iadd, 1) := by decide +kernel
theorem dX7_shift_116 : decode cX7_shift 116 = .ok (.iaload, 1) := by decide +kernel
theorem dX7_shift_117 : decode cX7_shift 117 = .ok (.ireturn, 1) := by decide +kernel
set_option maxRecDepth 20000 in
theorem ggX7_loud_X7_isCue : GoodIn wsX7_loud wsX7_isCue := goodIn_r _ [6, 1, 7, 8, 5, 9, 27, 28, 29, 30, 31, 32, 33, 34, 35, 36, 37, 38, 39, 40] (by decide +kernel) (by decide +kernel)
set_option maxRecDepth 20000 in
theorem gX7_loud_X7_isCue : GoodIn wsX7_loud (wsV RX7 106 RX7 yX7_isCue wsX7_isCue) := goodIn_app (goodIn_of _ (by decide +kernel)) ggX7_loud_X7_isCue
set_option maxRecDepth 20000 in
theorem ggX7_loud_X7_in : GoodIn wsX7_loud wsX7_in := goodIn_r _ [9] (by decide +kernel) (by decide +kernel)
set_option maxRecDepth 20000 in
theorem gX7_loud_X7_in : GoodIn wsX7_loud (va_wsS RX7 39 yX7_in wsX7_in) := goodIn_app (goodIn_of _ (by decide +kernel)) ggX7_loud_X7_in
set_option maxRecDepth 20000 in
theorem ggX7_loud_X7_holds : GoodIn wsX7_loud wsX7_holds := goodIn_r _ [13, 14, 27, 28, 29, 30, 31, 32, 33, 34, 35, 36, 37, 38, 39, 40] (by decide +kernel) (by decide +kernel)
set_option maxRecDepth 20000 in
theorem gX7_loud_X7_holds : GoodIn wsX7_loud (wsV RX7 95 RX7 yX7_holds wsX7_holds) := goodIn_app (goodIn_of _ (by decide +kernel)) ggX7_loud_X7_holds
set_option maxRecDepth 20000 in
theorem ggX7_loud_X7_save : GoodIn wsX7_loud wsX7_save := goodIn_r _ [18, 19, 20, 1, 21, 22, 5, 23, 27, 28, 29, 30, 31, 32, 33, 34, 35, 36, 37, 38, 39, 40] (by decide +kernel) (by decide +kernel)
set_option maxRecDepth 20000 in
theorem gX7_loud_X7_save : GoodIn wsX7_loud (wsV RX7 99 RX7 yX7_save wsX7_save) := goodIn_app (goodIn_of _ (by decide +kernel)) ggX7_loud_X7_save
set_option maxRecDepth 20000 in
theorem ggX7_loud_X7_whereIs : GoodIn wsX7_loud wsX7_whereIs := goodIn_r _ [26] (by decide +kernel) (by decide +kernel)
set_option maxRecDepth 20000 in
theorem gX7_loud_X7_whereIs : GoodIn wsX7_loud (va_wsS RX7 43 yX7_whereIs wsX7_whereIs) := goodIn_app (goodIn_of _ (by decide +kernel)) ggX7_loud_X7_whereIs
theorem dX7_loud_0 : decode cX7_loud 0 = .ok (.aload_n 0, 1) := by decide +kernel
theorem dX7_loud_1 : decode cX7_loud 1 = .ok (.aload_n 0, 1) := by decide +kernel
theorem dX7_loud_2 : decode cX7_loud 2 = .ok (.iload_n 1, 1) := by decide +kernel
theorem dX7_loud_3 : decode cX7_loud 3 = .ok (.iload_n 2, 1) := by decide +kernel
theorem dX7_loud_4 : decode cX7_loud 4 = .ok (.invokevirtual 106, 3) := by decide +kernel
theorem dX7_loud_7 : decode cX7_loud 7 = .ok (.ifCond .ne 7, 3) := by decide +kernel
theorem dX7_loud_10 : decode cX7_loud 10 = .ok (.iconst 1, 1) := by decide +kernel
theorem dX7_loud_11 : decode cX7_loud 11 = .ok (.goto 18, 3) := by decide +kernel
theorem dX7_loud_14 : decode cX7_loud 14 = .ok (.iload_n 3, 1) := by decide +kernel
theorem dX7_loud_15 : decode cX7_loud 15 = .ok (.iconst 1, 1) := by decide +kernel
theorem dX7_loud_16 : decode cX7_loud 16 = .ok (.bipush 30, 2) := by decide +kernel
theorem dX7_loud_18 : decode cX7_loud 18 = .ok (.invokestatic 39, 3) := by decide +kernel
theorem dX7_loud_21 : decode cX7_loud 21 = .ok (.ifCond .eq 7, 3) := by decide +kernel
theorem dX7_loud_24 : decode cX7_loud 24 = .ok (.iconst 0, 1) := by decide +kernel
theorem dX7_loud_25 : decode cX7_loud 25 = .ok (.goto 4, 3) := by decide +kernel
theorem dX7_loud_28 : decode cX7_loud 28 = .ok (.iconst 2, 1) := by decide +kernel
theorem dX7_loud_29 : decode cX7_loud 29 = .ok (.invokevirtual 95, 3) := by decide +kernel
theorem dX7_loud_32 : decode cX7_loud 32 = .ok (.ifCond .ne 5, 3) := by decide +kernel
theorem dX7_loud_35 : decode cX7_loud 35 = .ok (.iconst 0, 1) := by decide +kernel
theorem dX7_loud_36 : decode cX7_loud 36 = .ok (.ireturn, 1) := by decide +kernel
theorem dX7_loud_37 : decode cX7_loud 37 = .ok (.aload_n 0, 1) := by decide +kernel
theorem dX7_loud_38 : decode cX7_loud 38 = .ok (.invokevirtual 99, 3) := by decide +kernel
theorem dX7_loud_41 : decode cX7_loud 41 = .ok (.iload_n 1, 1) := by decide +kernel
theorem dX7_loud_42 : decode cX7_loud 42 = .ok (.iload_n 2, 1) := by decide +kernel
theorem dX7_loud_43 : decode cX7_loud 43 = .ok (.invokestatic 43, 3) := by decide +kernel
theorem dX7_loud_46 : decode cX7_loud 46 = .ok (.iconst 2, 1) := by decide +kernel
theorem dX7_loud_47 : decode cX7_loud 47 = .ok (.iadd, 1) := by decide +kernel
theorem dX7_loud_48 : decode cX7_loud 48 = .ok (.istore 4, 2) := by decide +kernel
theorem dX7_loud_50 : decode cX7_loud 50 = .ok (.aload_n 0, 1) := by decide +kernel
theorem dX7_loud_51 : decode cX7_loud 51 = .ok (.getfield 7, 3) := by decide +kernel
theorem dX7_loud_54 : decode cX7_loud 54 = .ok (.iload 4, 2) := by decide +kernel
theorem dX7_loud_56 : decode cX7_loud 56 = .ok (.iaload, 1) := by decide +kernel
theorem dX7_loud_57 : decode cX7_loud 57 = .ok (.istore 5, 2) := by decide +kernel
theorem dX7_loud_59 : decode cX7_loud 59 = .ok (.aload_n 0, 1) := by decide +kernel
theorem dX7_loud_60 : decode cX7_loud 60 = .ok (.getfield 7, 3) := by decide +kernel
theorem dX7_loud_63 : decode cX7_loud 63 = .ok (.iload 4, 2) := by decide +kernel
theorem dX7_loud_65 : decode cX7_loud 65 = .ok (.iload_n 3, 1) := by decide +kernel
theorem dX7_loud_66 : decode cX7_loud 66 = .ok (.iastore, 1) := by decide +kernel
theorem dX7_loud_67 : decode cX7_loud 67 = .ok (.iload 5, 2) := by decide +kernel
theorem dX7_loud_69 : decode cX7_loud 69 = .ok (.ireturn, 1) := by decide +kernel
set_option maxRecDepth 20000 in
theorem ggX7_isValue_X7_in : GoodIn wsX7_isValue wsX7_in := goodIn_r _ [4] (by decide +kernel) (by decide +kernel)
set_option maxRecDepth 20000 in
theorem gX7_isValue_X7_in : GoodIn wsX7_isValue (va_wsS RX7 39 yX7_in wsX7_in) := goodIn_app (goodIn_of _ (by decide +kernel)) ggX7_isValue_X7_in
theorem dX7_isValue_0 : decode cX7_isValue 0 = .ok (.iload_n 0, 1) := by decide +kernel
theorem dX7_isValue_1 : decode cX7_isValue 1 = .ok (.iconst 1, 1) := by decide +kernel
theorem dX7_isValue_2 : decode cX7_isValue 2 = .ok (.if_icmp .ne 13, 3) := by decide +kernel
theorem dX7_isValue_5 : decode cX7_isValue 5 = .ok (.iload_n 1, 1) := by decide +kernel
theorem dX7_isValue_6 : decode cX7_isValue 6 = .ok (.iconst 1, 1) := by decide +kernel
theorem dX7_isValue_7 : decode cX7_isValue 7 = .ok (.bipush 20, 2) := by decide +kernel
theorem dX7_isValue_9 : decode cX7_isValue 9 = .ok (.invokestatic 39, 3) := by decide +kernel
theorem dX7_isValue_12 : decode cX7_isValue 12 = .ok (.goto 28, 3) := by decide +kernel
theorem dX7_isValue_15 : decode cX7_isValue 15 = .ok (.iload_n 1, 1) := by decide +kernel
theorem dX7_isValue_16 : decode cX7_isValue 16 = .ok (.iconst 0, 1) := by decide +kernel
theorem dX7_isValue_17 : decode cX7_isValue 17 = .ok (.iload_n 0, 1) := by decide +kernel
theorem dX7_isValue_18 : decode cX7_isValue 18 = .ok (.ifCond .ne 8, 3) := by decide +kernel
theorem dX7_isValue_21 : decode cX7_isValue 21 = .ok (.bipush 20, 2) := by decide +kernel
theorem dX7_isValue_23 : decode cX7_isValue 23 = .ok (.goto 14, 3) := by decide +kernel
theorem dX7_isValue_26 : decode cX7_isValue 26 = .ok (.iload_n 0, 1) := by decide +kernel
theorem dX7_isValue_27 : decode cX7_isValue 27 = .ok (.iconst 2, 1) := by decide +kernel
theorem dX7_isValue_28 : decode cX7_isValue 28 = .ok (.if_icmp .ne 7, 3) := by decide +kernel
theorem dX7_isValue_31 : decode cX7_isValue 31 = .ok (.iconst 5, 1) := by decide +kernel
theorem dX7_isValue_32 : decode cX7_isValue 32 = .ok (.goto 5, 3) := by decide +kernel
theorem dX7_isValue_35 : decode cX7_isValue 35 = .ok (.bipush 10, 2) := by decide +kernel
theorem dX7_isValue_37 : decode cX7_isValue 37 = .ok (.invokestatic 39, 3) := by decide +kernel
theorem dX7_isValue_40 : decode cX7_isValue 40 = .ok (.ireturn, 1) := by decide +kernel
set_option maxRecDepth 20000 in
theorem ggX7_set_X7_in : GoodIn wsX7_set wsX7_in := goodIn_r _ [5] (by decide +kernel) (by decide +kernel)
set_option maxRecDepth 20000 in
theorem gX7_set_X7_in : GoodIn wsX7_set (va_wsS RX7 39 yX7_in wsX7_in) := goodIn_app (goodIn_of _ (by decide +kernel)) ggX7_set_X7_in
set_option maxRecDepth 20000 in
theorem ggX7_set_X7_isValue : GoodIn wsX7_set wsX7_isValue := goodIn_r _ [8, 2, 3, 4, 5] (by decide +kernel) (by decide +kernel)
set_option maxRecDepth 20000 in
theorem gX7_set_X7_isValue : GoodIn wsX7_set (va_wsS RX7 114 yX7_isValue wsX7_isValue) := goodIn_app (goodIn_of _ (by decide +kernel)) ggX7_set_X7_isValue
set_option maxRecDepth 20000 in
theorem ggX7_set_X7_holds : GoodIn wsX7_set wsX7_holds := goodIn_r _ [12, 13, 23, 24, 25, 26, 27, 28, 29, 30, 31, 32, 33, 34, 35, 36] (by decide +kernel) (by decide +kernel)
set_option maxRecDepth 20000 in
theorem gX7_set_X7_holds : GoodIn wsX7_set (wsV RX7 95 RX7 yX7_holds wsX7_holds) := goodIn_app (goodIn_of _ (by decide +kernel)) ggX7_set_X7_holds
set_option maxRecDepth 20000 in
theorem ggX7_set_X7_save : GoodIn wsX7_set wsX7_save := goodIn_r _ [17, 18, 19, 1, 20, 21, 4, 22, 23, 24, 25, 26, 27, 28, 29, 30, 31, 32, 33, 34, 35, 36] (by decide +kernel) (by decide +kernel)
set_option maxRecDepth 20000 in
theorem gX7_set_X7_save : GoodIn wsX7_set (wsV RX7 99 RX7 yX7_save wsX7_save) := goodIn_app (goodIn_of _ (by decide +kernel)) ggX7_set_X7_save
theorem dX7_set_0 : decode cX7_set 0 = .ok (.aload_n 0, 1) := by decide +kernel
theorem dX7_set_1 : decode cX7_set 1 = .ok (.iload_n 1, 1) := by decide +kernel
theorem dX7_set_2 : decode cX7_set 2 = .ok (.iconst 0, 1) := by decide +kernel
theorem dX7_set_3 : decode cX7_set 3 = .ok (.iconst 4, 1) := by decide +kernel
theorem dX7_set_4 : decode cX7_set 4 = .ok (.invokestatic 39, 3) := by decide +kernel
theorem dX7_set_7 : decode cX7_set 7 = .ok (.ifCond .ne 7, 3) := by decide +kernel
theorem dX7_set_10 : decode cX7_set 10 = .ok (.iconst 1, 1) := by decide +kernel
theorem dX7_set_11 : decode cX7_set 11 = .ok (.goto 16, 3) := by decide +kernel
theorem dX7_set_14 : decode cX7_set 14 = .ok (.iload_n 1, 1) := by decide +kernel
theorem dX7_set_15 : decode cX7_set 15 = .ok (.iload_n 2, 1) := by decide +kernel
theorem dX7_set_16 : decode cX7_set 16 = .ok (.invokestatic 114, 3) := by decide +kernel
theorem dX7_set_19 : decode cX7_set 19 = .ok (.ifCond .eq 7, 3) := by decide +kernel
theorem dX7_set_22 : decode cX7_set 22 = .ok (.iconst 0, 1) := by decide +kernel
theorem dX7_set_23 : decode cX7_set 23 = .ok (.goto 4, 3) := by decide +kernel
theorem dX7_set_26 : decode cX7_set 26 = .ok (.iconst 2, 1) := by decide +kernel
theorem dX7_set_27 : decode cX7_set 27 = .ok (.invokevirtual 95, 3) := by decide +kernel
theorem dX7_set_30 : decode cX7_set 30 = .ok (.ifCond .ne 5, 3) := by decide +kernel
theorem dX7_set_33 : decode cX7_set 33 = .ok (.iconst 0, 1) := by decide +kernel
theorem dX7_set_34 : decode cX7_set 34 = .ok (.ireturn, 1) := by decide +kernel
theorem dX7_set_35 : decode cX7_set 35 = .ok (.aload_n 0, 1) := by decide +kernel
theorem dX7_set_36 : decode cX7_set 36 = .ok (.invokevirtual 99, 3) := by decide +kernel
theorem dX7_set_39 : decode cX7_set 39 = .ok (.aload_n 0, 1) := by decide +kernel
theorem dX7_set_40 : decode cX7_set 40 = .ok (.getfield 7, 3) := by decide +kernel
theorem dX7_set_43 : decode cX7_set 43 = .ok (.iload_n 1, 1) := by decide +kernel
theorem dX7_set_44 : decode cX7_set 44 = .ok (.iaload, 1) := by decide +kernel
theorem dX7_set_45 : decode cX7_set 45 = .ok (.istore_n 3, 1) := by decide +kernel
theorem dX7_set_46 : decode cX7_set 46 = .ok (.aload_n 0, 1) := by decide +kernel
theorem dX7_set_47 : decode cX7_set 47 = .ok (.getfield 7, 3) := by decide +kernel
theorem dX7_set_50 : decode cX7_set 50 = .ok (.iload_n 1, 1) := by decide +kernel
theorem dX7_set_51 : decode cX7_set 51 = .ok (.iload_n 2, 1) := by decide +kernel
theorem dX7_set_52 : decode cX7_set 52 = .ok (.iastore, 1) := by decide +kernel
theorem dX7_set_53 : decode cX7_set 53 = .ok (.iload_n 3, 1) := by decide +kernel
theorem dX7_set_54 : decode cX7_set 54 = .ok (.ireturn, 1) := by decide +kernel
set_option maxRecDepth 20000 in
theorem ggX7_append_X7_in : GoodIn wsX7_append wsX7_in := goodIn_r _ [6] (by decide +kernel) (by decide +kernel)
set_option maxRecDepth 20000 in
theorem gX7_append_X7_in : GoodIn wsX7_append (va_wsS RX7 39 yX7_in wsX7_in) := goodIn_app (goodIn_of _ (by decide +kernel)) ggX7_append_X7_in
set_option maxRecDepth 20000 in
theorem ggX7_append_X7_holds : GoodIn wsX7_append wsX7_holds := goodIn_r _ [10, 11, 12, 13, 14, 15, 16, 17, 18, 19, 20, 21, 22, 23, 24, 25] (by decide +kernel) (by decide +kernel)
set_option maxRecDepth 20000 in
theorem gX7_append_X7_holds : GoodIn wsX7_append (wsV RX7 95 RX7 yX7_holds wsX7_holds) := goodIn_app (goodIn_of _ (by decide +kernel)) ggX7_append_X7_holds
theorem dX7_append_0 : decode cX7_append 0 = .ok (.aload_n 0, 1) := by decide +kernel
theorem dX7_append_1 : decode cX7_append 1 = .ok (.iload_n 1, 1) := by decide +kernel
theorem dX7_append_2 : decode cX7_append 2 = .ok (.bipush 33, 2) := by decide +kernel
theorem dX7_append_4 : decode cX7_append 4 = .ok (.bipush 126, 2) := by decide +kernel
theorem dX7_append_6 : decode cX7_append 6 = .ok (.invokestatic 39, 3) := by decide +kernel
theorem dX7_append_9 : decode cX7_append 9 = .ok (.ifCond .ne 7, 3) := by decide +kernel
theorem dX7_append_12 : decode cX7_append 12 = .ok (.iconst 1, 1) := by decide +kernel
theorem dX7_append_13 : decode cX7_append 13 = .ok (.goto 17, 3) := by decide +kernel
theorem dX7_append_16 : decode cX7_append 16 = .ok (.aload_n 0, 1) := by decide +kernel
theorem dX7_append_17 : decode cX7_append 17 = .ok (.getfield 117, 3) := by decide +kernel
theorem dX7_append_20 : decode cX7_append 20 = .ok (.bipush 80, 2) := by decide +kernel
theorem dX7_append_22 : decode cX7_append 22 = .ok (.if_icmp .ne 7, 3) := by decide +kernel
theorem dX7_append_25 : decode cX7_append 25 = .ok (.iconst 2, 1) := by decide +kernel
theorem dX7_append_26 : decode cX7_append 26 = .ok (.goto 4, 3) := by decide +kernel
theorem dX7_append_29 : decode cX7_append 29 = .ok (.iconst 0, 1) := by decide +kernel
theorem dX7_append_30 : decode cX7_append 30 = .ok (.invokevirtual 95, 3) := by decide +kernel
theorem dX7_append_33 : decode cX7_append 33 = .ok (.ifCond .ne 5, 3) := by decide +kernel
theorem dX7_append_36 : decode cX7_append 36 = .ok (.iconst 0, 1) := by decide +kernel
theorem dX7_append_37 : decode cX7_append 37 = .ok (.ireturn, 1) := by decide +kernel
theorem dX7_append_38 : decode cX7_append 38 = .ok (.aload_n 0, 1) := by decide +kernel
theorem dX7_append_39 : decode cX7_append 39 = .ok (.getfield 23, 3) := by decide +kernel
theorem dX7_append_42 : decode cX7_append 42 = .ok (.aload_n 0, 1) := by decide +kernel
theorem dX7_append_43 : decode cX7_append 43 = .ok (.getfield 117, 3) := by decide +kernel
theorem dX7_append_46 : decode cX7_append 46 = .ok (.iload_n 1, 1) := by decide +kernel
theorem dX7_append_47 : decode cX7_append 47 = .ok (.iastore, 1) := by decide +kernel
theorem dX7_append_48 : decode cX7_append 48 = .ok (.aload_n 0, 1) := by decide +kernel
theorem dX7_append_49 : decode cX7_append 49 = .ok (.dup, 1) := by decide +kernel
theorem dX7_append_50 : decode cX7_append 50 = .ok (.getfield 117, 3) := by decide +kernel
theorem dX7_append_53 : decode cX7_append 53 = .ok (.iconst 1, 1) := by decide +kernel
theorem dX7_append_54 : decode cX7_append 54 = .ok (.iadd, 1) := by decide +kernel
theorem dX7_append_55 : decode cX7_append 55 = .ok (.putfield 117, 3) := by decide +kernel
theorem dX7_append_58 : decode cX7_append 58 = .ok (.aload_n 0, 1) := by decide +kernel
theorem dX7_append_59 : decode cX7_append 59 = .ok (.getfield 117, 3) := by decide +kernel
theorem dX7_append_62 : decode cX7_append 62 = .ok (.ireturn, 1) := by decide +kernel
theorem dX7_clearBuffer_0 : decode cX7_clearBuffer 0 = .ok (.aload_n 0, 1) := by decide +kernel
theorem dX7_clearBuffer_1 : decode cX7_clearBuffer 1 = .ok (.iconst 0, 1) := by decide +kernel
theorem dX7_clearBuffer_2 : decode cX7_clearBuffer 2 = .ok (.putfield 35, 3) := by decide +kernel
theorem dX7_clearBuffer_5 : decode cX7_clearBuffer 5 = .ok (.aload_n 0, 1) := by decide +kernel
theorem dX7_clearBuffer_6 : decode cX7_clearBuffer 6 = .ok (.getfield 117, 3) := by decide +kernel
theorem dX7_clearBuffer_9 : decode cX7_clearBuffer 9 = .ok (.istore_n 1, 1) := by decide +kernel
theorem dX7_clearBuffer_10 : decode cX7_clearBuffer 10 = .ok (.aload_n 0, 1) := by decide +kernel
theorem dX7_clearBuffer_11 : decode cX7_clearBuffer 11 = .ok (.iconst 0, 1) := by decide +kernel
theorem dX7_clearBuffer_12 : decode cX7_clearBuffer 12 = .ok (.putfield 117, 3) := by decide +kernel
theorem dX7_clearBuffer_15 : decode cX7_clearBuffer 15 = .ok (.iload_n 1, 1) := by decide +kernel
theorem dX7_clearBuffer_16 : decode cX7_clearBuffer 16 = .ok (.ireturn, 1) := by decide +kernel
set_option maxRecDepth 20000 in
theorem ggX7_isNext_X7_in : GoodIn wsX7_isNext wsX7_in := goodIn_r _ [7] (by decide +kernel) (by decide +kernel)
set_option maxRecDepth 20000 in
theorem gX7_isNext_X7_in : GoodIn wsX7_isNext (va_wsS RX7 39 yX7_in wsX7_in) := goodIn_app (goodIn_of _ (by decide +kernel)) ggX7_isNext_X7_in
theorem dX7_isNext_0 : decode cX7_isNext 0 = .ok (.aload_n 0, 1) := by decide +kernel
theorem dX7_isNext_1 : decode cX7_isNext 1 = .ok (.getfield 120, 3) := by decide +kernel
theorem dX7_isNext_4 : decode cX7_isNext 4 = .ok (.aload_n 0, 1) := by decide +kernel
theorem dX7_isNext_5 : decode cX7_isNext 5 = .ok (.getfield 117, 3) := by decide +kernel
theorem dX7_isNext_8 : decode cX7_isNext 8 = .ok (.if_icmp .ge 24, 3) := by decide +kernel
theorem dX7_isNext_11 : decode cX7_isNext 11 = .ok (.aload_n 0, 1) := by decide +kernel
theorem dX7_isNext_12 : decode cX7_isNext 12 = .ok (.getfield 23, 3) := by decide +kernel
theorem dX7_isNext_15 : decode cX7_isNext 15 = .ok (.aload_n 0, 1) := by decide +kernel
theorem dX7_isNext_16 : decode cX7_isNext 16 = .ok (.getfield 120, 3) := by decide +kernel
theorem dX7_isNext_19 : decode cX7_isNext 19 = .ok (.iaload, 1) := by decide +kernel
theorem dX7_isNext_20 : decode cX7_isNext 20 = .ok (.iload_n 1, 1) := by decide +kernel
theorem dX7_isNext_21 : decode cX7_isNext 21 = .ok (.iload_n 2, 1) := by decide +kernel
theorem dX7_isNext_22 : decode cX7_isNext 22 = .ok (.invokestatic 39, 3) := by decide +kernel
theorem dX7_isNext_25 : decode cX7_isNext 25 = .ok (.ifCond .eq 7, 3) := by decide +kernel
theorem dX7_isNext_28 : decode cX7_isNext 28 = .ok (.iconst 1, 1) := by decide +kernel
theorem dX7_isNext_29 : decode cX7_isNext 29 = .ok (.goto 4, 3) := by decide +kernel
theorem dX7_isNext_32 : decode cX7_isNext 32 = .ok (.iconst 0, 1) := by decide +kernel
theorem dX7_isNext_33 : decode cX7_isNext 33 = .ok (.ireturn, 1) := by decide +kernel
set_option maxRecDepth 20000 in
theorem ggX7_takes_X7_isNext : GoodIn wsX7_takes wsX7_isNext := goodIn_r _ [6, 1, 7, 8, 9, 10, 5, 11, 12, 13, 14, 15, 16, 17, 18, 19, 20, 21, 22, 23, 24, 25] (by decide +kernel) (by decide +kernel)
set_option maxRecDepth 20000 in
theorem gX7_takes_X7_isNext : GoodIn wsX7_takes (wsV RX7 123 RX7 yX7_isNext wsX7_isNext) := goodIn_app (goodIn_of _ (by decide +kernel)) ggX7_takes_X7_isNext
theorem dX7_takes_0 : decode cX7_takes 0 = .ok (.aload_n 0, 1) := by decide +kernel
theorem dX7_takes_1 : decode cX7_takes 1 = .ok (.iload_n 1, 1) := by decide +kernel
theorem dX7_takes_2 : decode cX7_takes 2 = .ok (.iload_n 1, 1) := by decide +kernel
theorem dX7_takes_3 : decode cX7_takes 3 = .ok (.invokevirtual 123, 3) := by decide +kernel
theorem dX7_takes_6 : decode cX7_takes 6 = .ok (.istore_n 2, 1) := by decide +kernel
theorem dX7_takes_7 : decode cX7_takes 7 = .ok (.aload_n 0, 1) := by decide +kernel
theorem dX7_takes_8 : decode cX7_takes 8 = .ok (.dup, 1) := by decide +kernel
theorem dX7_takes_9 : decode cX7_takes 9 = .ok (.getfield 120, 3) := by decide +kernel
theorem dX7_takes_12 : decode cX7_takes 12 = .ok (.iload_n 2, 1) := by decide +kernel
theorem dX7_takes_13 : decode cX7_takes 13 = .ok (.ifCond .eq 7, 3) := by decide +kernel
theorem dX7_takes_16 : decode cX7_takes 16 = .ok (.iconst 1, 1) := by decide +kernel
theorem dX7_takes_17 : decode cX7_takes 17 = .ok (.goto 4, 3) := by decide +kernel
theorem dX7_takes_20 : decode cX7_takes 20 = .ok (.iconst 0, 1) := by decide +kernel
theorem dX7_takes_21 : decode cX7_takes 21 = .ok (.iadd, 1) := by decide +kernel
theorem dX7_takes_22 : decode cX7_takes 22 = .ok (.putfield 120, 3) := by decide +kernel
theorem dX7_takes_25 : decode cX7_takes 25 = .ok (.iload_n 2, 1) := by decide +kernel
theorem dX7_takes_26 : decode cX7_takes 26 = .ok (.ireturn, 1) := by decide +kernel
set_option maxRecDepth 20000 in
theorem ggX7_readNumber_X7_isNext : GoodIn wsX7_readNumber wsX7_isNext := goodIn_r _ [8, 2, 9, 1, 10, 11, 7, 12, 13, 14, 15, 16, 17, 18, 19, 20, 21, 22, 23, 24, 25, 26] (by decide +kernel) (by decide +kernel)
set_option maxRecDepth 20000 in
theorem gX7_readNumber_X7_isNext : GoodIn wsX7_readNumber (wsV RX7 123 RX7 yX7_isNext wsX7_isNext) := goodIn_app (goodIn_of _ (by decide +kernel)) ggX7_readNumber_X7_isNext
theorem dX7_readNumber_0 : decode cX7_readNumber 0 = .ok (.aload_n 0, 1) := by decide +kernel
theorem dX7_readNumber_1 : decode cX7_readNumber 1 = .ok (.bipush 48, 2) := by decide +kernel
theorem dX7_readNumber_3 : decode cX7_readNumber 3 = .ok (.iload_n 2, 1) := by decide +kernel
theorem dX7_readNumber_4 : decode cX7_readNumber 4 = .ok (.iadd, 1) := by decide +kernel
theorem dX7_readNumber_5 : decode cX7_readNumber 5 = .ok (.bipush 57, 2) := by decide +kernel
theorem dX7_readNumber_7 : decode cX7_readNumber 7 = .ok (.invokevirtual 123, 3) := by decide +kernel
theorem dX7_readNumber_10 : decode cX7_readNumber 10 = .ok (.ifCond .ne 5, 3) := by decide +kernel
theorem dX7_readNumber_13 : decode cX7_readNumber 13 = .ok (.iconst 0, 1) := by decide +kernel
theorem dX7_readNumber_14 : decode cX7_readNumber 14 = .ok (.ireturn, 1) := by decide +kernel
theorem dX7_readNumber_15 : decode cX7_readNumber 15 = .ok (.aload_n 0, 1) := by decide +kernel
theorem dX7_readNumber_16 : decode cX7_readNumber 16 = .ok (.getfield 23, 3) := by decide +kernel
theorem dX7_readNumber_19 : decode cX7_readNumber 19 = .ok (.aload_n 0, 1) := by decide +kernel
theorem dX7_readNumber_20 : decode cX7_readNumber 20 = .ok (.getfield 120, 3) := by decide +kernel
theorem dX7_readNumber_23 : decode cX7_readNumber 23 = .ok (.iaload, 1) := by decide +kernel
theorem dX7_readNumber_24 : decode cX7_readNumber 24 = .ok (.bipush 48, 2) := by decide +kernel
theorem dX7_readNumber_26 : decode cX7_readNumber 26 = .ok (.isub, 1) := by decide +kernel
theorem dX7_readNumber_27 : decode cX7_readNumber 27 = .ok (.istore 4, 2) := by decide +kernel
theorem dX7_readNumber_29 : decode cX7_readNumber 29 = .ok (.aload_n 0, 1) := by decide +kernel
theorem dX7_readNumber_30 : decode cX7_readNumber 30 = .ok (.dup, 1) := by decide +kernel
theorem dX7_readNumber_31 : decode cX7_readNumber 31 = .ok (.getfield 120, 3) := by decide +kernel
theorem dX7_readNumber_34 : decode cX7_readNumber 34 = .ok (.iconst 1, 1) := by decide +kernel
theorem dX7_readNumber_35 : decode cX7_readNumber 35 = .ok (.iadd, 1) := by decide +kernel
theorem dX7_readNumber_36 : decode cX7_readNumber 36 = .ok (.putfield 120, 3) := by decide +kernel
theorem dX7_readNumber_39 : decode cX7_readNumber 39 = .ok (.iload 4, 2) := by decide +kernel
theorem dX7_readNumber_41 : decode cX7_readNumber 41 = .ok (.ifCond .le 69, 3) := by decide +kernel
theorem dX7_readNumber_44 : decode cX7_readNumber 44 = .ok (.aload_n 0, 1) := by decide +kernel
theorem dX7_readNumber_45 : decode cX7_readNumber 45 = .ok (.bipush 48, 2) := by decide +kernel
theorem dX7_readNumber_47 : decode cX7_readNumber 47 = .ok (.bipush 57, 2) := by decide +kernel
theorem dX7_readNumber_49 : decode cX7_readNumber 49 = .ok (.invokevirtual 123, 3) := by decide +kernel
theorem dX7_readNumber_52 : decode cX7_readNumber 52 = .ok (.ifCond .eq 58, 3) := by decide +kernel
theorem dX7_readNumber_55 : decode cX7_readNumber 55 = .ok (.bipush 10, 2) := by decide +kernel
theorem dX7_readNumber_57 : decode cX7_readNumber 57 = .ok (.iload 4, 2) := by decide +kernel
theorem dX7_readNumber_59 : decode cX7_readNumber 59 = .ok (.imul, 1) := by decide +kernel
theorem dX7_readNumber_60 : decode cX7_readNumber 60 = .ok (.aload_n 0, 1) := by decide +kernel
theorem dX7_readNumber_61 : decode cX7_readNumber 61 = .ok (.getfield 23, 3) := by decide +kernel
theorem dX7_readNumber_64 : decode cX7_readNumber 64 = .ok (.aload_n 0, 1) := by decide +kernel
theorem dX7_readNumber_65 : decode cX7_readNumber 65 = .ok (.getfield 120, 3) := by decide +kernel
theorem dX7_readNumber_68 : decode cX7_readNumber 68 = .ok (.iaload, 1) := by decide +kernel
theorem dX7_readNumber_69 : decode cX7_readNumber 69 = .ok (.iadd, 1) := by decide +kernel
theorem dX7_readNumber_70 : decode cX7_readNumber 70 = .ok (.bipush 48, 2) := by decide +kernel
theorem dX7_readNumber_72 : decode cX7_readNumber 72 = .ok (.isub, 1) := by decide +kernel
theorem dX7_readNumber_73 : decode cX7_readNumber 73 = .ok (.iload_n 3, 1) := by decide +kernel
theorem dX7_readNumber_74 : decode cX7_readNumber 74 = .ok (.if_icmp .gt 36, 3) := by decide +kernel
theorem dX7_readNumber_77 : decode cX7_readNumber 77 = .ok (.bipush 10, 2) := by decide +kernel
theorem dX7_readNumber_79 : decode cX7_readNumber 79 = .ok (.iload 4, 2) := by decide +kernel
theorem dX7_readNumber_81 : decode cX7_readNumber 81 = .ok (.imul, 1) := by decide +kernel
theorem dX7_readNumber_82 : decode cX7_readNumber 82 = .ok (.aload_n 0, 1) := by decide +kernel
theorem dX7_readNumber_83 : decode cX7_readNumber 83 = .ok (.getfield 23, 3) := by decide +kernel
theorem dX7_readNumber_86 : decode cX7_readNumber 86 = .ok (.aload_n 0, 1) := by decide +kernel
theorem dX7_readNumber_87 : decode cX7_readNumber 87 = .ok (.getfield 120, 3) := by decide +kernel
theorem dX7_readNumber_90 : decode cX7_readNumber 90 = .ok (.iaload, 1) := by decide +kernel
theorem dX7_readNumber_91 : decode cX7_readNumber 91 = .ok (.iadd, 1) := by decide +kernel
theorem dX7_readNumber_92 : decode cX7_readNumber 92 = .ok (.bipush 48, 2) := by decide +kernel
theorem dX7_readNumber_94 : decode cX7_readNumber 94 = .ok (.isub, 1) := by decide +kernel
theorem dX7_readNumber_95 : decode cX7_readNumber 95 = .ok (.istore 4, 2) := by decide +kernel
theorem dX7_readNumber_97 : decode cX7_readNumber 97 = .ok (.aload_n 0, 1) := by decide +kernel
theorem dX7_readNumber_98 : decode cX7_readNumber 98 = .ok (.dup, 1) := by decide +kernel
theorem dX7_readNumber_99 : decode cX7_readNumber 99 = .ok (.getfield 120, 3) := by decide +kernel
theorem dX7_readNumber_102 : decode cX7_readNumber 102 = .ok (.iconst 1, 1) := by decide +kernel
theorem dX7_readNumber_103 : decode cX7_readNumber 103 = .ok (.iadd, 1) := by decide +kernel
theorem dX7_readNumber_104 : decode cX7_readNumber 104 = .ok (.putfield 120, 3) := by decide +kernel
theorem dX7_readNumber_107 : decode cX7_readNumber 107 = .ok (.goto (-68), 3) := by decide +kernel
theorem dX7_readNumber_110 : decode cX7_readNumber 110 = .ok (.aload_n 0, 1) := by decide +kernel
theorem dX7_readNumber_111 : decode cX7_readNumber 111 = .ok (.getfield 32, 3) := by decide +kernel
theorem dX7_readNumber_114 : decode cX7_readNumber 114 = .ok (.iload_n 1, 1) := by decide +kernel
theorem dX7_readNumber_115 : decode cX7_readNumber 115 = .ok (.iload 4, 2) := by decide +kernel
theorem dX7_readNumber_117 : decode cX7_readNumber 117 = .ok (.iastore, 1) := by decide +kernel
theorem dX7_readNumber_118 : decode cX7_readNumber 118 = .ok (.iconst 1, 1) := by decide +kernel
theorem dX7_readNumber_119 : decode cX7_readNumber 119 = .ok (.ireturn, 1) := by decide +kernel
set_option maxRecDepth 20000 in
theorem ggX7_readCue_X7_readNumber : GoodIn wsX7_readCue wsX7_readNumber := goodIn_r _ [9, 3, 1, 10, 11, 12, 13, 8, 14, 2, 15, 16, 17, 22, 23, 24, 25, 26, 27, 28, 29, 30, 31, 32, 33, 34, 35] (by decide +kernel) (by decide +kernel)
set_option maxRecDepth 20000 in
theorem gX7_readCue_X7_readNumber : GoodIn wsX7_readCue (wsV RX7 129 RX7 yX7_readNumber wsX7_readNumber) := goodIn_app (goodIn_of _ (by decide +kernel)) ggX7_readCue_X7_readNumber
set_option maxRecDepth 20000 in
theorem ggX7_readCue_X7_takes : GoodIn wsX7_readCue wsX7_takes := goodIn_r _ [21, 1, 11, 12, 13, 8, 14, 2, 3, 15, 16, 17, 22, 23, 24, 25, 26, 27, 28, 29, 30, 31, 32, 33, 34, 35] (by decide +kernel) (by decide +kernel)
set_option maxRecDepth 20000 in
theorem gX7_readCue_X7_takes : GoodIn wsX7_readCue (wsV RX7 132 RX7 yX7_takes wsX7_takes) := goodIn_app (goodIn_of _ (by decide +kernel)) ggX7_readCue_X7_takes
theorem dX7_readCue_0 : decode cX7_readCue 0 = .ok (.aload_n 0, 1) := by decide +kernel
theorem dX7_readCue_1 : decode cX7_readCue 1 = .ok (.aload_n 0, 1) := by decide +kernel
theorem dX7_readCue_2 : decode cX7_readCue 2 = .ok (.getfield 120, 3) := by decide +kernel
theorem dX7_readCue_5 : decode cX7_readCue 5 = .ok (.aload_n 0, 1) := by decide +kernel
theorem dX7_readCue_6 : decode cX7_readCue 6 = .ok (.getfield 117, 3) := by decide +kernel
theorem dX7_readCue_9 : decode cX7_readCue 9 = .ok (.if_icmp .ge 15, 3) := by decide +kernel
theorem dX7_readCue_12 : decode cX7_readCue 12 = .ok (.aload_n 0, 1) := by decide +kernel
theorem dX7_readCue_13 : decode cX7_readCue 13 = .ok (.getfield 23, 3) := by decide +kernel
theorem dX7_readCue_16 : decode cX7_readCue 16 = .ok (.aload_n 0, 1) := by decide +kernel
theorem dX7_readCue_17 : decode cX7_readCue 17 = .ok (.getfield 120, 3) := by decide +kernel
theorem dX7_readCue_20 : decode cX7_readCue 20 = .ok (.iaload, 1) := by decide +kernel
theorem dX7_readCue_21 : decode cX7_readCue 21 = .ok (.goto 4, 3) := by decide +kernel
theorem dX7_readCue_24 : decode cX7_readCue 24 = .ok (.iconst 0, 1) := by decide +kernel
theorem dX7_readCue_25 : decode cX7_readCue 25 = .ok (.putfield 126, 3) := by decide +kernel
theorem dX7_readCue_28 : decode cX7_readCue 28 = .ok (.aload_n 0, 1) := by decide +kernel
theorem dX7_readCue_29 : decode cX7_readCue 29 = .ok (.getfield 126, 3) := by decide +kernel
theorem dX7_readCue_32 : decode cX7_readCue 32 = .ok (.bipush 119, 2) := by decide +kernel
theorem dX7_readCue_34 : decode cX7_readCue 34 = .ok (.if_icmp .eq 23, 3) := by decide +kernel
theorem dX7_readCue_37 : decode cX7_readCue 37 = .ok (.aload_n 0, 1) := by decide +kernel
theorem dX7_readCue_38 : decode cX7_readCue 38 = .ok (.getfield 126, 3) := by decide +kernel
theorem dX7_readCue_41 : decode cX7_readCue 41 = .ok (.bipush 110, 2) := by decide +kernel
theorem dX7_readCue_43 : decode cX7_readCue 43 = .ok (.if_icmp .eq 14, 3) := by decide +kernel
theorem dX7_readCue_46 : decode cX7_readCue 46 = .ok (.aload_n 0, 1) := by decide +kernel
theorem dX7_readCue_47 : decode cX7_readCue 47 = .ok (.getfield 126, 3) := by decide +kernel
theorem dX7_readCue_50 : decode cX7_readCue 50 = .ok (.bipush 78, 2) := by decide +kernel
theorem dX7_readCue_52 : decode cX7_readCue 52 = .ok (.if_icmp .eq 5, 3) := by decide +kernel
theorem dX7_readCue_55 : decode cX7_readCue 55 = .ok (.iconst 0, 1) := by decide +kernel
theorem dX7_readCue_56 : decode cX7_readCue 56 = .ok (.ireturn, 1) := by decide +kernel
theorem dX7_readCue_57 : decode cX7_readCue 57 = .ok (.aload_n 0, 1) := by decide +kernel
theorem dX7_readCue_58 : decode cX7_readCue 58 = .ok (.dup, 1) := by decide +kernel
theorem dX7_readCue_59 : decode cX7_readCue 59 = .ok (.getfield 120, 3) := by decide +kernel
theorem dX7_readCue_62 : decode cX7_readCue 62 = .ok (.iconst 1, 1) := by decide +kernel
theorem dX7_readCue_63 : decode cX7_readCue 63 = .ok (.iadd, 1) := by decide +kernel
theorem dX7_readCue_64 : decode cX7_readCue 64 = .ok (.putfield 120, 3) := by decide +kernel
theorem dX7_readCue_67 : decode cX7_readCue 67 = .ok (.aload_n 0, 1) := by decide +kernel
theorem dX7_readCue_68 : decode cX7_readCue 68 = .ok (.iconst 0, 1) := by decide +kernel
theorem dX7_readCue_69 : decode cX7_readCue 69 = .ok (.iconst 0, 1) := by decide +kernel
theorem dX7_readCue_70 : decode cX7_readCue 70 = .ok (.bipush 99, 2) := by decide +kernel
theorem dX7_readCue_72 : decode cX7_readCue 72 = .ok (.invokevirtual 129, 3) := by decide +kernel
theorem dX7_readCue_75 : decode cX7_readCue 75 = .ok (.ifCond .eq 47, 3) := by decide +kernel
theorem dX7_readCue_78 : decode cX7_readCue 78 = .ok (.aload_n 0, 1) := by decide +kernel
theorem dX7_readCue_79 : decode cX7_readCue 79 = .ok (.bipush 43, 2) := by decide +kernel
theorem dX7_readCue_81 : decode cX7_readCue 81 = .ok (.invokevirtual 132, 3) := by decide +kernel
theorem dX7_readCue_84 : decode cX7_readCue 84 = .ok (.ifCond .eq 38, 3) := by decide +kernel
theorem dX7_readCue_87 : decode cX7_readCue 87 = .ok (.aload_n 0, 1) := by decide +kernel
theorem dX7_readCue_88 : decode cX7_readCue 88 = .ok (.iconst 1, 1) := by decide +kernel
theorem dX7_readCue_89 : decode cX7_readCue 89 = .ok (.iconst 1, 1) := by decide +kernel
theorem dX7_readCue_90 : decode cX7_readCue 90 = .ok (.bipush 20, 2) := by decide +kernel
theorem dX7_readCue_92 : decode cX7_readCue 92 = .ok (.invokevirtual 129, 3) := by decide +kernel
theorem dX7_readCue_95 : decode cX7_readCue 95 = .ok (.ifCond .eq 27, 3) := by decide +kernel
theorem dX7_readCue_98 : decode cX7_readCue 98 = .ok (.aload_n 0, 1) := by decide +kernel
theorem dX7_readCue_99 : decode cX7_readCue 99 = .ok (.bipush 64, 2) := by decide +kernel
theorem dX7_readCue_101 : decode cX7_readCue 101 = .ok (.invokevirtual 132, 3) := by decide +kernel
theorem dX7_readCue_104 : decode cX7_readCue 104 = .ok (.ifCond .eq 18, 3) := by decide +kernel
theorem dX7_readCue_107 : decode cX7_readCue 107 = .ok (.aload_n 0, 1) := by decide +kernel
theorem dX7_readCue_108 : decode cX7_readCue 108 = .ok (.iconst 2, 1) := by decide +kernel
theorem dX7_readCue_109 : decode cX7_readCue 109 = .ok (.iconst 1, 1) := by decide +kernel
theorem dX7_readCue_110 : decode cX7_readCue 110 = .ok (.bipush 30, 2) := by decide +kernel
theorem dX7_readCue_112 : decode cX7_readCue 112 = .ok (.invokevirtual 129, 3) := by decide +kernel
theorem dX7_readCue_115 : decode cX7_readCue 115 = .ok (.ifCond .eq 7, 3) := by decide +kernel
theorem dX7_readCue_118 : decode cX7_readCue 118 = .ok (.iconst 1, 1) := by decide +kernel
theorem dX7_readCue_119 : decode cX7_readCue 119 = .ok (.goto 4, 3) := by decide +kernel
theorem dX7_readCue_122 : decode cX7_readCue 122 = .ok (.iconst 0, 1) := by decide +kernel
theorem dX7_readCue_123 : decode cX7_readCue 123 = .ok (.ireturn, 1) := by decide +kernel
set_option maxRecDepth 20000 in
theorem ggX7_readText_X7_readCue : GoodIn wsX7_readText wsX7_readCue := goodIn_r _ [10, 1, 5, 11, 3, 12, 13, 14, 9, 15, 4, 16, 17, 18, 19, 20, 21, 22, 23, 24, 25, 26, 39, 40, 41, 42, 43, 44, 45, 46, 47, 48, 49, 50, 51, 52] (by decide +kernel) (by decide +kernel)
set_option maxRecDepth 20000 in
theorem gX7_readText_X7_readCue : GoodIn wsX7_readText (wsV RX7 138 RX7 yX7_readCue wsX7_readCue) := goodIn_app (goodIn_of _ (by decide +kernel)) ggX7_readText_X7_readCue
set_option maxRecDepth 20000 in
theorem ggX7_readText_X7_isRoom : GoodIn wsX7_readText wsX7_isRoom := goodIn_r _ [30, 31, 39, 40, 41, 42, 43, 44, 45, 46, 47, 48, 49, 50, 51, 52] (by decide +kernel) (by decide +kernel)
set_option maxRecDepth 20000 in
theorem gX7_readText_X7_isRoom : GoodIn wsX7_readText (wsV RX7 91 RX7 yX7_isRoom wsX7_isRoom) := goodIn_app (goodIn_of _ (by decide +kernel)) ggX7_readText_X7_isRoom
set_option maxRecDepth 20000 in
theorem ggX7_readText_X7_add : GoodIn wsX7_readText wsX7_add := goodIn_r _ [35, 31, 36, 37, 9, 38, 39, 40, 41, 42, 43, 44, 45, 46, 47, 48, 49, 50, 51, 52] (by decide +kernel) (by decide +kernel)
set_option maxRecDepth 20000 in
theorem gX7_readText_X7_add : GoodIn wsX7_readText (wsV RX7 102 RX7 yX7_add wsX7_add) := goodIn_app (goodIn_of _ (by decide +kernel)) ggX7_readText_X7_add
set_option maxRecDepth 20000 in
theorem ggX7_readText_X7_takes : GoodIn wsX7_readText wsX7_takes := goodIn_r _ [26, 1, 16, 17, 18, 9, 19, 5, 11, 20, 21, 22, 39, 40, 41, 42, 43, 44, 45, 46, 47, 48, 49, 50, 51, 52] (by decide +kernel) (by decide +kernel)
set_option maxRecDepth 20000 in
theorem gX7_readText_X7_takes : GoodIn wsX7_readText (wsV RX7 132 RX7 yX7_takes wsX7_takes) := goodIn_app (goodIn_of _ (by decide +kernel)) ggX7_readText_X7_takes
theorem dX7_readText_0 : decode cX7_readText 0 = .ok (.aload_n 0, 1) := by decide +kernel
theorem dX7_readText_1 : decode cX7_readText 1 = .ok (.iconst 0, 1) := by decide +kernel
theorem dX7_readText_2 : decode cX7_readText 2 = .ok (.putfield 120, 3) := by decide +kernel
theorem dX7_readText_5 : decode cX7_readText 5 = .ok (.aload_n 0, 1) := by decide +kernel
theorem dX7_readText_6 : decode cX7_readText 6 = .ok (.iconst 0, 1) := by decide +kernel
theorem dX7_readText_7 : decode cX7_readText 7 = .ok (.putfield 135, 3) := by decide +kernel
theorem dX7_readText_10 : decode cX7_readText 10 = .ok (.aload_n 0, 1) := by decide +kernel
theorem dX7_readText_11 : decode cX7_readText 11 = .ok (.invokevirtual 138, 3) := by decide +kernel
theorem dX7_readText_14 : decode cX7_readText 14 = .ok (.istore_n 2, 1) := by decide +kernel
theorem dX7_readText_15 : decode cX7_readText 15 = .ok (.iload_n 2, 1) := by decide +kernel
theorem dX7_readText_16 : decode cX7_readText 16 = .ok (.ifCond .eq 129, 3) := by decide +kernel
theorem dX7_readText_19 : decode cX7_readText 19 = .ok (.iload_n 1, 1) := by decide +kernel
theorem dX7_readText_20 : decode cX7_readText 20 = .ok (.ifCond .eq 77, 3) := by decide +kernel
theorem dX7_readText_23 : decode cX7_readText 23 = .ok (.aload_n 0, 1) := by decide +kernel
theorem dX7_readText_24 : decode cX7_readText 24 = .ok (.aload_n 0, 1) := by decide +kernel
theorem dX7_readText_25 : decode cX7_readText 25 = .ok (.getfield 126, 3) := by decide +kernel
theorem dX7_readText_28 : decode cX7_readText 28 = .ok (.bipush 119, 2) := by decide +kernel
theorem dX7_readText_30 : decode cX7_readText 30 = .ok (.if_icmp .ne 7, 3) := by decide +kernel
theorem dX7_readText_33 : decode cX7_readText 33 = .ok (.iconst 1, 1) := by decide +kernel
theorem dX7_readText_34 : decode cX7_readText 34 = .ok (.goto 4, 3) := by decide +kernel
theorem dX7_readText_37 : decode cX7_readText 37 = .ok (.iconst 0, 1) := by decide +kernel
theorem dX7_readText_38 : decode cX7_readText 38 = .ok (.invokevirtual 91, 3) := by decide +kernel
theorem dX7_readText_41 : decode cX7_readText 41 = .ok (.ifCond .ne 5, 3) := by decide +kernel
theorem dX7_readText_44 : decode cX7_readText 44 = .ok (.iconst 1, 1) := by decide +kernel
theorem dX7_readText_45 : decode cX7_readText 45 = .ok (.ireturn, 1) := by decide +kernel
theorem dX7_readText_46 : decode cX7_readText 46 = .ok (.aload_n 0, 1) := by decide +kernel
theorem dX7_readText_47 : decode cX7_readText 47 = .ok (.aload_n 0, 1) := by decide +kernel
theorem dX7_readText_48 : decode cX7_readText 48 = .ok (.getfield 126, 3) := by decide +kernel
theorem dX7_readText_51 : decode cX7_readText 51 = .ok (.bipush 119, 2) := by decide +kernel
theorem dX7_readText_53 : decode cX7_readText 53 = .ok (.if_icmp .ne 7, 3) := by decide +kernel
theorem dX7_readText_56 : decode cX7_readText 56 = .ok (.iconst 1, 1) := by decide +kernel
theorem dX7_readText_57 : decode cX7_readText 57 = .ok (.goto 4, 3) := by decide +kernel
theorem dX7_readText_60 : decode cX7_readText 60 = .ok (.iconst 0, 1) := by decide +kernel
theorem dX7_readText_61 : decode cX7_readText 61 = .ok (.aload_n 0, 1) := by decide +kernel
theorem dX7_readText_62 : decode cX7_readText 62 = .ok (.getfield 32, 3) := by decide +kernel
theorem dX7_readText_65 : decode cX7_readText 65 = .ok (.iconst 0, 1) := by decide +kernel
theorem dX7_readText_66 : decode cX7_readText 66 = .ok (.iaload, 1) := by decide +kernel
theorem dX7_readText_67 : decode cX7_readText 67 = .ok (.aload_n 0, 1) := by decide +kernel
theorem dX7_readText_68 : decode cX7_readText 68 = .ok (.getfield 32, 3) := by decide +kernel
theorem dX7_readText_71 : decode cX7_readText 71 = .ok (.iconst 1, 1) := by decide +kernel
theorem dX7_readText_72 : decode cX7_readText 72 = .ok (.iaload, 1) := by decide +kernel
theorem dX7_readText_73 : decode cX7_readText 73 = .ok (.aload_n 0, 1) := by decide +kernel
theorem dX7_readText_74 : decode cX7_readText 74 = .ok (.getfield 32, 3) := by decide +kernel
theorem dX7_readText_77 : decode cX7_readText 77 = .ok (.iconst 2, 1) := by decide +kernel
theorem dX7_readText_78 : decode cX7_readText 78 = .ok (.iaload, 1) := by decide +kernel
theorem dX7_readText_79 : decode cX7_readText 79 = .ok (.aload_n 0, 1) := by decide +kernel
theorem dX7_readText_80 : decode cX7_readText 80 = .ok (.getfield 126, 3) := by decide +kernel
theorem dX7_readText_83 : decode cX7_readText 83 = .ok (.bipush 78, 2) := by decide +kernel
theorem dX7_readText_85 : decode cX7_readText 85 = .ok (.if_icmp .ne 7, 3) := by decide +kernel
theorem dX7_readText_88 : decode cX7_readText 88 = .ok (.iconst 1, 1) := by decide +kernel
theorem dX7_readText_89 : decode cX7_readText 89 = .ok (.goto 4, 3) := by decide +kernel
theorem dX7_readText_92 : decode cX7_readText 92 = .ok (.iconst 0, 1) := by decide +kernel
theorem dX7_readText_93 : decode cX7_readText 93 = .ok (.invokevirtual 102, 3) := by decide +kernel
theorem dX7_readText_96 : decode cX7_readText 96 = .ok (.pop, 1) := by decide +kernel
theorem dX7_readText_97 : decode cX7_readText 97 = .ok (.aload_n 0, 1) := by decide +kernel
theorem dX7_readText_98 : decode cX7_readText 98 = .ok (.dup, 1) := by decide +kernel
theorem dX7_readText_99 : decode cX7_readText 99 = .ok (.getfield 135, 3) := by decide +kernel
theorem dX7_readText_102 : decode cX7_readText 102 = .ok (.iconst 1, 1) := by decide +kernel
theorem dX7_readText_103 : decode cX7_readText 103 = .ok (.iadd, 1) := by decide +kernel
theorem dX7_readText_104 : decode cX7_readText 104 = .ok (.putfield 135, 3) := by decide +kernel
theorem dX7_readText_107 : decode cX7_readText 107 = .ok (.aload_n 0, 1) := by decide +kernel
theorem dX7_readText_108 : decode cX7_readText 108 = .ok (.getfield 120, 3) := by decide +kernel
theorem dX7_readText_111 : decode cX7_readText 111 = .ok (.aload_n 0, 1) := by decide +kernel
theorem dX7_readText_112 : decode cX7_readText 112 = .ok (.getfield 117, 3) := by decide +kernel
theorem dX7_readText_115 : decode cX7_readText 115 = .ok (.if_icmp .ne 5, 3) := by decide +kernel
theorem dX7_readText_118 : decode cX7_readText 118 = .ok (.iconst 1, 1) := by decide +kernel
theorem dX7_readText_119 : decode cX7_readText 119 = .ok (.ireturn, 1) := by decide +kernel
theorem dX7_readText_120 : decode cX7_readText 120 = .ok (.aload_n 0, 1) := by decide +kernel
theorem dX7_readText_121 : decode cX7_readText 121 = .ok (.bipush 59, 2) := by decide +kernel
theorem dX7_readText_123 : decode cX7_readText 123 = .ok (.invokevirtual 132, 3) := by decide +kernel
theorem dX7_readText_126 : decode cX7_readText 126 = .ok (.ifCond .eq 14, 3) := by decide +kernel
theorem dX7_readText_129 : decode cX7_readText 129 = .ok (.aload_n 0, 1) := by decide +kernel
theorem dX7_readText_130 : decode cX7_readText 130 = .ok (.invokevirtual 138, 3) := by decide +kernel
theorem dX7_readText_133 : decode cX7_readText 133 = .ok (.ifCond .eq 7, 3) := by decide +kernel
theorem dX7_readText_136 : decode cX7_readText 136 = .ok (.iconst 1, 1) := by decide +kernel
theorem dX7_readText_137 : decode cX7_readText 137 = .ok (.goto 4, 3) := by decide +kernel
theorem dX7_readText_140 : decode cX7_readText 140 = .ok (.iconst 0, 1) := by decide +kernel
theorem dX7_readText_141 : decode cX7_readText 141 = .ok (.istore_n 2, 1) := by decide +kernel
theorem dX7_readText_142 : decode cX7_readText 142 = .ok (.goto (-127), 3) := by decide +kernel
theorem dX7_readText_145 : decode cX7_readText 145 = .ok (.iconst 0, 1) := by decide +kernel
theorem dX7_readText_146 : decode cX7_readText 146 = .ok (.ireturn, 1) := by decide +kernel
set_option maxRecDepth 20000 in
theorem ggX7_firstError_X7_readText : GoodIn wsX7_firstError wsX7_readText := goodIn_r _ [8, 3, 9, 10, 11, 2, 12, 13, 14, 7, 15, 16, 17, 18, 19, 20, 21, 22, 23, 24, 25, 26, 27, 28, 29, 30, 31, 32, 33, 34, 35, 36, 37, 38, 39, 40, 41, 42, 43, 44, 45, 46, 47, 48, 49, 50, 51, 52, 53, 54, 55, 56, 57] (by decide +kernel) (by decide +kernel)
set_option maxRecDepth 20000 in
theorem gX7_firstError_X7_readText : GoodIn wsX7_firstError (wsV RX7 142 RX7 yX7_readText wsX7_readText) := goodIn_app (goodIn_of _ (by decide +kernel)) ggX7_firstError_X7_readText
theorem dX7_firstError_0 : decode cX7_firstError 0 = .ok (.aload_n 0, 1) := by decide +kernel
theorem dX7_firstError_1 : decode cX7_firstError 1 = .ok (.iconst 0, 1) := by decide +kernel
theorem dX7_firstError_2 : decode cX7_firstError 2 = .ok (.putfield 35, 3) := by decide +kernel
theorem dX7_firstError_5 : decode cX7_firstError 5 = .ok (.aload_n 0, 1) := by decide +kernel
theorem dX7_firstError_6 : decode cX7_firstError 6 = .ok (.iconst 0, 1) := by decide +kernel
theorem dX7_firstError_7 : decode cX7_firstError 7 = .ok (.invokevirtual 142, 3) := by decide +kernel
theorem dX7_firstError_10 : decode cX7_firstError 10 = .ok (.ifCond .eq 10, 3) := by decide +kernel
theorem dX7_firstError_13 : decode cX7_firstError 13 = .ok (.aload_n 0, 1) := by decide +kernel
theorem dX7_firstError_14 : decode cX7_firstError 14 = .ok (.getfield 117, 3) := by decide +kernel
theorem dX7_firstError_17 : decode cX7_firstError 17 = .ok (.goto 7, 3) := by decide +kernel
theorem dX7_firstError_20 : decode cX7_firstError 20 = .ok (.aload_n 0, 1) := by decide +kernel
theorem dX7_firstError_21 : decode cX7_firstError 21 = .ok (.getfield 120, 3) := by decide +kernel
theorem dX7_firstError_24 : decode cX7_firstError 24 = .ok (.ireturn, 1) := by decide +kernel
set_option maxRecDepth 20000 in
theorem ggX7_read_X7_readText : GoodIn wsX7_read wsX7_readText := goodIn_r _ [7, 8, 2, 9, 10, 1, 11, 12, 13, 6, 14, 15, 16, 17, 18, 19, 20, 21, 22, 23, 24, 25, 26, 27, 28, 29, 30, 31, 32, 33, 34, 35, 36, 37, 38, 39, 40, 41, 42, 57, 58, 59, 60, 61, 62, 63, 64, 65, 66, 67, 68, 69, 70] (by decide +kernel) (by decide +kernel)
set_option maxRecDepth 20000 in
theorem gX7_read_X7_readText : GoodIn wsX7_read (wsV RX7 142 RX7 yX7_readText wsX7_readText) := goodIn_app (goodIn_of _ (by decide +kernel)) ggX7_read_X7_readText
set_option maxRecDepth 20000 in
theorem ggX7_read_X7_holds : GoodIn wsX7_read wsX7_holds := goodIn_r _ [46, 47, 57, 58, 59, 60, 61, 62, 63, 64, 65, 66, 67, 68, 69, 70] (by decide +kernel) (by decide +kernel)
set_option maxRecDepth 20000 in
theorem gX7_read_X7_holds : GoodIn wsX7_read (wsV RX7 95 RX7 yX7_holds wsX7_holds) := goodIn_app (goodIn_of _ (by decide +kernel)) ggX7_read_X7_holds
set_option maxRecDepth 20000 in
theorem ggX7_read_X7_save : GoodIn wsX7_read wsX7_save := goodIn_r _ [51, 52, 53, 35, 54, 55, 6, 56, 57, 58, 59, 60, 61, 62, 63, 64, 65, 66, 67, 68, 69, 70] (by decide +kernel) (by decide +kernel)
set_option maxRecDepth 20000 in
theorem gX7_read_X7_save : GoodIn wsX7_read (wsV RX7 99 RX7 yX7_save wsX7_save) := goodIn_app (goodIn_of _ (by decide +kernel)) ggX7_read_X7_save
theorem dX7_read_0 : decode cX7_read 0 = .ok (.aload_n 0, 1) := by decide +kernel
theorem dX7_read_1 : decode cX7_read 1 = .ok (.aload_n 0, 1) := by decide +kernel
theorem dX7_read_2 : decode cX7_read 2 = .ok (.iconst 0, 1) := by decide +kernel
theorem dX7_read_3 : decode cX7_read 3 = .ok (.invokevirtual 142, 3) := by decide +kernel
theorem dX7_read_6 : decode cX7_read 6 = .ok (.ifCond .eq 7, 3) := by decide +kernel
theorem dX7_read_9 : decode cX7_read 9 = .ok (.iconst 0, 1) := by decide +kernel
theorem dX7_read_10 : decode cX7_read 10 = .ok (.goto 4, 3) := by decide +kernel
theorem dX7_read_13 : decode cX7_read 13 = .ok (.iconst 1, 1) := by decide +kernel
theorem dX7_read_14 : decode cX7_read 14 = .ok (.invokevirtual 95, 3) := by decide +kernel
theorem dX7_read_17 : decode cX7_read 17 = .ok (.ifCond .ne 5, 3) := by decide +kernel
theorem dX7_read_20 : decode cX7_read 20 = .ok (.iconst 0, 1) := by decide +kernel
theorem dX7_read_21 : decode cX7_read 21 = .ok (.ireturn, 1) := by decide +kernel
theorem dX7_read_22 : decode cX7_read 22 = .ok (.aload_n 0, 1) := by decide +kernel
theorem dX7_read_23 : decode cX7_read 23 = .ok (.invokevirtual 99, 3) := by decide +kernel
theorem dX7_read_26 : decode cX7_read 26 = .ok (.aload_n 0, 1) := by decide +kernel
theorem dX7_read_27 : decode cX7_read 27 = .ok (.iconst 1, 1) := by decide +kernel
theorem dX7_read_28 : decode cX7_read 28 = .ok (.invokevirtual 142, 3) := by decide +kernel
theorem dX7_read_31 : decode cX7_read 31 = .ok (.istore_n 1, 1) := by decide +kernel
theorem dX7_read_32 : decode cX7_read 32 = .ok (.aload_n 0, 1) := by decide +kernel
theorem dX7_read_33 : decode cX7_read 33 = .ok (.iconst 0, 1) := by decide +kernel
theorem dX7_read_34 : decode cX7_read 34 = .ok (.putfield 117, 3) := by decide +kernel
theorem dX7_read_37 : decode cX7_read 37 = .ok (.iload_n 1, 1) := by decide +kernel
theorem dX7_read_38 : decode cX7_read 38 = .ok (.ifCond .eq 10, 3) := by decide +kernel
theorem dX7_read_41 : decode cX7_read 41 = .ok (.aload_n 0, 1) := by decide +kernel
theorem dX7_read_42 : decode cX7_read 42 = .ok (.getfield 135, 3) := by decide +kernel
theorem dX7_read_45 : decode cX7_read 45 = .ok (.goto 4, 3) := by decide +kernel
theorem dX7_read_48 : decode cX7_read 48 = .ok (.iconst 0, 1) := by decide +kernel
theorem dX7_read_49 : decode cX7_read 49 = .ok (.ireturn, 1) := by decide +kernel
theorem dX7_writeNumber_0 : decode cX7_writeNumber 0 = .ok (.iload_n 1, 1) := by decide +kernel
theorem dX7_writeNumber_1 : decode cX7_writeNumber 1 = .ok (.bipush 9, 2) := by decide +kernel
theorem dX7_writeNumber_3 : decode cX7_writeNumber 3 = .ok (.if_icmp .le 29, 3) := by decide +kernel
theorem dX7_writeNumber_6 : decode cX7_writeNumber 6 = .ok (.aload_n 0, 1) := by decide +kernel
theorem dX7_writeNumber_7 : decode cX7_writeNumber 7 = .ok (.getfield 23, 3) := by decide +kernel
theorem dX7_writeNumber_10 : decode cX7_writeNumber 10 = .ok (.aload_n 0, 1) := by decide +kernel
theorem dX7_writeNumber_11 : decode cX7_writeNumber 11 = .ok (.getfield 117, 3) := by decide +kernel
theorem dX7_writeNumber_14 : decode cX7_writeNumber 14 = .ok (.bipush 48, 2) := by decide +kernel
theorem dX7_writeNumber_16 : decode cX7_writeNumber 16 = .ok (.iload_n 1, 1) := by decide +kernel
theorem dX7_writeNumber_17 : decode cX7_writeNumber 17 = .ok (.bipush 10, 2) := by decide +kernel
theorem dX7_writeNumber_19 : decode cX7_writeNumber 19 = .ok (.idiv, 1) := by decide +kernel
theorem dX7_writeNumber_20 : decode cX7_writeNumber 20 = .ok (.iadd, 1) := by decide +kernel
theorem dX7_writeNumber_21 : decode cX7_writeNumber 21 = .ok (.iastore, 1) := by decide +kernel
theorem dX7_writeNumber_22 : decode cX7_writeNumber 22 = .ok (.aload_n 0, 1) := by decide +kernel
theorem dX7_writeNumber_23 : decode cX7_writeNumber 23 = .ok (.dup, 1) := by decide +kernel
theorem dX7_writeNumber_24 : decode cX7_writeNumber 24 = .ok (.getfield 117, 3) := by decide +kernel
theorem dX7_writeNumber_27 : decode cX7_writeNumber 27 = .ok (.iconst 1, 1) := by decide +kernel
theorem dX7_writeNumber_28 : decode cX7_writeNumber 28 = .ok (.iadd, 1) := by decide +kernel
theorem dX7_writeNumber_29 : decode cX7_writeNumber 29 = .ok (.putfield 117, 3) := by decide +kernel
theorem dX7_writeNumber_32 : decode cX7_writeNumber 32 = .ok (.aload_n 0, 1) := by decide +kernel
theorem dX7_writeNumber_33 : decode cX7_writeNumber 33 = .ok (.getfield 23, 3) := by decide +kernel
theorem dX7_writeNumber_36 : decode cX7_writeNumber 36 = .ok (.aload_n 0, 1) := by decide +kernel
theorem dX7_writeNumber_37 : decode cX7_writeNumber 37 = .ok (.getfield 117, 3) := by decide +kernel
theorem dX7_writeNumber_40 : decode cX7_writeNumber 40 = .ok (.bipush 48, 2) := by decide +kernel
theorem dX7_writeNumber_42 : decode cX7_writeNumber 42 = .ok (.iload_n 1, 1) := by decide +kernel
theorem dX7_writeNumber_43 : decode cX7_writeNumber 43 = .ok (.bipush 10, 2) := by decide +kernel
