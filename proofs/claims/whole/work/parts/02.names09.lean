theorem dX3_strengthSumOf_22 : decode cX3_strengthSumOf 22 = .ok (.iconst 0, 1) := by decide +kernel
theorem dX3_strengthSumOf_23 : decode cX3_strengthSumOf 23 = .ok (.invokevirtual 79, 3) := by decide +kernel
theorem dX3_strengthSumOf_26 : decode cX3_strengthSumOf 26 = .ok (.istore 4, 2) := by decide +kernel
theorem dX3_strengthSumOf_28 : decode cX3_strengthSumOf 28 = .ok (.iload 4, 2) := by decide +kernel
theorem dX3_strengthSumOf_30 : decode cX3_strengthSumOf 30 = .ok (.iload_n 3, 1) := by decide +kernel
theorem dX3_strengthSumOf_31 : decode cX3_strengthSumOf 31 = .ok (.if_icmp .ge 19, 3) := by decide +kernel
theorem dX3_strengthSumOf_34 : decode cX3_strengthSumOf 34 = .ok (.iload_n 2, 1) := by decide +kernel
theorem dX3_strengthSumOf_35 : decode cX3_strengthSumOf 35 = .ok (.aload_n 0, 1) := by decide +kernel
theorem dX3_strengthSumOf_36 : decode cX3_strengthSumOf 36 = .ok (.iload_n 1, 1) := by decide +kernel
theorem dX3_strengthSumOf_37 : decode cX3_strengthSumOf 37 = .ok (.iload 4, 2) := by decide +kernel
theorem dX3_strengthSumOf_39 : decode cX3_strengthSumOf 39 = .ok (.invokevirtual 94, 3) := by decide +kernel
theorem dX3_strengthSumOf_42 : decode cX3_strengthSumOf 42 = .ok (.iadd, 1) := by decide +kernel
theorem dX3_strengthSumOf_43 : decode cX3_strengthSumOf 43 = .ok (.istore_n 2, 1) := by decide +kernel
theorem dX3_strengthSumOf_44 : decode cX3_strengthSumOf 44 = .ok (.iinc 4 1, 3) := by decide +kernel
theorem dX3_strengthSumOf_47 : decode cX3_strengthSumOf 47 = .ok (.goto (-19), 3) := by decide +kernel
theorem dX3_strengthSumOf_50 : decode cX3_strengthSumOf 50 = .ok (.iload_n 2, 1) := by decide +kernel
theorem dX3_strengthSumOf_51 : decode cX3_strengthSumOf 51 = .ok (.ireturn, 1) := by decide +kernel
set_option maxRecDepth 20000 in
theorem ggX3_maskingSecondsOf_X1_endOf : GoodIn wsX3_maskingSecondsOf wsX1_endOf := goodIn_r _ [6, 7, 8, 9, 4, 10, 11, 26, 27, 28] (by decide +kernel) (by decide +kernel)
set_option maxRecDepth 20000 in
theorem gX3_maskingSecondsOf_X1_endOf_n114 : GoodIn wsX3_maskingSecondsOf (wsX1_endOf) := ggX3_maskingSecondsOf_X1_endOf
set_option maxRecDepth 20000 in
theorem ggX3_maskingSecondsOf_X1_numberOf : GoodIn wsX3_maskingSecondsOf wsX1_numberOf := goodIn_r _ [10, 11, 26, 27, 28] (by decide +kernel) (by decide +kernel)
set_option maxRecDepth 20000 in
theorem gX3_maskingSecondsOf_X1_numberOf_n79 : GoodIn wsX3_maskingSecondsOf (wsX1_numberOf) := ggX3_maskingSecondsOf_X1_numberOf
set_option maxRecDepth 20000 in
theorem ggX3_maskingSecondsOf_X6_entry : GoodIn wsX3_maskingSecondsOf wsX6_entry := goodIn_r _ [14] (by decide +kernel) (by decide +kernel)
set_option maxRecDepth 20000 in
theorem gX3_maskingSecondsOf_X6_entry_n61 : GoodIn wsX3_maskingSecondsOf (wsX6_entry) := ggX3_maskingSecondsOf_X6_entry
theorem dX3_maskingSecondsOf_0 : decode cX3_maskingSecondsOf 0 = .ok (.iconst 0, 1) := by decide +kernel
theorem dX3_maskingSecondsOf_1 : decode cX3_maskingSecondsOf 1 = .ok (.istore_n 2, 1) := by decide +kernel
theorem dX3_maskingSecondsOf_2 : decode cX3_maskingSecondsOf 2 = .ok (.aload_n 0, 1) := by decide +kernel
theorem dX3_maskingSecondsOf_3 : decode cX3_maskingSecondsOf 3 = .ok (.getfield 12, 3) := by decide +kernel
theorem dX3_maskingSecondsOf_6 : decode cX3_maskingSecondsOf 6 = .ok (.getfield 49, 3) := by decide +kernel
theorem dX3_maskingSecondsOf_9 : decode cX3_maskingSecondsOf 9 = .ok (.iload_n 1, 1) := by decide +kernel
theorem dX3_maskingSecondsOf_10 : decode cX3_maskingSecondsOf 10 = .ok (.invokevirtual 114, 3) := by decide +kernel
theorem dX3_maskingSecondsOf_13 : decode cX3_maskingSecondsOf 13 = .ok (.istore_n 3, 1) := by decide +kernel
theorem dX3_maskingSecondsOf_14 : decode cX3_maskingSecondsOf 14 = .ok (.aload_n 0, 1) := by decide +kernel
theorem dX3_maskingSecondsOf_15 : decode cX3_maskingSecondsOf 15 = .ok (.getfield 12, 3) := by decide +kernel
theorem dX3_maskingSecondsOf_18 : decode cX3_maskingSecondsOf 18 = .ok (.getfield 49, 3) := by decide +kernel
theorem dX3_maskingSecondsOf_21 : decode cX3_maskingSecondsOf 21 = .ok (.iload_n 1, 1) := by decide +kernel
theorem dX3_maskingSecondsOf_22 : decode cX3_maskingSecondsOf 22 = .ok (.iconst 0, 1) := by decide +kernel
theorem dX3_maskingSecondsOf_23 : decode cX3_maskingSecondsOf 23 = .ok (.invokevirtual 79, 3) := by decide +kernel
theorem dX3_maskingSecondsOf_26 : decode cX3_maskingSecondsOf 26 = .ok (.istore 4, 2) := by decide +kernel
theorem dX3_maskingSecondsOf_28 : decode cX3_maskingSecondsOf 28 = .ok (.iload 4, 2) := by decide +kernel
theorem dX3_maskingSecondsOf_30 : decode cX3_maskingSecondsOf 30 = .ok (.iload_n 3, 1) := by decide +kernel
theorem dX3_maskingSecondsOf_31 : decode cX3_maskingSecondsOf 31 = .ok (.if_icmp .ge 24, 3) := by decide +kernel
theorem dX3_maskingSecondsOf_34 : decode cX3_maskingSecondsOf 34 = .ok (.aload_n 0, 1) := by decide +kernel
theorem dX3_maskingSecondsOf_35 : decode cX3_maskingSecondsOf 35 = .ok (.getfield 37, 3) := by decide +kernel
theorem dX3_maskingSecondsOf_38 : decode cX3_maskingSecondsOf 38 = .ok (.iload 4, 2) := by decide +kernel
theorem dX3_maskingSecondsOf_40 : decode cX3_maskingSecondsOf 40 = .ok (.invokestatic 61, 3) := by decide +kernel
theorem dX3_maskingSecondsOf_43 : decode cX3_maskingSecondsOf 43 = .ok (.ifCond .eq 6, 3) := by decide +kernel
theorem dX3_maskingSecondsOf_46 : decode cX3_maskingSecondsOf 46 = .ok (.iinc 2 1, 3) := by decide +kernel
theorem dX3_maskingSecondsOf_49 : decode cX3_maskingSecondsOf 49 = .ok (.iinc 4 1, 3) := by decide +kernel
theorem dX3_maskingSecondsOf_52 : decode cX3_maskingSecondsOf 52 = .ok (.goto (-24), 3) := by decide +kernel
theorem dX3_maskingSecondsOf_55 : decode cX3_maskingSecondsOf 55 = .ok (.iload_n 2, 1) := by decide +kernel
theorem dX3_maskingSecondsOf_56 : decode cX3_maskingSecondsOf 56 = .ok (.ireturn, 1) := by decide +kernel
set_option maxRecDepth 20000 in
theorem ggX3_duckedSecondsOf_X1_endOf : GoodIn wsX3_duckedSecondsOf wsX1_endOf := goodIn_r _ [5, 6, 7, 8, 3, 9, 10, 38, 39, 40] (by decide +kernel) (by decide +kernel)
set_option maxRecDepth 20000 in
theorem gX3_duckedSecondsOf_X1_endOf_n114 : GoodIn wsX3_duckedSecondsOf (wsX1_endOf) := ggX3_duckedSecondsOf_X1_endOf
set_option maxRecDepth 20000 in
theorem ggX3_duckedSecondsOf_X1_numberOf : GoodIn wsX3_duckedSecondsOf wsX1_numberOf := goodIn_r _ [9, 10, 38, 39, 40] (by decide +kernel) (by decide +kernel)
set_option maxRecDepth 20000 in
theorem gX3_duckedSecondsOf_X1_numberOf_n79 : GoodIn wsX3_duckedSecondsOf (wsX1_numberOf) := ggX3_duckedSecondsOf_X1_numberOf
set_option maxRecDepth 20000 in
theorem ggX3_duckedSecondsOf_X3_strengthOf : GoodIn wsX3_duckedSecondsOf wsX3_strengthOf := goodIn_r _ [15, 1, 16, 17, 18, 19, 20, 7, 3, 8, 9, 10, 21, 22, 23, 6, 24, 25, 26, 27, 28, 29, 30, 31, 32, 33, 34, 35, 36, 37, 38, 39, 40] (by decide +kernel) (by decide +kernel)
set_option maxRecDepth 20000 in
theorem gX3_duckedSecondsOf_X3_strengthOf : GoodIn wsX3_duckedSecondsOf (wsV RX3 94 RX3 yX3_strengthOf wsX3_strengthOf) := goodIn_app (goodIn_of _ (by decide +kernel)) ggX3_duckedSecondsOf_X3_strengthOf
theorem dX3_duckedSecondsOf_0 : decode cX3_duckedSecondsOf 0 = .ok (.iconst 0, 1) := by decide +kernel
theorem dX3_duckedSecondsOf_1 : decode cX3_duckedSecondsOf 1 = .ok (.istore_n 2, 1) := by decide +kernel
theorem dX3_duckedSecondsOf_2 : decode cX3_duckedSecondsOf 2 = .ok (.aload_n 0, 1) := by decide +kernel
theorem dX3_duckedSecondsOf_3 : decode cX3_duckedSecondsOf 3 = .ok (.getfield 12, 3) := by decide +kernel
theorem dX3_duckedSecondsOf_6 : decode cX3_duckedSecondsOf 6 = .ok (.getfield 49, 3) := by decide +kernel
theorem dX3_duckedSecondsOf_9 : decode cX3_duckedSecondsOf 9 = .ok (.iload_n 1, 1) := by decide +kernel
theorem dX3_duckedSecondsOf_10 : decode cX3_duckedSecondsOf 10 = .ok (.invokevirtual 114, 3) := by decide +kernel
theorem dX3_duckedSecondsOf_13 : decode cX3_duckedSecondsOf 13 = .ok (.istore_n 3, 1) := by decide +kernel
theorem dX3_duckedSecondsOf_14 : decode cX3_duckedSecondsOf 14 = .ok (.aload_n 0, 1) := by decide +kernel
theorem dX3_duckedSecondsOf_15 : decode cX3_duckedSecondsOf 15 = .ok (.getfield 12, 3) := by decide +kernel
theorem dX3_duckedSecondsOf_18 : decode cX3_duckedSecondsOf 18 = .ok (.getfield 49, 3) := by decide +kernel
theorem dX3_duckedSecondsOf_21 : decode cX3_duckedSecondsOf 21 = .ok (.iload_n 1, 1) := by decide +kernel
theorem dX3_duckedSecondsOf_22 : decode cX3_duckedSecondsOf 22 = .ok (.iconst 0, 1) := by decide +kernel
theorem dX3_duckedSecondsOf_23 : decode cX3_duckedSecondsOf 23 = .ok (.invokevirtual 79, 3) := by decide +kernel
theorem dX3_duckedSecondsOf_26 : decode cX3_duckedSecondsOf 26 = .ok (.istore 4, 2) := by decide +kernel
theorem dX3_duckedSecondsOf_28 : decode cX3_duckedSecondsOf 28 = .ok (.iload 4, 2) := by decide +kernel
theorem dX3_duckedSecondsOf_30 : decode cX3_duckedSecondsOf 30 = .ok (.iload_n 3, 1) := by decide +kernel
theorem dX3_duckedSecondsOf_31 : decode cX3_duckedSecondsOf 31 = .ok (.if_icmp .ge 34, 3) := by decide +kernel
theorem dX3_duckedSecondsOf_34 : decode cX3_duckedSecondsOf 34 = .ok (.aload_n 0, 1) := by decide +kernel
theorem dX3_duckedSecondsOf_35 : decode cX3_duckedSecondsOf 35 = .ok (.iload_n 1, 1) := by decide +kernel
theorem dX3_duckedSecondsOf_36 : decode cX3_duckedSecondsOf 36 = .ok (.iload 4, 2) := by decide +kernel
theorem dX3_duckedSecondsOf_38 : decode cX3_duckedSecondsOf 38 = .ok (.invokevirtual 94, 3) := by decide +kernel
theorem dX3_duckedSecondsOf_41 : decode cX3_duckedSecondsOf 41 = .ok (.aload_n 0, 1) := by decide +kernel
theorem dX3_duckedSecondsOf_42 : decode cX3_duckedSecondsOf 42 = .ok (.getfield 12, 3) := by decide +kernel
theorem dX3_duckedSecondsOf_45 : decode cX3_duckedSecondsOf 45 = .ok (.getfield 49, 3) := by decide +kernel
theorem dX3_duckedSecondsOf_48 : decode cX3_duckedSecondsOf 48 = .ok (.iload_n 1, 1) := by decide +kernel
theorem dX3_duckedSecondsOf_49 : decode cX3_duckedSecondsOf 49 = .ok (.iconst 2, 1) := by decide +kernel
theorem dX3_duckedSecondsOf_50 : decode cX3_duckedSecondsOf 50 = .ok (.invokevirtual 79, 3) := by decide +kernel
theorem dX3_duckedSecondsOf_53 : decode cX3_duckedSecondsOf 53 = .ok (.if_icmp .ge 6, 3) := by decide +kernel
theorem dX3_duckedSecondsOf_56 : decode cX3_duckedSecondsOf 56 = .ok (.iinc 2 1, 3) := by decide +kernel
theorem dX3_duckedSecondsOf_59 : decode cX3_duckedSecondsOf 59 = .ok (.iinc 4 1, 3) := by decide +kernel
theorem dX3_duckedSecondsOf_62 : decode cX3_duckedSecondsOf 62 = .ok (.goto (-34), 3) := by decide +kernel
theorem dX3_duckedSecondsOf_65 : decode cX3_duckedSecondsOf 65 = .ok (.iload_n 2, 1) := by decide +kernel
theorem dX3_duckedSecondsOf_66 : decode cX3_duckedSecondsOf 66 = .ok (.ireturn, 1) := by decide +kernel
set_option maxRecDepth 20000 in
theorem ggX3_isSilent_X6_entry : GoodIn wsX3_isSilent wsX6_entry := goodIn_r _ [5] (by decide +kernel) (by decide +kernel)
set_option maxRecDepth 20000 in
theorem gX3_isSilent_X6_entry_n61 : GoodIn wsX3_isSilent (wsX6_entry) := ggX3_isSilent_X6_entry
theorem dX3_isSilent_0 : decode cX3_isSilent 0 = .ok (.aload_n 0, 1) := by decide +kernel
theorem dX3_isSilent_1 : decode cX3_isSilent 1 = .ok (.getfield 18, 3) := by decide +kernel
theorem dX3_isSilent_4 : decode cX3_isSilent 4 = .ok (.iload_n 1, 1) := by decide +kernel
theorem dX3_isSilent_5 : decode cX3_isSilent 5 = .ok (.invokestatic 61, 3) := by decide +kernel
theorem dX3_isSilent_8 : decode cX3_isSilent 8 = .ok (.aload_n 0, 1) := by decide +kernel
theorem dX3_isSilent_9 : decode cX3_isSilent 9 = .ok (.getfield 22, 3) := by decide +kernel
theorem dX3_isSilent_12 : decode cX3_isSilent 12 = .ok (.iload_n 1, 1) := by decide +kernel
theorem dX3_isSilent_13 : decode cX3_isSilent 13 = .ok (.invokestatic 61, 3) := by decide +kernel
theorem dX3_isSilent_16 : decode cX3_isSilent 16 = .ok (.ior, 1) := by decide +kernel
theorem dX3_isSilent_17 : decode cX3_isSilent 17 = .ok (.ifCond .ne 7, 3) := by decide +kernel
theorem dX3_isSilent_20 : decode cX3_isSilent 20 = .ok (.iconst 1, 1) := by decide +kernel
theorem dX3_isSilent_21 : decode cX3_isSilent 21 = .ok (.goto 4, 3) := by decide +kernel
theorem dX3_isSilent_24 : decode cX3_isSilent 24 = .ok (.iconst 0, 1) := by decide +kernel
theorem dX3_isSilent_25 : decode cX3_isSilent 25 = .ok (.ireturn, 1) := by decide +kernel
set_option maxRecDepth 20000 in
theorem ggX3_lastSound_X3_isSilent : GoodIn wsX3_lastSound wsX3_isSilent := goodIn_r _ [5, 6, 7, 8, 9, 10, 11, 12, 13, 14, 15, 16, 17, 18] (by decide +kernel) (by decide +kernel)
set_option maxRecDepth 20000 in
theorem gX3_lastSound_X3_isSilent : GoodIn wsX3_lastSound (wsV RX3 117 RX3 yX3_isSilent wsX3_isSilent) := goodIn_app (goodIn_of _ (by decide +kernel)) ggX3_lastSound_X3_isSilent
theorem dX3_lastSound_0 : decode cX3_lastSound 0 = .ok (.bipush 119, 2) := by decide +kernel
theorem dX3_lastSound_2 : decode cX3_lastSound 2 = .ok (.istore_n 1, 1) := by decide +kernel
theorem dX3_lastSound_3 : decode cX3_lastSound 3 = .ok (.iload_n 1, 1) := by decide +kernel
theorem dX3_lastSound_4 : decode cX3_lastSound 4 = .ok (.ifCond .lt 19, 3) := by decide +kernel
theorem dX3_lastSound_7 : decode cX3_lastSound 7 = .ok (.aload_n 0, 1) := by decide +kernel
theorem dX3_lastSound_8 : decode cX3_lastSound 8 = .ok (.iload_n 1, 1) := by decide +kernel
theorem dX3_lastSound_9 : decode cX3_lastSound 9 = .ok (.invokevirtual 117, 3) := by decide +kernel
theorem dX3_lastSound_12 : decode cX3_lastSound 12 = .ok (.ifCond .ne 5, 3) := by decide +kernel
theorem dX3_lastSound_15 : decode cX3_lastSound 15 = .ok (.iload_n 1, 1) := by decide +kernel
theorem dX3_lastSound_16 : decode cX3_lastSound 16 = .ok (.ireturn, 1) := by decide +kernel
theorem dX3_lastSound_17 : decode cX3_lastSound 17 = .ok (.iinc 1 (-1), 3) := by decide +kernel
theorem dX3_lastSound_20 : decode cX3_lastSound 20 = .ok (.goto (-17), 3) := by decide +kernel
theorem dX3_lastSound_23 : decode cX3_lastSound 23 = .ok (.iconst (-1), 1) := by decide +kernel
theorem dX3_lastSound_24 : decode cX3_lastSound 24 = .ok (.ireturn, 1) := by decide +kernel
set_option maxRecDepth 20000 in
theorem ggX3_silentSeconds_X3_lastSound : GoodIn wsX3_silentSeconds wsX3_lastSound := goodIn_r _ [5, 6, 7, 8, 4, 9, 10, 11, 12, 13, 14, 15, 16, 17, 18, 19, 20, 21, 22] (by decide +kernel) (by decide +kernel)
set_option maxRecDepth 20000 in
theorem gX3_silentSeconds_X3_lastSound : GoodIn wsX3_silentSeconds (wsV RX3 120 RX3 yX3_lastSound wsX3_lastSound) := goodIn_app (goodIn_of _ (by decide +kernel)) ggX3_silentSeconds_X3_lastSound
set_option maxRecDepth 20000 in
theorem ggX3_silentSeconds_X3_isSilent : GoodIn wsX3_silentSeconds wsX3_isSilent := goodIn_r _ [9, 10, 11, 12, 13, 14, 15, 16, 17, 18, 19, 20, 21, 22] (by decide +kernel) (by decide +kernel)
set_option maxRecDepth 20000 in
theorem gX3_silentSeconds_X3_isSilent : GoodIn wsX3_silentSeconds (wsV RX3 117 RX3 yX3_isSilent wsX3_isSilent) := goodIn_app (goodIn_of _ (by decide +kernel)) ggX3_silentSeconds_X3_isSilent
theorem dX3_silentSeconds_0 : decode cX3_silentSeconds 0 = .ok (.aload_n 0, 1) := by decide +kernel
theorem dX3_silentSeconds_1 : decode cX3_silentSeconds 1 = .ok (.invokevirtual 120, 3) := by decide +kernel
theorem dX3_silentSeconds_4 : decode cX3_silentSeconds 4 = .ok (.istore_n 1, 1) := by decide +kernel
theorem dX3_silentSeconds_5 : decode cX3_silentSeconds 5 = .ok (.iconst 0, 1) := by decide +kernel
theorem dX3_silentSeconds_6 : decode cX3_silentSeconds 6 = .ok (.istore_n 2, 1) := by decide +kernel
theorem dX3_silentSeconds_7 : decode cX3_silentSeconds 7 = .ok (.iconst 0, 1) := by decide +kernel
theorem dX3_silentSeconds_8 : decode cX3_silentSeconds 8 = .ok (.istore_n 3, 1) := by decide +kernel
theorem dX3_silentSeconds_9 : decode cX3_silentSeconds 9 = .ok (.iload_n 3, 1) := by decide +kernel
theorem dX3_silentSeconds_10 : decode cX3_silentSeconds 10 = .ok (.iload_n 1, 1) := by decide +kernel
theorem dX3_silentSeconds_11 : decode cX3_silentSeconds 11 = .ok (.if_icmp .ge 20, 3) := by decide +kernel
theorem dX3_silentSeconds_14 : decode cX3_silentSeconds 14 = .ok (.aload_n 0, 1) := by decide +kernel
theorem dX3_silentSeconds_15 : decode cX3_silentSeconds 15 = .ok (.iload_n 3, 1) := by decide +kernel
theorem dX3_silentSeconds_16 : decode cX3_silentSeconds 16 = .ok (.invokevirtual 117, 3) := by decide +kernel
theorem dX3_silentSeconds_19 : decode cX3_silentSeconds 19 = .ok (.ifCond .eq 6, 3) := by decide +kernel
theorem dX3_silentSeconds_22 : decode cX3_silentSeconds 22 = .ok (.iinc 2 1, 3) := by decide +kernel
theorem dX3_silentSeconds_25 : decode cX3_silentSeconds 25 = .ok (.iinc 3 1, 3) := by decide +kernel
theorem dX3_silentSeconds_28 : decode cX3_silentSeconds 28 = .ok (.goto (-19), 3) := by decide +kernel
theorem dX3_silentSeconds_31 : decode cX3_silentSeconds 31 = .ok (.iload_n 2, 1) := by decide +kernel
theorem dX3_silentSeconds_32 : decode cX3_silentSeconds 32 = .ok (.ireturn, 1) := by decide +kernel
set_option maxRecDepth 20000 in
theorem ggX3_greatestMasker_X1_size : GoodIn wsX3_greatestMasker wsX1_size := goodIn_r _ [7, 8, 23, 24, 25] (by decide +kernel) (by decide +kernel)
set_option maxRecDepth 20000 in
theorem gX3_greatestMasker_X1_size_n86 : GoodIn wsX3_greatestMasker (wsX1_size) := ggX3_greatestMasker_X1_size
set_option maxRecDepth 20000 in
theorem ggX3_greatestMasker_X6_entry : GoodIn wsX3_greatestMasker wsX6_entry := goodIn_r _ [11] (by decide +kernel) (by decide +kernel)
set_option maxRecDepth 20000 in
theorem gX3_greatestMasker_X6_entry_n61 : GoodIn wsX3_greatestMasker (wsX6_entry) := ggX3_greatestMasker_X6_entry
theorem dX3_greatestMasker_0 : decode cX3_greatestMasker 0 = .ok (.iconst (-1), 1) := by decide +kernel
theorem dX3_greatestMasker_1 : decode cX3_greatestMasker 1 = .ok (.istore_n 1, 1) := by decide +kernel
theorem dX3_greatestMasker_2 : decode cX3_greatestMasker 2 = .ok (.iconst 0, 1) := by decide +kernel
theorem dX3_greatestMasker_3 : decode cX3_greatestMasker 3 = .ok (.istore_n 2, 1) := by decide +kernel
theorem dX3_greatestMasker_4 : decode cX3_greatestMasker 4 = .ok (.iconst 0, 1) := by decide +kernel
theorem dX3_greatestMasker_5 : decode cX3_greatestMasker 5 = .ok (.istore_n 3, 1) := by decide +kernel
theorem dX3_greatestMasker_6 : decode cX3_greatestMasker 6 = .ok (.iload_n 3, 1) := by decide +kernel
theorem dX3_greatestMasker_7 : decode cX3_greatestMasker 7 = .ok (.aload_n 0, 1) := by decide +kernel
theorem dX3_greatestMasker_8 : decode cX3_greatestMasker 8 = .ok (.getfield 12, 3) := by decide +kernel
theorem dX3_greatestMasker_11 : decode cX3_greatestMasker 11 = .ok (.getfield 49, 3) := by decide +kernel
theorem dX3_greatestMasker_14 : decode cX3_greatestMasker 14 = .ok (.invokevirtual 86, 3) := by decide +kernel
theorem dX3_greatestMasker_17 : decode cX3_greatestMasker 17 = .ok (.if_icmp .ge 67, 3) := by decide +kernel
theorem dX3_greatestMasker_20 : decode cX3_greatestMasker 20 = .ok (.iconst 0, 1) := by decide +kernel
theorem dX3_greatestMasker_21 : decode cX3_greatestMasker 21 = .ok (.istore 4, 2) := by decide +kernel
theorem dX3_greatestMasker_23 : decode cX3_greatestMasker 23 = .ok (.iconst 0, 1) := by decide +kernel
theorem dX3_greatestMasker_24 : decode cX3_greatestMasker 24 = .ok (.istore 5, 2) := by decide +kernel
theorem dX3_greatestMasker_26 : decode cX3_greatestMasker 26 = .ok (.iload 5, 2) := by decide +kernel
theorem dX3_greatestMasker_28 : decode cX3_greatestMasker 28 = .ok (.bipush 120, 2) := by decide +kernel
theorem dX3_greatestMasker_30 : decode cX3_greatestMasker 30 = .ok (.if_icmp .ge 37, 3) := by decide +kernel
theorem dX3_greatestMasker_33 : decode cX3_greatestMasker 33 = .ok (.aload_n 0, 1) := by decide +kernel
theorem dX3_greatestMasker_34 : decode cX3_greatestMasker 34 = .ok (.getfield 28, 3) := by decide +kernel
theorem dX3_greatestMasker_37 : decode cX3_greatestMasker 37 = .ok (.iload 5, 2) := by decide +kernel
theorem dX3_greatestMasker_39 : decode cX3_greatestMasker 39 = .ok (.invokestatic 61, 3) := by decide +kernel
theorem dX3_greatestMasker_42 : decode cX3_greatestMasker 42 = .ok (.iload_n 3, 1) := by decide +kernel
theorem dX3_greatestMasker_43 : decode cX3_greatestMasker 43 = .ok (.if_icmp .ne 18, 3) := by decide +kernel
theorem dX3_greatestMasker_46 : decode cX3_greatestMasker 46 = .ok (.aload_n 0, 1) := by decide +kernel
theorem dX3_greatestMasker_47 : decode cX3_greatestMasker 47 = .ok (.getfield 37, 3) := by decide +kernel
theorem dX3_greatestMasker_50 : decode cX3_greatestMasker 50 = .ok (.iload 5, 2) := by decide +kernel
theorem dX3_greatestMasker_52 : decode cX3_greatestMasker 52 = .ok (.invokestatic 61, 3) := by decide +kernel
theorem dX3_greatestMasker_55 : decode cX3_greatestMasker 55 = .ok (.ifCond .eq 6, 3) := by decide +kernel
theorem dX3_greatestMasker_58 : decode cX3_greatestMasker 58 = .ok (.iinc 4 1, 3) := by decide +kernel
theorem dX3_greatestMasker_61 : decode cX3_greatestMasker 61 = .ok (.iinc 5 1, 3) := by decide +kernel
theorem dX3_greatestMasker_64 : decode cX3_greatestMasker 64 = .ok (.goto (-38), 3) := by decide +kernel
theorem dX3_greatestMasker_67 : decode cX3_greatestMasker 67 = .ok (.iload 4, 2) := by decide +kernel
theorem dX3_greatestMasker_69 : decode cX3_greatestMasker 69 = .ok (.iload_n 2, 1) := by decide +kernel
theorem dX3_greatestMasker_70 : decode cX3_greatestMasker 70 = .ok (.if_icmp .le 8, 3) := by decide +kernel
theorem dX3_greatestMasker_73 : decode cX3_greatestMasker 73 = .ok (.iload 4, 2) := by decide +kernel
theorem dX3_greatestMasker_75 : decode cX3_greatestMasker 75 = .ok (.istore_n 2, 1) := by decide +kernel
theorem dX3_greatestMasker_76 : decode cX3_greatestMasker 76 = .ok (.iload_n 3, 1) := by decide +kernel
theorem dX3_greatestMasker_77 : decode cX3_greatestMasker 77 = .ok (.istore_n 1, 1) := by decide +kernel
theorem dX3_greatestMasker_78 : decode cX3_greatestMasker 78 = .ok (.iinc 3 1, 3) := by decide +kernel
theorem dX3_greatestMasker_81 : decode cX3_greatestMasker 81 = .ok (.goto (-75), 3) := by decide +kernel
theorem dX3_greatestMasker_84 : decode cX3_greatestMasker 84 = .ok (.iload_n 1, 1) := by decide +kernel
theorem dX3_greatestMasker_85 : decode cX3_greatestMasker 85 = .ok (.ireturn, 1) := by decide +kernel
set_option maxRecDepth 20000 in
theorem ggX4_init_X1_init : GoodIn wsX4_init wsX1_init := goodIn_r _ [17, 18, 2, 3, 19, 20, 21, 22, 23, 24, 25] (by decide +kernel) (by decide +kernel)
set_option maxRecDepth 20000 in
theorem gX4_init_X1_init_n11 : GoodIn wsX4_init (wsX1_init) := ggX4_init_X1_init
theorem dX4_init_0 : decode cX4_init 0 = .ok (.aload_n 0, 1) := by decide +kernel
theorem dX4_init_1 : decode cX4_init 1 = .ok (.invokespecial 3, 3) := by decide +kernel
theorem dX4_init_4 : decode cX4_init 4 = .ok (.aload_n 0, 1) := by decide +kernel
theorem dX4_init_5 : decode cX4_init 5 = .ok (.new 9, 3) := by decide +kernel
theorem dX4_init_8 : decode cX4_init 8 = .ok (.dup, 1) := by decide +kernel
theorem dX4_init_9 : decode cX4_init 9 = .ok (.bipush 10, 2) := by decide +kernel
theorem dX4_init_11 : decode cX4_init 11 = .ok (.invokespecial 11, 3) := by decide +kernel
theorem dX4_init_14 : decode cX4_init 14 = .ok (.putfield 14, 3) := by decide +kernel
theorem dX4_init_17 : decode cX4_init 17 = .ok (.aload_n 0, 1) := by decide +kernel
theorem dX4_init_18 : decode cX4_init 18 = .ok (.new 9, 3) := by decide +kernel
theorem dX4_init_21 : decode cX4_init 21 = .ok (.dup, 1) := by decide +kernel
theorem dX4_init_22 : decode cX4_init 22 = .ok (.bipush 12, 2) := by decide +kernel
theorem dX4_init_24 : decode cX4_init 24 = .ok (.invokespecial 11, 3) := by decide +kernel
theorem dX4_init_27 : decode cX4_init 27 = .ok (.putfield 20, 3) := by decide +kernel
theorem dX4_init_30 : decode cX4_init 30 = .ok (.aload_n 0, 1) := by decide +kernel
theorem dX4_init_31 : decode cX4_init 31 = .ok (.getstatic 23, 3) := by decide +kernel
theorem dX4_init_34 : decode cX4_init 34 = .ok (.invokevirtual 27, 3) := by decide +kernel
theorem dX4_init_37 : decode cX4_init 37 = .ok (.checkcast 28, 3) := by decide +kernel
theorem dX4_init_40 : decode cX4_init 40 = .ok (.putfield 32, 3) := by decide +kernel
theorem dX4_init_43 : decode cX4_init 43 = .ok (.return_, 1) := by decide +kernel
theorem dX4_cuesOf_0 : decode cX4_cuesOf 0 = .ok (.iload_n 1, 1) := by decide +kernel
theorem dX4_cuesOf_1 : decode cX4_cuesOf 1 = .ok (.ifCond .eq 10, 3) := by decide +kernel
theorem dX4_cuesOf_4 : decode cX4_cuesOf 4 = .ok (.aload_n 0, 1) := by decide +kernel
theorem dX4_cuesOf_5 : decode cX4_cuesOf 5 = .ok (.getfield 14, 3) := by decide +kernel
theorem dX4_cuesOf_8 : decode cX4_cuesOf 8 = .ok (.goto 7, 3) := by decide +kernel
theorem dX4_cuesOf_11 : decode cX4_cuesOf 11 = .ok (.aload_n 0, 1) := by decide +kernel
theorem dX4_cuesOf_12 : decode cX4_cuesOf 12 = .ok (.getfield 20, 3) := by decide +kernel
theorem dX4_cuesOf_15 : decode cX4_cuesOf 15 = .ok (.areturn, 1) := by decide +kernel
theorem dX4_settingOf_0 : decode cX4_settingOf 0 = .ok (.iload_n 1, 1) := by decide +kernel
theorem dX4_settingOf_1 : decode cX4_settingOf 1 = .ok (.ifCond .lt 21, 3) := by decide +kernel
theorem dX4_settingOf_4 : decode cX4_settingOf 4 = .ok (.iload_n 1, 1) := by decide +kernel
theorem dX4_settingOf_5 : decode cX4_settingOf 5 = .ok (.aload_n 0, 1) := by decide +kernel
theorem dX4_settingOf_6 : decode cX4_settingOf 6 = .ok (.getfield 32, 3) := by decide +kernel
theorem dX4_settingOf_9 : decode cX4_settingOf 9 = .ok (.arraylength, 1) := by decide +kernel
theorem dX4_settingOf_10 : decode cX4_settingOf 10 = .ok (.if_icmp .ge 12, 3) := by decide +kernel
theorem dX4_settingOf_13 : decode cX4_settingOf 13 = .ok (.aload_n 0, 1) := by decide +kernel
theorem dX4_settingOf_14 : decode cX4_settingOf 14 = .ok (.getfield 32, 3) := by decide +kernel
theorem dX4_settingOf_17 : decode cX4_settingOf 17 = .ok (.iload_n 1, 1) := by decide +kernel
theorem dX4_settingOf_18 : decode cX4_settingOf 18 = .ok (.iaload, 1) := by decide +kernel
theorem dX4_settingOf_19 : decode cX4_settingOf 19 = .ok (.goto 4, 3) := by decide +kernel
theorem dX4_settingOf_22 : decode cX4_settingOf 22 = .ok (.iconst 0, 1) := by decide +kernel
theorem dX4_settingOf_23 : decode cX4_settingOf 23 = .ok (.ireturn, 1) := by decide +kernel
set_option maxRecDepth 20000 in
theorem ggX4_change_X6_put : GoodIn wsX4_change wsX6_put := goodIn_r _ [4] (by decide +kernel) (by decide +kernel)
set_option maxRecDepth 20000 in
theorem gX4_change_X6_put_n35 : GoodIn wsX4_change (wsX6_put) := ggX4_change_X6_put
theorem dX4_change_0 : decode cX4_change 0 = .ok (.aload_n 0, 1) := by decide +kernel
theorem dX4_change_1 : decode cX4_change 1 = .ok (.getfield 32, 3) := by decide +kernel
theorem dX4_change_4 : decode cX4_change 4 = .ok (.iload_n 1, 1) := by decide +kernel
theorem dX4_change_5 : decode cX4_change 5 = .ok (.iload_n 2, 1) := by decide +kernel
theorem dX4_change_6 : decode cX4_change 6 = .ok (.invokestatic 35, 3) := by decide +kernel
theorem dX4_change_9 : decode cX4_change 9 = .ok (.return_, 1) := by decide +kernel
set_option maxRecDepth 20000 in
theorem ggX4_copyFrom_X1_copyFrom : GoodIn wsX4_copyFrom wsX1_copyFrom := goodIn_r _ [7, 8, 9, 10, 11, 12, 16, 17, 18] (by decide +kernel) (by decide +kernel)
set_option maxRecDepth 20000 in
theorem gX4_copyFrom_X1_copyFrom_n39 : GoodIn wsX4_copyFrom (wsX1_copyFrom) := ggX4_copyFrom_X1_copyFrom
set_option maxRecDepth 20000 in
theorem ggX4_copyFrom_X6_copyRow : GoodIn wsX4_copyFrom wsX6_copyRow := goodIn_r _ [12] (by decide +kernel) (by decide +kernel)
set_option maxRecDepth 20000 in
theorem gX4_copyFrom_X6_copyRow_n43 : GoodIn wsX4_copyFrom (wsX6_copyRow) := ggX4_copyFrom_X6_copyRow
theorem dX4_copyFrom_0 : decode cX4_copyFrom 0 = .ok (.aload_n 0, 1) := by decide +kernel
theorem dX4_copyFrom_1 : decode cX4_copyFrom 1 = .ok (.getfield 14, 3) := by decide +kernel
theorem dX4_copyFrom_4 : decode cX4_copyFrom 4 = .ok (.aload_n 1, 1) := by decide +kernel
theorem dX4_copyFrom_5 : decode cX4_copyFrom 5 = .ok (.getfield 14, 3) := by decide +kernel
theorem dX4_copyFrom_8 : decode cX4_copyFrom 8 = .ok (.invokevirtual 39, 3) := by decide +kernel
theorem dX4_copyFrom_11 : decode cX4_copyFrom 11 = .ok (.aload_n 0, 1) := by decide +kernel
theorem dX4_copyFrom_12 : decode cX4_copyFrom 12 = .ok (.getfield 20, 3) := by decide +kernel
theorem dX4_copyFrom_15 : decode cX4_copyFrom 15 = .ok (.aload_n 1, 1) := by decide +kernel
theorem dX4_copyFrom_16 : decode cX4_copyFrom 16 = .ok (.getfield 20, 3) := by decide +kernel
theorem dX4_copyFrom_19 : decode cX4_copyFrom 19 = .ok (.invokevirtual 39, 3) := by decide +kernel
theorem dX4_copyFrom_22 : decode cX4_copyFrom 22 = .ok (.aload_n 1, 1) := by decide +kernel
theorem dX4_copyFrom_23 : decode cX4_copyFrom 23 = .ok (.getfield 32, 3) := by decide +kernel
theorem dX4_copyFrom_26 : decode cX4_copyFrom 26 = .ok (.aload_n 0, 1) := by decide +kernel
theorem dX4_copyFrom_27 : decode cX4_copyFrom 27 = .ok (.getfield 32, 3) := by decide +kernel
theorem dX4_copyFrom_30 : decode cX4_copyFrom 30 = .ok (.invokestatic 43, 3) := by decide +kernel
theorem dX4_copyFrom_33 : decode cX4_copyFrom 33 = .ok (.return_, 1) := by decide +kernel
theorem dX5_init_0 : decode cX5_init 0 = .ok (.aload_n 0, 1) := by decide +kernel
theorem dX5_init_1 : decode cX5_init 1 = .ok (.invokespecial 3, 3) := by decide +kernel
theorem dX5_init_4 : decode cX5_init 4 = .ok (.aload_n 0, 1) := by decide +kernel
theorem dX5_init_5 : decode cX5_init 5 = .ok (.bipush 80, 2) := by decide +kernel
theorem dX5_init_7 : decode cX5_init 7 = .ok (.newarray .int, 2) := by decide +kernel
theorem dX5_init_9 : decode cX5_init 9 = .ok (.putfield 9, 3) := by decide +kernel
theorem dX5_init_12 : decode cX5_init 12 = .ok (.aload_n 0, 1) := by decide +kernel
theorem dX5_init_13 : decode cX5_init 13 = .ok (.iconst 0, 1) := by decide +kernel
theorem dX5_init_14 : decode cX5_init 14 = .ok (.putfield 15, 3) := by decide +kernel
theorem dX5_init_17 : decode cX5_init 17 = .ok (.return_, 1) := by decide +kernel
theorem dX5_size_0 : decode cX5_size 0 = .ok (.aload_n 0, 1) := by decide +kernel
theorem dX5_size_1 : decode cX5_size 1 = .ok (.getfield 15, 3) := by decide +kernel
theorem dX5_size_4 : decode cX5_size 4 = .ok (.ireturn, 1) := by decide +kernel
theorem dX5_isFull_0 : decode cX5_isFull 0 = .ok (.aload_n 0, 1) := by decide +kernel
theorem dX5_isFull_1 : decode cX5_isFull 1 = .ok (.getfield 15, 3) := by decide +kernel
theorem dX5_isFull_4 : decode cX5_isFull 4 = .ok (.aload_n 0, 1) := by decide +kernel
theorem dX5_isFull_5 : decode cX5_isFull 5 = .ok (.getfield 9, 3) := by decide +kernel
theorem dX5_isFull_8 : decode cX5_isFull 8 = .ok (.arraylength, 1) := by decide +kernel
theorem dX5_isFull_9 : decode cX5_isFull 9 = .ok (.if_icmp .lt 7, 3) := by decide +kernel
theorem dX5_isFull_12 : decode cX5_isFull 12 = .ok (.iconst 1, 1) := by decide +kernel
theorem dX5_isFull_13 : decode cX5_isFull 13 = .ok (.goto 4, 3) := by decide +kernel
theorem dX5_isFull_16 : decode cX5_isFull 16 = .ok (.iconst 0, 1) := by decide +kernel
theorem dX5_isFull_17 : decode cX5_isFull 17 = .ok (.ireturn, 1) := by decide +kernel
theorem dX5_clear_0 : decode cX5_clear 0 = .ok (.aload_n 0, 1) := by decide +kernel
theorem dX5_clear_1 : decode cX5_clear 1 = .ok (.iconst 0, 1) := by decide +kernel
theorem dX5_clear_2 : decode cX5_clear 2 = .ok (.putfield 15, 3) := by decide +kernel
theorem dX5_clear_5 : decode cX5_clear 5 = .ok (.return_, 1) := by decide +kernel
theorem dX5_add_0 : decode cX5_add 0 = .ok (.aload_n 0, 1) := by decide +kernel
theorem dX5_add_1 : decode cX5_add 1 = .ok (.getfield 15, 3) := by decide +kernel
theorem dX5_add_4 : decode cX5_add 4 = .ok (.ifCond .lt 35, 3) := by decide +kernel
theorem dX5_add_7 : decode cX5_add 7 = .ok (.aload_n 0, 1) := by decide +kernel
theorem dX5_add_8 : decode cX5_add 8 = .ok (.getfield 15, 3) := by decide +kernel
theorem dX5_add_11 : decode cX5_add 11 = .ok (.aload_n 0, 1) := by decide +kernel
theorem dX5_add_12 : decode cX5_add 12 = .ok (.getfield 9, 3) := by decide +kernel
theorem dX5_add_15 : decode cX5_add 15 = .ok (.arraylength, 1) := by decide +kernel
theorem dX5_add_16 : decode cX5_add 16 = .ok (.if_icmp .ge 23, 3) := by decide +kernel
theorem dX5_add_19 : decode cX5_add 19 = .ok (.aload_n 0, 1) := by decide +kernel
theorem dX5_add_20 : decode cX5_add 20 = .ok (.getfield 9, 3) := by decide +kernel
theorem dX5_add_23 : decode cX5_add 23 = .ok (.aload_n 0, 1) := by decide +kernel
theorem dX5_add_24 : decode cX5_add 24 = .ok (.getfield 15, 3) := by decide +kernel
theorem dX5_add_27 : decode cX5_add 27 = .ok (.iload_n 1, 1) := by decide +kernel
theorem dX5_add_28 : decode cX5_add 28 = .ok (.iastore, 1) := by decide +kernel
theorem dX5_add_29 : decode cX5_add 29 = .ok (.aload_n 0, 1) := by decide +kernel
theorem dX5_add_30 : decode cX5_add 30 = .ok (.dup, 1) := by decide +kernel
theorem dX5_add_31 : decode cX5_add 31 = .ok (.getfield 15, 3) := by decide +kernel
theorem dX5_add_34 : decode cX5_add 34 = .ok (.iconst 1, 1) := by decide +kernel
theorem dX5_add_35 : decode cX5_add 35 = .ok (.iadd, 1) := by decide +kernel
theorem dX5_add_36 : decode cX5_add 36 = .ok (.putfield 15, 3) := by decide +kernel
theorem dX5_add_39 : decode cX5_add 39 = .ok (.return_, 1) := by decide +kernel
set_option maxRecDepth 20000 in
theorem ggX5_codeAt_X6_entry : GoodIn wsX5_codeAt wsX6_entry := goodIn_r _ [5] (by decide +kernel) (by decide +kernel)
set_option maxRecDepth 20000 in
theorem gX5_codeAt_X6_entry_n19 : GoodIn wsX5_codeAt (wsX6_entry) := ggX5_codeAt_X6_entry
theorem dX5_codeAt_0 : decode cX5_codeAt 0 = .ok (.iload_n 1, 1) := by decide +kernel
theorem dX5_codeAt_1 : decode cX5_codeAt 1 = .ok (.ifCond .lt 22, 3) := by decide +kernel
theorem dX5_codeAt_4 : decode cX5_codeAt 4 = .ok (.iload_n 1, 1) := by decide +kernel
theorem dX5_codeAt_5 : decode cX5_codeAt 5 = .ok (.aload_n 0, 1) := by decide +kernel
theorem dX5_codeAt_6 : decode cX5_codeAt 6 = .ok (.getfield 15, 3) := by decide +kernel
theorem dX5_codeAt_9 : decode cX5_codeAt 9 = .ok (.if_icmp .ge 14, 3) := by decide +kernel
theorem dX5_codeAt_12 : decode cX5_codeAt 12 = .ok (.aload_n 0, 1) := by decide +kernel
theorem dX5_codeAt_13 : decode cX5_codeAt 13 = .ok (.getfield 9, 3) := by decide +kernel
theorem dX5_codeAt_16 : decode cX5_codeAt 16 = .ok (.iload_n 1, 1) := by decide +kernel
theorem dX5_codeAt_17 : decode cX5_codeAt 17 = .ok (.invokestatic 19, 3) := by decide +kernel
theorem dX5_codeAt_20 : decode cX5_codeAt 20 = .ok (.goto 4, 3) := by decide +kernel
theorem dX5_codeAt_23 : decode cX5_codeAt 23 = .ok (.iconst (-1), 1) := by decide +kernel
theorem dX5_codeAt_24 : decode cX5_codeAt 24 = .ok (.ireturn, 1) := by decide +kernel
set_option maxRecDepth 20000 in
theorem ggX5_errorFor_X0_restart : GoodIn wsX5_errorFor wsX0_restart := goodIn_r _ [5, 6, 50, 51, 52] (by decide +kernel) (by decide +kernel)
set_option maxRecDepth 20000 in
theorem gX5_errorFor_X0_restart_n23 : GoodIn wsX5_errorFor (wsX0_restart) := ggX5_errorFor_X0_restart
set_option maxRecDepth 20000 in
theorem ggX5_errorFor_X5_codeAt : GoodIn wsX5_errorFor wsX5_codeAt := goodIn_r _ [11, 1, 12, 13, 14, 15, 48, 49] (by decide +kernel) (by decide +kernel)
set_option maxRecDepth 20000 in
theorem gX5_errorFor_X5_codeAt : GoodIn wsX5_errorFor (wsV RX5 28 RX5 yX5_codeAt wsX5_codeAt) := goodIn_app (goodIn_of _ (by decide +kernel)) ggX5_errorFor_X5_codeAt
set_option maxRecDepth 20000 in
theorem ggX5_errorFor_X0_take : GoodIn wsX5_errorFor wsX0_take := goodIn_r _ [18, 6, 19, 20, 21, 3, 22, 23, 24, 25, 26, 27, 28, 29, 14, 30, 31, 32, 33, 34, 35, 36, 37, 38, 13, 15, 39, 40, 41, 42, 43, 44, 45, 46, 47, 50, 51, 52] (by decide +kernel) (by decide +kernel)
set_option maxRecDepth 20000 in
theorem gX5_errorFor_X0_take_n32 : GoodIn wsX5_errorFor (wsX0_take) := ggX5_errorFor_X0_take
theorem dX5_errorFor_0 : decode cX5_errorFor 0 = .ok (.aload_n 1, 1) := by decide +kernel
theorem dX5_errorFor_1 : decode cX5_errorFor 1 = .ok (.invokevirtual 23, 3) := by decide +kernel
theorem dX5_errorFor_4 : decode cX5_errorFor 4 = .ok (.iconst 0, 1) := by decide +kernel
theorem dX5_errorFor_5 : decode cX5_errorFor 5 = .ok (.istore_n 2, 1) := by decide +kernel
theorem dX5_errorFor_6 : decode cX5_errorFor 6 = .ok (.iload_n 2, 1) := by decide +kernel
theorem dX5_errorFor_7 : decode cX5_errorFor 7 = .ok (.aload_n 0, 1) := by decide +kernel
theorem dX5_errorFor_8 : decode cX5_errorFor 8 = .ok (.getfield 15, 3) := by decide +kernel
theorem dX5_errorFor_11 : decode cX5_errorFor 11 = .ok (.if_icmp .ge 23, 3) := by decide +kernel
theorem dX5_errorFor_14 : decode cX5_errorFor 14 = .ok (.aload_n 1, 1) := by decide +kernel
theorem dX5_errorFor_15 : decode cX5_errorFor 15 = .ok (.aload_n 0, 1) := by decide +kernel
theorem dX5_errorFor_16 : decode cX5_errorFor 16 = .ok (.iload_n 2, 1) := by decide +kernel
theorem dX5_errorFor_17 : decode cX5_errorFor 17 = .ok (.invokevirtual 28, 3) := by decide +kernel
theorem dX5_errorFor_20 : decode cX5_errorFor 20 = .ok (.invokevirtual 32, 3) := by decide +kernel
theorem dX5_errorFor_23 : decode cX5_errorFor 23 = .ok (.ifCond .ne 5, 3) := by decide +kernel
theorem dX5_errorFor_26 : decode cX5_errorFor 26 = .ok (.iload_n 2, 1) := by decide +kernel
theorem dX5_errorFor_27 : decode cX5_errorFor 27 = .ok (.ireturn, 1) := by decide +kernel
theorem dX5_errorFor_28 : decode cX5_errorFor 28 = .ok (.iinc 2 1, 3) := by decide +kernel
theorem dX5_errorFor_31 : decode cX5_errorFor 31 = .ok (.goto (-25), 3) := by decide +kernel
theorem dX5_errorFor_34 : decode cX5_errorFor 34 = .ok (.aload_n 0, 1) := by decide +kernel
theorem dX5_errorFor_35 : decode cX5_errorFor 35 = .ok (.getfield 15, 3) := by decide +kernel
theorem dX5_errorFor_38 : decode cX5_errorFor 38 = .ok (.ireturn, 1) := by decide +kernel
set_option maxRecDepth 20000 in
theorem ggX5_addCue_X1_numberOf : GoodIn wsX5_addCue wsX1_numberOf := goodIn_r _ [6, 7, 22, 23, 24] (by decide +kernel) (by decide +kernel)
set_option maxRecDepth 20000 in
theorem gX5_addCue_X1_numberOf_n36 : GoodIn wsX5_addCue (wsX1_numberOf) := ggX5_addCue_X1_numberOf
set_option maxRecDepth 20000 in
theorem ggX5_addCue_X5_add : GoodIn wsX5_addCue wsX5_add := goodIn_r _ [12, 1, 2, 20, 21] (by decide +kernel) (by decide +kernel)
set_option maxRecDepth 20000 in
theorem gX5_addCue_X5_add : GoodIn wsX5_addCue (wsV RX5 42 RX5 yX5_add wsX5_add) := goodIn_app (goodIn_of _ (by decide +kernel)) ggX5_addCue_X5_add
set_option maxRecDepth 20000 in
theorem ggX5_addCue_X5_addNumber : GoodIn wsX5_addCue wsX5_addNumber := goodIn_r _ [16, 8, 9, 10, 11, 12, 1, 2, 20, 21] (by decide +kernel) (by decide +kernel)
set_option maxRecDepth 20000 in
theorem gX5_addCue_X5_addNumber : GoodIn wsX5_addCue (wsV RX5 46 RX5 yX5_addNumber wsX5_addNumber) := goodIn_app (goodIn_of _ (by decide +kernel)) ggX5_addCue_X5_addNumber
set_option maxRecDepth 20000 in
theorem ggX5_addCue_X6_entry : GoodIn wsX5_addCue wsX6_entry := goodIn_r _ [19] (by decide +kernel) (by decide +kernel)
set_option maxRecDepth 20000 in
theorem gX5_addCue_X6_entry_n19 : GoodIn wsX5_addCue (wsX6_entry) := ggX5_addCue_X6_entry
theorem dX5_addCue_0 : decode cX5_addCue 0 = .ok (.aload_n 0, 1) := by decide +kernel
theorem dX5_addCue_1 : decode cX5_addCue 1 = .ok (.getfield 15, 3) := by decide +kernel
theorem dX5_addCue_4 : decode cX5_addCue 4 = .ok (.istore 4, 2) := by decide +kernel
theorem dX5_addCue_6 : decode cX5_addCue 6 = .ok (.iload 4, 2) := by decide +kernel
theorem dX5_addCue_8 : decode cX5_addCue 8 = .ok (.ifCond .ne 7, 3) := by decide +kernel
theorem dX5_addCue_11 : decode cX5_addCue 11 = .ok (.iconst 3, 1) := by decide +kernel
theorem dX5_addCue_12 : decode cX5_addCue 12 = .ok (.goto 4, 3) := by decide +kernel
theorem dX5_addCue_15 : decode cX5_addCue 15 = .ok (.iconst 4, 1) := by decide +kernel
theorem dX5_addCue_16 : decode cX5_addCue 16 = .ok (.istore 5, 2) := by decide +kernel
theorem dX5_addCue_18 : decode cX5_addCue 18 = .ok (.iconst 0, 1) := by decide +kernel
theorem dX5_addCue_19 : decode cX5_addCue 19 = .ok (.istore 6, 2) := by decide +kernel
theorem dX5_addCue_21 : decode cX5_addCue 21 = .ok (.iconst 0, 1) := by decide +kernel
theorem dX5_addCue_22 : decode cX5_addCue 22 = .ok (.istore 7, 2) := by decide +kernel
theorem dX5_addCue_24 : decode cX5_addCue 24 = .ok (.iload 7, 2) := by decide +kernel
theorem dX5_addCue_26 : decode cX5_addCue 26 = .ok (.iconst 2, 1) := by decide +kernel
theorem dX5_addCue_27 : decode cX5_addCue 27 = .ok (.if_icmp .gt 31, 3) := by decide +kernel
theorem dX5_addCue_30 : decode cX5_addCue 30 = .ok (.iload 6, 2) := by decide +kernel
theorem dX5_addCue_32 : decode cX5_addCue 32 = .ok (.aload_n 2, 1) := by decide +kernel
theorem dX5_addCue_33 : decode cX5_addCue 33 = .ok (.iload_n 3, 1) := by decide +kernel
theorem dX5_addCue_34 : decode cX5_addCue 34 = .ok (.iload 7, 2) := by decide +kernel
theorem dX5_addCue_36 : decode cX5_addCue 36 = .ok (.invokevirtual 36, 3) := by decide +kernel
theorem dX5_addCue_39 : decode cX5_addCue 39 = .ok (.bipush 10, 2) := by decide +kernel
theorem dX5_addCue_41 : decode cX5_addCue 41 = .ok (.if_icmp .lt 7, 3) := by decide +kernel
theorem dX5_addCue_44 : decode cX5_addCue 44 = .ok (.iconst 2, 1) := by decide +kernel
theorem dX5_addCue_45 : decode cX5_addCue 45 = .ok (.goto 4, 3) := by decide +kernel
theorem dX5_addCue_48 : decode cX5_addCue 48 = .ok (.iconst 1, 1) := by decide +kernel
theorem dX5_addCue_49 : decode cX5_addCue 49 = .ok (.iadd, 1) := by decide +kernel
theorem dX5_addCue_50 : decode cX5_addCue 50 = .ok (.istore 6, 2) := by decide +kernel
theorem dX5_addCue_52 : decode cX5_addCue 52 = .ok (.iinc 7 1, 3) := by decide +kernel
theorem dX5_addCue_55 : decode cX5_addCue 55 = .ok (.goto (-31), 3) := by decide +kernel
theorem dX5_addCue_58 : decode cX5_addCue 58 = .ok (.iload 4, 2) := by decide +kernel
theorem dX5_addCue_60 : decode cX5_addCue 60 = .ok (.iload 5, 2) := by decide +kernel
theorem dX5_addCue_62 : decode cX5_addCue 62 = .ok (.iadd, 1) := by decide +kernel
theorem dX5_addCue_63 : decode cX5_addCue 63 = .ok (.iload 6, 2) := by decide +kernel
theorem dX5_addCue_65 : decode cX5_addCue 65 = .ok (.iadd, 1) := by decide +kernel
theorem dX5_addCue_66 : decode cX5_addCue 66 = .ok (.aload_n 0, 1) := by decide +kernel
theorem dX5_addCue_67 : decode cX5_addCue 67 = .ok (.getfield 9, 3) := by decide +kernel
theorem dX5_addCue_70 : decode cX5_addCue 70 = .ok (.arraylength, 1) := by decide +kernel
theorem dX5_addCue_71 : decode cX5_addCue 71 = .ok (.if_icmp .le 5, 3) := by decide +kernel
theorem dX5_addCue_74 : decode cX5_addCue 74 = .ok (.iconst 0, 1) := by decide +kernel
theorem dX5_addCue_75 : decode cX5_addCue 75 = .ok (.ireturn, 1) := by decide +kernel
theorem dX5_addCue_76 : decode cX5_addCue 76 = .ok (.iload 4, 2) := by decide +kernel
theorem dX5_addCue_78 : decode cX5_addCue 78 = .ok (.ifCond .le 9, 3) := by decide +kernel
theorem dX5_addCue_81 : decode cX5_addCue 81 = .ok (.aload_n 0, 1) := by decide +kernel
theorem dX5_addCue_82 : decode cX5_addCue 82 = .ok (.bipush 59, 2) := by decide +kernel
theorem dX5_addCue_84 : decode cX5_addCue 84 = .ok (.invokevirtual 42, 3) := by decide +kernel
theorem dX5_addCue_87 : decode cX5_addCue 87 = .ok (.aload_n 0, 1) := by decide +kernel
theorem dX5_addCue_88 : decode cX5_addCue 88 = .ok (.iload_n 1, 1) := by decide +kernel
theorem dX5_addCue_89 : decode cX5_addCue 89 = .ok (.invokevirtual 42, 3) := by decide +kernel
theorem dX5_addCue_92 : decode cX5_addCue 92 = .ok (.iconst 0, 1) := by decide +kernel
theorem dX5_addCue_93 : decode cX5_addCue 93 = .ok (.istore 7, 2) := by decide +kernel
theorem dX5_addCue_95 : decode cX5_addCue 95 = .ok (.iload 7, 2) := by decide +kernel
theorem dX5_addCue_97 : decode cX5_addCue 97 = .ok (.iconst 2, 1) := by decide +kernel
theorem dX5_addCue_98 : decode cX5_addCue 98 = .ok (.if_icmp .gt 38, 3) := by decide +kernel
theorem dX5_addCue_101 : decode cX5_addCue 101 = .ok (.aload_n 0, 1) := by decide +kernel
theorem dX5_addCue_102 : decode cX5_addCue 102 = .ok (.aload_n 2, 1) := by decide +kernel
theorem dX5_addCue_103 : decode cX5_addCue 103 = .ok (.iload_n 3, 1) := by decide +kernel
theorem dX5_addCue_104 : decode cX5_addCue 104 = .ok (.iload 7, 2) := by decide +kernel
theorem dX5_addCue_106 : decode cX5_addCue 106 = .ok (.invokevirtual 36, 3) := by decide +kernel
theorem dX5_addCue_109 : decode cX5_addCue 109 = .ok (.invokevirtual 46, 3) := by decide +kernel
theorem dX5_addCue_112 : decode cX5_addCue 112 = .ok (.iload 7, 2) := by decide +kernel
theorem dX5_addCue_114 : decode cX5_addCue 114 = .ok (.iconst 2, 1) := by decide +kernel
theorem dX5_addCue_115 : decode cX5_addCue 115 = .ok (.if_icmp .ge 15, 3) := by decide +kernel
theorem dX5_addCue_118 : decode cX5_addCue 118 = .ok (.aload_n 0, 1) := by decide +kernel
theorem dX5_addCue_119 : decode cX5_addCue 119 = .ok (.getstatic 49, 3) := by decide +kernel
theorem dX5_addCue_122 : decode cX5_addCue 122 = .ok (.iload 7, 2) := by decide +kernel
theorem dX5_addCue_124 : decode cX5_addCue 124 = .ok (.invokestatic 19, 3) := by decide +kernel
theorem dX5_addCue_127 : decode cX5_addCue 127 = .ok (.invokevirtual 42, 3) := by decide +kernel
theorem dX5_addCue_130 : decode cX5_addCue 130 = .ok (.iinc 7 1, 3) := by decide +kernel
theorem dX5_addCue_133 : decode cX5_addCue 133 = .ok (.goto (-38), 3) := by decide +kernel
theorem dX5_addCue_136 : decode cX5_addCue 136 = .ok (.iconst 1, 1) := by decide +kernel
theorem dX5_addCue_137 : decode cX5_addCue 137 = .ok (.ireturn, 1) := by decide +kernel
set_option maxRecDepth 20000 in
theorem ggX5_addNumber_X5_add : GoodIn wsX5_addNumber wsX5_add := goodIn_r _ [5, 6, 7, 8, 9] (by decide +kernel) (by decide +kernel)
set_option maxRecDepth 20000 in
theorem gX5_addNumber_X5_add : GoodIn wsX5_addNumber (wsV RX5 42 RX5 yX5_add wsX5_add) := goodIn_app (goodIn_of _ (by decide +kernel)) ggX5_addNumber_X5_add
theorem dX5_addNumber_0 : decode cX5_addNumber 0 = .ok (.iload_n 1, 1) := by decide +kernel
theorem dX5_addNumber_1 : decode cX5_addNumber 1 = .ok (.bipush 10, 2) := by decide +kernel
theorem dX5_addNumber_3 : decode cX5_addNumber 3 = .ok (.if_icmp .lt 14, 3) := by decide +kernel
theorem dX5_addNumber_6 : decode cX5_addNumber 6 = .ok (.aload_n 0, 1) := by decide +kernel
theorem dX5_addNumber_7 : decode cX5_addNumber 7 = .ok (.bipush 48, 2) := by decide +kernel
theorem dX5_addNumber_9 : decode cX5_addNumber 9 = .ok (.iload_n 1, 1) := by decide +kernel
theorem dX5_addNumber_10 : decode cX5_addNumber 10 = .ok (.bipush 10, 2) := by decide +kernel
theorem dX5_addNumber_12 : decode cX5_addNumber 12 = .ok (.idiv, 1) := by decide +kernel
theorem dX5_addNumber_13 : decode cX5_addNumber 13 = .ok (.iadd, 1) := by decide +kernel
theorem dX5_addNumber_14 : decode cX5_addNumber 14 = .ok (.invokevirtual 42, 3) := by decide +kernel
theorem dX5_addNumber_17 : decode cX5_addNumber 17 = .ok (.aload_n 0, 1) := by decide +kernel
theorem dX5_addNumber_18 : decode cX5_addNumber 18 = .ok (.bipush 48, 2) := by decide +kernel
theorem dX5_addNumber_20 : decode cX5_addNumber 20 = .ok (.iload_n 1, 1) := by decide +kernel
theorem dX5_addNumber_21 : decode cX5_addNumber 21 = .ok (.bipush 10, 2) := by decide +kernel
theorem dX5_addNumber_23 : decode cX5_addNumber 23 = .ok (.irem, 1) := by decide +kernel
theorem dX5_addNumber_24 : decode cX5_addNumber 24 = .ok (.iadd, 1) := by decide +kernel
theorem dX5_addNumber_25 : decode cX5_addNumber 25 = .ok (.invokevirtual 42, 3) := by decide +kernel
theorem dX5_addNumber_28 : decode cX5_addNumber 28 = .ok (.return_, 1) := by decide +kernel
set_option maxRecDepth 20000 in
theorem ggX6_init_X3_init : GoodIn wsX6_init wsX3_init := goodIn_r _ [26, 27, 2, 3, 28, 29, 30, 31, 32, 33, 34, 35, 36, 37, 38, 39, 40, 41, 42, 43, 44, 45, 46, 47, 48, 49, 50, 51, 52, 53, 54, 55, 56, 57, 58, 59, 60, 101, 102, 103, 78, 79, 80, 81, 82, 83, 84, 85, 104, 105, 106] (by decide +kernel) (by decide +kernel)
set_option maxRecDepth 20000 in
theorem gX6_init_X3_init_n9 : GoodIn wsX6_init (wsX3_init) := ggX6_init_X3_init
set_option maxRecDepth 20000 in
theorem ggX6_init_X2_init : GoodIn wsX6_init wsX2_init := goodIn_r _ [62, 63, 2, 3, 64, 65, 66, 94, 95] (by decide +kernel) (by decide +kernel)
set_option maxRecDepth 20000 in
theorem gX6_init_X2_init_n31 : GoodIn wsX6_init (wsX2_init) := ggX6_init_X2_init
set_option maxRecDepth 20000 in
theorem ggX6_init_X5_init : GoodIn wsX6_init wsX5_init := goodIn_r _ [68, 69, 2, 3, 32, 70, 71, 96, 97] (by decide +kernel) (by decide +kernel)
set_option maxRecDepth 20000 in
theorem gX6_init_X5_init_n44 : GoodIn wsX6_init (wsX5_init) := ggX6_init_X5_init
set_option maxRecDepth 20000 in
theorem ggX6_init_X0_init : GoodIn wsX6_init wsX0_init := goodIn_r _ [73, 74, 2, 3, 32, 75, 76, 77, 98, 99, 100] (by decide +kernel) (by decide +kernel)
set_option maxRecDepth 20000 in
theorem gX6_init_X0_init_n51 : GoodIn wsX6_init (wsX0_init) := ggX6_init_X0_init
theorem dX6_init_0 : decode cX6_init 0 = .ok (.aload_n 0, 1) := by decide +kernel
theorem dX6_init_1 : decode cX6_init 1 = .ok (.invokespecial 1, 3) := by decide +kernel
theorem dX6_init_4 : decode cX6_init 4 = .ok (.aload_n 0, 1) := by decide +kernel
theorem dX6_init_5 : decode cX6_init 5 = .ok (.new 7, 3) := by decide +kernel
theorem dX6_init_8 : decode cX6_init 8 = .ok (.dup, 1) := by decide +kernel
theorem dX6_init_9 : decode cX6_init 9 = .ok (.invokespecial 9, 3) := by decide +kernel
theorem dX6_init_12 : decode cX6_init 12 = .ok (.putfield 10, 3) := by decide +kernel
theorem dX6_init_15 : decode cX6_init 15 = .ok (.aload_n 0, 1) := by decide +kernel
theorem dX6_init_16 : decode cX6_init 16 = .ok (.new 7, 3) := by decide +kernel
theorem dX6_init_19 : decode cX6_init 19 = .ok (.dup, 1) := by decide +kernel
theorem dX6_init_20 : decode cX6_init 20 = .ok (.invokespecial 9, 3) := by decide +kernel
theorem dX6_init_23 : decode cX6_init 23 = .ok (.putfield 16, 3) := by decide +kernel
theorem dX6_init_26 : decode cX6_init 26 = .ok (.aload_n 0, 1) := by decide +kernel
theorem dX6_init_27 : decode cX6_init 27 = .ok (.aload_n 0, 1) := by decide +kernel
theorem dX6_init_28 : decode cX6_init 28 = .ok (.getfield 10, 3) := by decide +kernel
theorem dX6_init_31 : decode cX6_init 31 = .ok (.getfield 19, 3) := by decide +kernel
theorem dX6_init_34 : decode cX6_init 34 = .ok (.putfield 23, 3) := by decide +kernel
theorem dX6_init_37 : decode cX6_init 37 = .ok (.aload_n 0, 1) := by decide +kernel
theorem dX6_init_38 : decode cX6_init 38 = .ok (.aload_n 0, 1) := by decide +kernel
theorem dX6_init_39 : decode cX6_init 39 = .ok (.getfield 16, 3) := by decide +kernel
theorem dX6_init_42 : decode cX6_init 42 = .ok (.getfield 19, 3) := by decide +kernel
theorem dX6_init_45 : decode cX6_init 45 = .ok (.putfield 26, 3) := by decide +kernel
theorem dX6_init_48 : decode cX6_init 48 = .ok (.aload_n 0, 1) := by decide +kernel
theorem dX6_init_49 : decode cX6_init 49 = .ok (.new 29, 3) := by decide +kernel
theorem dX6_init_52 : decode cX6_init 52 = .ok (.dup, 1) := by decide +kernel
theorem dX6_init_53 : decode cX6_init 53 = .ok (.invokespecial 31, 3) := by decide +kernel
theorem dX6_init_56 : decode cX6_init 56 = .ok (.putfield 32, 3) := by decide +kernel
theorem dX6_init_59 : decode cX6_init 59 = .ok (.aload_n 0, 1) := by decide +kernel
theorem dX6_init_60 : decode cX6_init 60 = .ok (.iconst 2, 1) := by decide +kernel
theorem dX6_init_61 : decode cX6_init 61 = .ok (.anewarray 36, 3) := by decide +kernel
theorem dX6_init_64 : decode cX6_init 64 = .ok (.putfield 38, 3) := by decide +kernel
theorem dX6_init_67 : decode cX6_init 67 = .ok (.aload_n 0, 1) := by decide +kernel
theorem dX6_init_68 : decode cX6_init 68 = .ok (.new 42, 3) := by decide +kernel
theorem dX6_init_71 : decode cX6_init 71 = .ok (.dup, 1) := by decide +kernel
theorem dX6_init_72 : decode cX6_init 72 = .ok (.invokespecial 44, 3) := by decide +kernel
theorem dX6_init_75 : decode cX6_init 75 = .ok (.putfield 45, 3) := by decide +kernel
theorem dX6_init_78 : decode cX6_init 78 = .ok (.aload_n 0, 1) := by decide +kernel
theorem dX6_init_79 : decode cX6_init 79 = .ok (.new 49, 3) := by decide +kernel
theorem dX6_init_82 : decode cX6_init 82 = .ok (.dup, 1) := by decide +kernel
theorem dX6_init_83 : decode cX6_init 83 = .ok (.invokespecial 51, 3) := by decide +kernel
theorem dX6_init_86 : decode cX6_init 86 = .ok (.putfield 52, 3) := by decide +kernel
theorem dX6_init_89 : decode cX6_init 89 = .ok (.return_, 1) := by decide +kernel
set_option maxRecDepth 20000 in
theorem ggX6_word_X6_checkCue : GoodIn wsX6_word wsX6_checkCue := goodIn_ca (goodIn_r _ [5, 6, 7, 8, 9, 4, 10, 11, 12, 13, 14, 15] (by decide +kernel) (by decide +kernel)) (goodIn_sub (fun _ h => List.mem_cons_of_mem _ (List.mem_append_left _ (List.mem_append_right _ h))) (by decide +kernel))
set_option maxRecDepth 20000 in
theorem gX6_word_X6_checkCue : GoodIn wsX6_word (va_wsS RX6 56 yX6_checkCue wsX6_checkCue) := goodIn_app (goodIn_of _ (by decide +kernel)) ggX6_word_X6_checkCue
set_option maxRecDepth 20000 in
theorem ggX6_word_X6_addCue : GoodIn wsX6_word wsX6_addCue := goodIn_ca (goodIn_r _ [19, 20, 21, 22, 1, 23, 24, 25, 26, 27, 28, 29, 30, 31, 32, 33, 34, 35, 36, 37, 38, 39, 40, 41, 42, 43, 44, 45, 46, 47, 48, 49, 50, 51, 52, 53, 54, 55, 56, 57, 58, 59, 60, 61, 62, 63, 64, 65, 66, 67, 68, 69, 4, 70, 71, 72, 73, 74, 75, 76, 77, 78, 79, 80, 81, 82, 83, 84, 85, 86, 87, 88, 89, 90, 94, 95, 96, 97, 98, 91, 92, 93] (by decide +kernel) (by decide +kernel)) (goodIn_sub (fun _ h => List.mem_cons_of_mem _ (List.mem_append_right _ h)) (by decide +kernel))
set_option maxRecDepth 20000 in
theorem gX6_word_X6_addCue : GoodIn wsX6_word (wsV RX6 64 RX6 yX6_addCue wsX6_addCue) := goodIn_app (goodIn_of _ (by decide +kernel)) ggX6_word_X6_addCue
theorem dX6_word_0 : decode cX6_word 0 = .ok (.iload_n 1, 1) := by decide +kernel
theorem dX6_word_1 : decode cX6_word 1 = .ok (.iload_n 2, 1) := by decide +kernel
theorem dX6_word_2 : decode cX6_word 2 = .ok (.iload_n 3, 1) := by decide +kernel
theorem dX6_word_3 : decode cX6_word 3 = .ok (.invokestatic 56, 3) := by decide +kernel
theorem dX6_word_6 : decode cX6_word 6 = .ok (.aload_n 0, 1) := by decide +kernel
theorem dX6_word_7 : decode cX6_word 7 = .ok (.aload_n 0, 1) := by decide +kernel
theorem dX6_word_8 : decode cX6_word 8 = .ok (.getfield 23, 3) := by decide +kernel
theorem dX6_word_11 : decode cX6_word 11 = .ok (.getfield 60, 3) := by decide +kernel
theorem dX6_word_14 : decode cX6_word 14 = .ok (.iload_n 1, 1) := by decide +kernel
theorem dX6_word_15 : decode cX6_word 15 = .ok (.iload_n 2, 1) := by decide +kernel
theorem dX6_word_16 : decode cX6_word 16 = .ok (.iload_n 3, 1) := by decide +kernel
theorem dX6_word_17 : decode cX6_word 17 = .ok (.iconst 0, 1) := by decide +kernel
theorem dX6_word_18 : decode cX6_word 18 = .ok (.invokevirtual 64, 3) := by decide +kernel
theorem dX6_word_21 : decode cX6_word 21 = .ok (.ireturn, 1) := by decide +kernel
set_option maxRecDepth 20000 in
theorem ggX6_noise_X6_checkCue : GoodIn wsX6_noise wsX6_checkCue := goodIn_ca (goodIn_r _ [5, 6, 7, 8, 9, 4, 10, 11, 12, 13, 14, 15] (by decide +kernel) (by decide +kernel)) (goodIn_sub (fun _ h => List.mem_cons_of_mem _ (List.mem_append_left _ (List.mem_append_right _ h))) (by decide +kernel))
set_option maxRecDepth 20000 in
theorem gX6_noise_X6_checkCue : GoodIn wsX6_noise (va_wsS RX6 56 yX6_checkCue wsX6_checkCue) := goodIn_app (goodIn_of _ (by decide +kernel)) ggX6_noise_X6_checkCue
set_option maxRecDepth 20000 in
theorem ggX6_noise_X6_addCue : GoodIn wsX6_noise wsX6_addCue := goodIn_ca (goodIn_r _ [19, 20, 21, 22, 1, 23, 24, 25, 26, 27, 28, 29, 30, 31, 32, 33, 34, 35, 36, 37, 38, 39, 40, 41, 42, 43, 44, 45, 46, 47, 48, 49, 50, 51, 52, 53, 54, 55, 56, 57, 58, 59, 60, 61, 62, 63, 64, 65, 66, 67, 68, 69, 4, 70, 71, 72, 73, 74, 75, 76, 77, 78, 79, 80, 81, 82, 83, 84, 85, 86, 87, 88, 89, 90, 94, 95, 96, 97, 98, 91, 92, 93] (by decide +kernel) (by decide +kernel)) (goodIn_sub (fun _ h => List.mem_cons_of_mem _ (List.mem_append_right _ h)) (by decide +kernel))
set_option maxRecDepth 20000 in
theorem gX6_noise_X6_addCue : GoodIn wsX6_noise (wsV RX6 64 RX6 yX6_addCue wsX6_addCue) := goodIn_app (goodIn_of _ (by decide +kernel)) ggX6_noise_X6_addCue
theorem dX6_noise_0 : decode cX6_noise 0 = .ok (.iload_n 1, 1) := by decide +kernel
theorem dX6_noise_1 : decode cX6_noise 1 = .ok (.iload_n 2, 1) := by decide +kernel
theorem dX6_noise_2 : decode cX6_noise 2 = .ok (.iload_n 3, 1) := by decide +kernel
theorem dX6_noise_3 : decode cX6_noise 3 = .ok (.invokestatic 56, 3) := by decide +kernel
theorem dX6_noise_6 : decode cX6_noise 6 = .ok (.aload_n 0, 1) := by decide +kernel
theorem dX6_noise_7 : decode cX6_noise 7 = .ok (.aload_n 0, 1) := by decide +kernel
theorem dX6_noise_8 : decode cX6_noise 8 = .ok (.getfield 23, 3) := by decide +kernel
theorem dX6_noise_11 : decode cX6_noise 11 = .ok (.getfield 68, 3) := by decide +kernel
theorem dX6_noise_14 : decode cX6_noise 14 = .ok (.iload_n 1, 1) := by decide +kernel
theorem dX6_noise_15 : decode cX6_noise 15 = .ok (.iload_n 2, 1) := by decide +kernel
theorem dX6_noise_16 : decode cX6_noise 16 = .ok (.iload_n 3, 1) := by decide +kernel
theorem dX6_noise_17 : decode cX6_noise 17 = .ok (.iload 4, 2) := by decide +kernel
theorem dX6_noise_19 : decode cX6_noise 19 = .ok (.ifCond .eq 7, 3) := by decide +kernel
theorem dX6_noise_22 : decode cX6_noise 22 = .ok (.iconst 1, 1) := by decide +kernel
theorem dX6_noise_23 : decode cX6_noise 23 = .ok (.goto 4, 3) := by decide +kernel
theorem dX6_noise_26 : decode cX6_noise 26 = .ok (.iconst 0, 1) := by decide +kernel
theorem dX6_noise_27 : decode cX6_noise 27 = .ok (.invokevirtual 64, 3) := by decide +kernel
theorem dX6_noise_30 : decode cX6_noise 30 = .ok (.ireturn, 1) := by decide +kernel
set_option maxRecDepth 20000 in
theorem ggX6_remove_X4_cuesOf : GoodIn wsX6_remove wsX4_cuesOf := goodIn_r _ [6, 7, 8, 79, 80, 81] (by decide +kernel) (by decide +kernel)
set_option maxRecDepth 20000 in
theorem gX6_remove_X4_cuesOf_n71 : GoodIn wsX6_remove (wsX4_cuesOf) := ggX6_remove_X4_cuesOf
set_option maxRecDepth 20000 in
theorem ggX6_remove_X6_checkNumber : GoodIn wsX6_remove wsX6_checkNumber := goodIn_ca (goodIn_r _ [12, 13, 14, 15, 16, 17, 18, 19, 82, 83, 84] (by decide +kernel) (by decide +kernel)) (goodIn_sub (fun _ h => List.mem_cons_of_mem _ (List.mem_append_right _ h)) (by decide +kernel))
set_option maxRecDepth 20000 in
theorem gX6_remove_X6_checkNumber : GoodIn wsX6_remove (va_wsS RX6 75 yX6_checkNumber wsX6_checkNumber) := goodIn_app (goodIn_of _ (by decide +kernel)) ggX6_remove_X6_checkNumber
set_option maxRecDepth 20000 in
theorem ggX6_remove_X2_push : GoodIn wsX6_remove wsX2_push := goodIn_r _ [23, 24, 25, 26, 27, 4, 28, 29, 30, 21, 31, 32, 33, 34, 35, 36, 37, 38, 16, 7, 8, 39, 40, 41, 42, 43, 44, 45, 46, 47, 48, 49, 50, 19, 51, 52, 53, 54, 55, 56, 57, 58, 11, 59, 85, 86, 79, 80, 81, 82, 83, 84] (by decide +kernel) (by decide +kernel)
set_option maxRecDepth 20000 in
theorem gX6_remove_X2_push_n79 : GoodIn wsX6_remove (wsX2_push) := ggX6_remove_X2_push
set_option maxRecDepth 20000 in
theorem ggX6_remove_X1_drop : GoodIn wsX6_remove wsX1_drop := goodIn_r _ [62, 50, 19, 63, 15, 17, 16, 18, 64, 11, 65, 66, 67, 82, 83, 84] (by decide +kernel) (by decide +kernel)
set_option maxRecDepth 20000 in
theorem gX6_remove_X1_drop_n83 : GoodIn wsX6_remove (wsX1_drop) := ggX6_remove_X1_drop
set_option maxRecDepth 20000 in
theorem ggX6_remove_X1_size : GoodIn wsX6_remove wsX1_size := goodIn_r _ [70, 19, 82, 83, 84] (by decide +kernel) (by decide +kernel)
set_option maxRecDepth 20000 in
theorem gX6_remove_X1_size_n89 : GoodIn wsX6_remove (wsX1_size) := ggX6_remove_X1_size
theorem dX6_remove_0 : decode cX6_remove 0 = .ok (.aload_n 0, 1) := by decide +kernel
theorem dX6_remove_1 : decode cX6_remove 1 = .ok (.getfield 23, 3) := by decide +kernel
theorem dX6_remove_4 : decode cX6_remove 4 = .ok (.iload_n 1, 1) := by decide +kernel
theorem dX6_remove_5 : decode cX6_remove 5 = .ok (.invokevirtual 71, 3) := by decide +kernel
theorem dX6_remove_8 : decode cX6_remove 8 = .ok (.astore_n 3, 1) := by decide +kernel
theorem dX6_remove_9 : decode cX6_remove 9 = .ok (.aload_n 3, 1) := by decide +kernel
theorem dX6_remove_10 : decode cX6_remove 10 = .ok (.iload_n 2, 1) := by decide +kernel
theorem dX6_remove_11 : decode cX6_remove 11 = .ok (.invokestatic 75, 3) := by decide +kernel
