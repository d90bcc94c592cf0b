theorem dX0_init_0 : decode cX0_init 0 = .ok (.aload_n 0, 1) := by decide +kernel
theorem dX0_init_1 : decode cX0_init 1 = .ok (.invokespecial 3, 3) := by decide +kernel
theorem dX0_init_4 : decode cX0_init 4 = .ok (.aload_n 0, 1) := by decide +kernel
theorem dX0_init_5 : decode cX0_init 5 = .ok (.iconst 3, 1) := by decide +kernel
theorem dX0_init_6 : decode cX0_init 6 = .ok (.newarray .int, 2) := by decide +kernel
theorem dX0_init_8 : decode cX0_init 8 = .ok (.putfield 11, 3) := by decide +kernel
theorem dX0_init_11 : decode cX0_init 11 = .ok (.aload_n 0, 1) := by decide +kernel
theorem dX0_init_12 : decode cX0_init 12 = .ok (.iconst 3, 1) := by decide +kernel
theorem dX0_init_13 : decode cX0_init 13 = .ok (.putfield 15, 3) := by decide +kernel
theorem dX0_init_16 : decode cX0_init 16 = .ok (.aload_n 0, 1) := by decide +kernel
theorem dX0_init_17 : decode cX0_init 17 = .ok (.iconst (-1), 1) := by decide +kernel
theorem dX0_init_18 : decode cX0_init 18 = .ok (.putfield 19, 3) := by decide +kernel
theorem dX0_init_21 : decode cX0_init 21 = .ok (.return_, 1) := by decide +kernel
theorem dX0_restart_0 : decode cX0_restart 0 = .ok (.aload_n 0, 1) := by decide +kernel
theorem dX0_restart_1 : decode cX0_restart 1 = .ok (.iconst 3, 1) := by decide +kernel
theorem dX0_restart_2 : decode cX0_restart 2 = .ok (.putfield 15, 3) := by decide +kernel
theorem dX0_restart_5 : decode cX0_restart 5 = .ok (.return_, 1) := by decide +kernel
theorem dX0_kind_0 : decode cX0_kind 0 = .ok (.aload_n 0, 1) := by decide +kernel
theorem dX0_kind_1 : decode cX0_kind 1 = .ok (.getfield 19, 3) := by decide +kernel
theorem dX0_kind_4 : decode cX0_kind 4 = .ok (.ireturn, 1) := by decide +kernel
set_option maxRecDepth 20000 in
theorem ggX0_numberOf_X6_entry : GoodIn wsX0_numberOf wsX6_entry := goodIn_r _ [4] (by decide +kernel) (by decide +kernel)
set_option maxRecDepth 20000 in
theorem gX0_numberOf_X6_entry_n22 : GoodIn wsX0_numberOf (wsX6_entry) := ggX0_numberOf_X6_entry
theorem dX0_numberOf_0 : decode cX0_numberOf 0 = .ok (.aload_n 0, 1) := by decide +kernel
theorem dX0_numberOf_1 : decode cX0_numberOf 1 = .ok (.getfield 11, 3) := by decide +kernel
theorem dX0_numberOf_4 : decode cX0_numberOf 4 = .ok (.iload_n 1, 1) := by decide +kernel
theorem dX0_numberOf_5 : decode cX0_numberOf 5 = .ok (.invokestatic 22, 3) := by decide +kernel
theorem dX0_numberOf_8 : decode cX0_numberOf 8 = .ok (.ireturn, 1) := by decide +kernel
set_option maxRecDepth 20000 in
theorem ggX0_isComplete_X0_numberOf : GoodIn wsX0_isComplete wsX0_numberOf := goodIn_r _ [6, 7, 8, 9, 10, 11, 12, 13] (by decide +kernel) (by decide +kernel)
set_option maxRecDepth 20000 in
theorem gX0_isComplete_X0_numberOf : GoodIn wsX0_isComplete (wsV RX0 26 RX0 yX0_numberOf wsX0_numberOf) := goodIn_app (goodIn_of _ (by decide +kernel)) ggX0_isComplete_X0_numberOf
theorem dX0_isComplete_0 : decode cX0_isComplete 0 = .ok (.aload_n 0, 1) := by decide +kernel
theorem dX0_isComplete_1 : decode cX0_isComplete 1 = .ok (.getfield 15, 3) := by decide +kernel
theorem dX0_isComplete_4 : decode cX0_isComplete 4 = .ok (.iconst 2, 1) := by decide +kernel
theorem dX0_isComplete_5 : decode cX0_isComplete 5 = .ok (.if_icmp .ne 16, 3) := by decide +kernel
theorem dX0_isComplete_8 : decode cX0_isComplete 8 = .ok (.aload_n 0, 1) := by decide +kernel
theorem dX0_isComplete_9 : decode cX0_isComplete 9 = .ok (.iconst 2, 1) := by decide +kernel
theorem dX0_isComplete_10 : decode cX0_isComplete 10 = .ok (.invokevirtual 26, 3) := by decide +kernel
theorem dX0_isComplete_13 : decode cX0_isComplete 13 = .ok (.iconst (-1), 1) := by decide +kernel
theorem dX0_isComplete_14 : decode cX0_isComplete 14 = .ok (.if_icmp .eq 7, 3) := by decide +kernel
theorem dX0_isComplete_17 : decode cX0_isComplete 17 = .ok (.iconst 1, 1) := by decide +kernel
theorem dX0_isComplete_18 : decode cX0_isComplete 18 = .ok (.goto 4, 3) := by decide +kernel
theorem dX0_isComplete_21 : decode cX0_isComplete 21 = .ok (.iconst 0, 1) := by decide +kernel
theorem dX0_isComplete_22 : decode cX0_isComplete 22 = .ok (.ireturn, 1) := by decide +kernel
set_option maxRecDepth 20000 in
theorem ggX0_take_X0_takeKind : GoodIn wsX0_take wsX0_takeKind := goodIn_r _ [6, 7, 8, 9, 10, 5, 11, 1, 12, 13, 14, 15, 35, 36, 37] (by decide +kernel) (by decide +kernel)
set_option maxRecDepth 20000 in
theorem gX0_take_X0_takeKind : GoodIn wsX0_take (wsV RX0 30 RX0 yX0_takeKind wsX0_takeKind) := goodIn_app (goodIn_of _ (by decide +kernel)) ggX0_take_X0_takeKind
set_option maxRecDepth 20000 in
theorem ggX0_take_X0_takeDigit : GoodIn wsX0_take wsX0_takeDigit := goodIn_r _ [19, 1, 12, 20, 21, 22, 5, 23, 24, 14, 25, 26, 27, 28, 29, 30, 13, 15, 35, 36, 37] (by decide +kernel) (by decide +kernel)
set_option maxRecDepth 20000 in
theorem gX0_take_X0_takeDigit : GoodIn wsX0_take (wsV RX0 34 RX0 yX0_takeDigit wsX0_takeDigit) := goodIn_app (goodIn_of _ (by decide +kernel)) ggX0_take_X0_takeDigit
set_option maxRecDepth 20000 in
theorem ggX0_take_X0_takeSign : GoodIn wsX0_take wsX0_takeSign := goodIn_r _ [34, 1, 20, 21, 22, 5, 23, 12, 24, 14, 25, 8, 9, 10, 11, 13, 15, 35, 36, 37] (by decide +kernel) (by decide +kernel)
set_option maxRecDepth 20000 in
theorem gX0_take_X0_takeSign : GoodIn wsX0_take (wsV RX0 37 RX0 yX0_takeSign wsX0_takeSign) := goodIn_app (goodIn_of _ (by decide +kernel)) ggX0_take_X0_takeSign
theorem dX0_take_0 : decode cX0_take 0 = .ok (.aload_n 0, 1) := by decide +kernel
theorem dX0_take_1 : decode cX0_take 1 = .ok (.getfield 15, 3) := by decide +kernel
theorem dX0_take_4 : decode cX0_take 4 = .ok (.iconst 3, 1) := by decide +kernel
theorem dX0_take_5 : decode cX0_take 5 = .ok (.if_icmp .ne 9, 3) := by decide +kernel
theorem dX0_take_8 : decode cX0_take 8 = .ok (.aload_n 0, 1) := by decide +kernel
theorem dX0_take_9 : decode cX0_take 9 = .ok (.iload_n 1, 1) := by decide +kernel
theorem dX0_take_10 : decode cX0_take 10 = .ok (.invokevirtual 30, 3) := by decide +kernel
theorem dX0_take_13 : decode cX0_take 13 = .ok (.ireturn, 1) := by decide +kernel
theorem dX0_take_14 : decode cX0_take 14 = .ok (.iload_n 1, 1) := by decide +kernel
theorem dX0_take_15 : decode cX0_take 15 = .ok (.bipush 48, 2) := by decide +kernel
theorem dX0_take_17 : decode cX0_take 17 = .ok (.if_icmp .lt 18, 3) := by decide +kernel
theorem dX0_take_20 : decode cX0_take 20 = .ok (.iload_n 1, 1) := by decide +kernel
theorem dX0_take_21 : decode cX0_take 21 = .ok (.bipush 57, 2) := by decide +kernel
theorem dX0_take_23 : decode cX0_take 23 = .ok (.if_icmp .gt 12, 3) := by decide +kernel
theorem dX0_take_26 : decode cX0_take 26 = .ok (.aload_n 0, 1) := by decide +kernel
theorem dX0_take_27 : decode cX0_take 27 = .ok (.iload_n 1, 1) := by decide +kernel
theorem dX0_take_28 : decode cX0_take 28 = .ok (.bipush 48, 2) := by decide +kernel
theorem dX0_take_30 : decode cX0_take 30 = .ok (.isub, 1) := by decide +kernel
theorem dX0_take_31 : decode cX0_take 31 = .ok (.invokevirtual 34, 3) := by decide +kernel
theorem dX0_take_34 : decode cX0_take 34 = .ok (.ireturn, 1) := by decide +kernel
theorem dX0_take_35 : decode cX0_take 35 = .ok (.aload_n 0, 1) := by decide +kernel
theorem dX0_take_36 : decode cX0_take 36 = .ok (.iload_n 1, 1) := by decide +kernel
theorem dX0_take_37 : decode cX0_take 37 = .ok (.invokevirtual 37, 3) := by decide +kernel
theorem dX0_take_40 : decode cX0_take 40 = .ok (.ireturn, 1) := by decide +kernel
set_option maxRecDepth 20000 in
theorem ggX0_takeKind_X0_beginPart : GoodIn wsX0_takeKind wsX0_beginPart := goodIn_r _ [6, 7, 8, 9, 10, 11, 12, 13, 14] (by decide +kernel) (by decide +kernel)
set_option maxRecDepth 20000 in
theorem gX0_takeKind_X0_beginPart : GoodIn wsX0_takeKind (wsV RX0 40 RX0 yX0_beginPart wsX0_beginPart) := goodIn_app (goodIn_of _ (by decide +kernel)) ggX0_takeKind_X0_beginPart
theorem dX0_takeKind_0 : decode cX0_takeKind 0 = .ok (.iload_n 1, 1) := by decide +kernel
theorem dX0_takeKind_1 : decode cX0_takeKind 1 = .ok (.bipush 119, 2) := by decide +kernel
theorem dX0_takeKind_3 : decode cX0_takeKind 3 = .ok (.if_icmp .eq 17, 3) := by decide +kernel
theorem dX0_takeKind_6 : decode cX0_takeKind 6 = .ok (.iload_n 1, 1) := by decide +kernel
theorem dX0_takeKind_7 : decode cX0_takeKind 7 = .ok (.bipush 110, 2) := by decide +kernel
theorem dX0_takeKind_9 : decode cX0_takeKind 9 = .ok (.if_icmp .eq 11, 3) := by decide +kernel
theorem dX0_takeKind_12 : decode cX0_takeKind 12 = .ok (.iload_n 1, 1) := by decide +kernel
theorem dX0_takeKind_13 : decode cX0_takeKind 13 = .ok (.bipush 78, 2) := by decide +kernel
theorem dX0_takeKind_15 : decode cX0_takeKind 15 = .ok (.if_icmp .eq 5, 3) := by decide +kernel
theorem dX0_takeKind_18 : decode cX0_takeKind 18 = .ok (.iconst 0, 1) := by decide +kernel
theorem dX0_takeKind_19 : decode cX0_takeKind 19 = .ok (.ireturn, 1) := by decide +kernel
theorem dX0_takeKind_20 : decode cX0_takeKind 20 = .ok (.aload_n 0, 1) := by decide +kernel
theorem dX0_takeKind_21 : decode cX0_takeKind 21 = .ok (.iload_n 1, 1) := by decide +kernel
theorem dX0_takeKind_22 : decode cX0_takeKind 22 = .ok (.putfield 19, 3) := by decide +kernel
theorem dX0_takeKind_25 : decode cX0_takeKind 25 = .ok (.aload_n 0, 1) := by decide +kernel
theorem dX0_takeKind_26 : decode cX0_takeKind 26 = .ok (.iconst 0, 1) := by decide +kernel
theorem dX0_takeKind_27 : decode cX0_takeKind 27 = .ok (.invokevirtual 40, 3) := by decide +kernel
theorem dX0_takeKind_30 : decode cX0_takeKind 30 = .ok (.iconst 1, 1) := by decide +kernel
theorem dX0_takeKind_31 : decode cX0_takeKind 31 = .ok (.ireturn, 1) := by decide +kernel
set_option maxRecDepth 20000 in
theorem ggX0_beginPart_X6_put : GoodIn wsX0_beginPart wsX6_put := goodIn_r _ [5] (by decide +kernel) (by decide +kernel)
set_option maxRecDepth 20000 in
theorem gX0_beginPart_X6_put_n44 : GoodIn wsX0_beginPart (wsX6_put) := ggX0_beginPart_X6_put
theorem dX0_beginPart_0 : decode cX0_beginPart 0 = .ok (.aload_n 0, 1) := by decide +kernel
theorem dX0_beginPart_1 : decode cX0_beginPart 1 = .ok (.iload_n 1, 1) := by decide +kernel
theorem dX0_beginPart_2 : decode cX0_beginPart 2 = .ok (.putfield 15, 3) := by decide +kernel
theorem dX0_beginPart_5 : decode cX0_beginPart 5 = .ok (.aload_n 0, 1) := by decide +kernel
theorem dX0_beginPart_6 : decode cX0_beginPart 6 = .ok (.getfield 11, 3) := by decide +kernel
theorem dX0_beginPart_9 : decode cX0_beginPart 9 = .ok (.iload_n 1, 1) := by decide +kernel
theorem dX0_beginPart_10 : decode cX0_beginPart 10 = .ok (.iconst (-1), 1) := by decide +kernel
theorem dX0_beginPart_11 : decode cX0_beginPart 11 = .ok (.invokestatic 44, 3) := by decide +kernel
theorem dX0_beginPart_14 : decode cX0_beginPart 14 = .ok (.return_, 1) := by decide +kernel
set_option maxRecDepth 20000 in
theorem ggX0_takeDigit_X0_numberOf : GoodIn wsX0_takeDigit wsX0_numberOf := goodIn_r _ [7, 2, 8, 9, 10, 18, 19, 20] (by decide +kernel) (by decide +kernel)
set_option maxRecDepth 20000 in
theorem gX0_takeDigit_X0_numberOf : GoodIn wsX0_takeDigit (wsV RX0 26 RX0 yX0_numberOf wsX0_numberOf) := goodIn_app (goodIn_of _ (by decide +kernel)) ggX0_takeDigit_X0_numberOf
set_option maxRecDepth 20000 in
theorem ggX0_takeDigit_X6_fitsCue : GoodIn wsX0_takeDigit wsX6_fitsCue := goodIn_r _ [12, 13, 14, 15, 8, 9, 10] (by decide +kernel) (by decide +kernel)
set_option maxRecDepth 20000 in
theorem gX0_takeDigit_X6_fitsCue_n48 : GoodIn wsX0_takeDigit (wsX6_fitsCue) := ggX0_takeDigit_X6_fitsCue
set_option maxRecDepth 20000 in
theorem ggX0_takeDigit_X6_put : GoodIn wsX0_takeDigit wsX6_put := goodIn_r _ [17] (by decide +kernel) (by decide +kernel)
set_option maxRecDepth 20000 in
theorem gX0_takeDigit_X6_put_n44 : GoodIn wsX0_takeDigit (wsX6_put) := ggX0_takeDigit_X6_put
theorem dX0_takeDigit_0 : decode cX0_takeDigit 0 = .ok (.aload_n 0, 1) := by decide +kernel
theorem dX0_takeDigit_1 : decode cX0_takeDigit 1 = .ok (.aload_n 0, 1) := by decide +kernel
theorem dX0_takeDigit_2 : decode cX0_takeDigit 2 = .ok (.getfield 15, 3) := by decide +kernel
theorem dX0_takeDigit_5 : decode cX0_takeDigit 5 = .ok (.invokevirtual 26, 3) := by decide +kernel
theorem dX0_takeDigit_8 : decode cX0_takeDigit 8 = .ok (.istore_n 2, 1) := by decide +kernel
theorem dX0_takeDigit_9 : decode cX0_takeDigit 9 = .ok (.iload_n 2, 1) := by decide +kernel
theorem dX0_takeDigit_10 : decode cX0_takeDigit 10 = .ok (.iconst (-1), 1) := by decide +kernel
theorem dX0_takeDigit_11 : decode cX0_takeDigit 11 = .ok (.if_icmp .ne 7, 3) := by decide +kernel
theorem dX0_takeDigit_14 : decode cX0_takeDigit 14 = .ok (.iload_n 1, 1) := by decide +kernel
theorem dX0_takeDigit_15 : decode cX0_takeDigit 15 = .ok (.goto 9, 3) := by decide +kernel
theorem dX0_takeDigit_18 : decode cX0_takeDigit 18 = .ok (.iload_n 2, 1) := by decide +kernel
theorem dX0_takeDigit_19 : decode cX0_takeDigit 19 = .ok (.bipush 10, 2) := by decide +kernel
theorem dX0_takeDigit_21 : decode cX0_takeDigit 21 = .ok (.imul, 1) := by decide +kernel
theorem dX0_takeDigit_22 : decode cX0_takeDigit 22 = .ok (.iload_n 1, 1) := by decide +kernel
theorem dX0_takeDigit_23 : decode cX0_takeDigit 23 = .ok (.iadd, 1) := by decide +kernel
theorem dX0_takeDigit_24 : decode cX0_takeDigit 24 = .ok (.istore_n 3, 1) := by decide +kernel
theorem dX0_takeDigit_25 : decode cX0_takeDigit 25 = .ok (.iload_n 2, 1) := by decide +kernel
theorem dX0_takeDigit_26 : decode cX0_takeDigit 26 = .ok (.ifCond .eq 14, 3) := by decide +kernel
theorem dX0_takeDigit_29 : decode cX0_takeDigit 29 = .ok (.aload_n 0, 1) := by decide +kernel
theorem dX0_takeDigit_30 : decode cX0_takeDigit 30 = .ok (.getfield 15, 3) := by decide +kernel
theorem dX0_takeDigit_33 : decode cX0_takeDigit 33 = .ok (.iload_n 3, 1) := by decide +kernel
theorem dX0_takeDigit_34 : decode cX0_takeDigit 34 = .ok (.invokestatic 48, 3) := by decide +kernel
theorem dX0_takeDigit_37 : decode cX0_takeDigit 37 = .ok (.ifCond .ne 5, 3) := by decide +kernel
theorem dX0_takeDigit_40 : decode cX0_takeDigit 40 = .ok (.iconst 0, 1) := by decide +kernel
theorem dX0_takeDigit_41 : decode cX0_takeDigit 41 = .ok (.ireturn, 1) := by decide +kernel
theorem dX0_takeDigit_42 : decode cX0_takeDigit 42 = .ok (.aload_n 0, 1) := by decide +kernel
theorem dX0_takeDigit_43 : decode cX0_takeDigit 43 = .ok (.getfield 11, 3) := by decide +kernel
theorem dX0_takeDigit_46 : decode cX0_takeDigit 46 = .ok (.aload_n 0, 1) := by decide +kernel
theorem dX0_takeDigit_47 : decode cX0_takeDigit 47 = .ok (.getfield 15, 3) := by decide +kernel
theorem dX0_takeDigit_50 : decode cX0_takeDigit 50 = .ok (.iload_n 3, 1) := by decide +kernel
theorem dX0_takeDigit_51 : decode cX0_takeDigit 51 = .ok (.invokestatic 44, 3) := by decide +kernel
theorem dX0_takeDigit_54 : decode cX0_takeDigit 54 = .ok (.iconst 1, 1) := by decide +kernel
theorem dX0_takeDigit_55 : decode cX0_takeDigit 55 = .ok (.ireturn, 1) := by decide +kernel
set_option maxRecDepth 20000 in
theorem ggX0_takeSign_X0_numberOf : GoodIn wsX0_takeSign wsX0_numberOf := goodIn_r _ [6, 7, 8, 9, 10, 17, 18, 19] (by decide +kernel) (by decide +kernel)
set_option maxRecDepth 20000 in
theorem gX0_takeSign_X0_numberOf : GoodIn wsX0_takeSign (wsV RX0 26 RX0 yX0_numberOf wsX0_numberOf) := goodIn_app (goodIn_of _ (by decide +kernel)) ggX0_takeSign_X0_numberOf
set_option maxRecDepth 20000 in
theorem ggX0_takeSign_X6_entry : GoodIn wsX0_takeSign wsX6_entry := goodIn_r _ [10] (by decide +kernel) (by decide +kernel)
set_option maxRecDepth 20000 in
theorem gX0_takeSign_X6_entry_n22 : GoodIn wsX0_takeSign (wsX6_entry) := ggX0_takeSign_X6_entry
set_option maxRecDepth 20000 in
theorem ggX0_takeSign_X0_beginPart : GoodIn wsX0_takeSign wsX0_beginPart := goodIn_r _ [14, 1, 7, 15, 9, 16, 17, 18, 19] (by decide +kernel) (by decide +kernel)
set_option maxRecDepth 20000 in
theorem gX0_takeSign_X0_beginPart : GoodIn wsX0_takeSign (wsV RX0 40 RX0 yX0_beginPart wsX0_beginPart) := goodIn_app (goodIn_of _ (by decide +kernel)) ggX0_takeSign_X0_beginPart
theorem dX0_takeSign_0 : decode cX0_takeSign 0 = .ok (.aload_n 0, 1) := by decide +kernel
theorem dX0_takeSign_1 : decode cX0_takeSign 1 = .ok (.aload_n 0, 1) := by decide +kernel
theorem dX0_takeSign_2 : decode cX0_takeSign 2 = .ok (.getfield 15, 3) := by decide +kernel
theorem dX0_takeSign_5 : decode cX0_takeSign 5 = .ok (.invokevirtual 26, 3) := by decide +kernel
theorem dX0_takeSign_8 : decode cX0_takeSign 8 = .ok (.iconst (-1), 1) := by decide +kernel
theorem dX0_takeSign_9 : decode cX0_takeSign 9 = .ok (.if_icmp .eq 17, 3) := by decide +kernel
theorem dX0_takeSign_12 : decode cX0_takeSign 12 = .ok (.iload_n 1, 1) := by decide +kernel
theorem dX0_takeSign_13 : decode cX0_takeSign 13 = .ok (.getstatic 52, 3) := by decide +kernel
theorem dX0_takeSign_16 : decode cX0_takeSign 16 = .ok (.aload_n 0, 1) := by decide +kernel
theorem dX0_takeSign_17 : decode cX0_takeSign 17 = .ok (.getfield 15, 3) := by decide +kernel
theorem dX0_takeSign_20 : decode cX0_takeSign 20 = .ok (.invokestatic 22, 3) := by decide +kernel
theorem dX0_takeSign_23 : decode cX0_takeSign 23 = .ok (.if_icmp .eq 5, 3) := by decide +kernel
theorem dX0_takeSign_26 : decode cX0_takeSign 26 = .ok (.iconst 0, 1) := by decide +kernel
theorem dX0_takeSign_27 : decode cX0_takeSign 27 = .ok (.ireturn, 1) := by decide +kernel
theorem dX0_takeSign_28 : decode cX0_takeSign 28 = .ok (.aload_n 0, 1) := by decide +kernel
theorem dX0_takeSign_29 : decode cX0_takeSign 29 = .ok (.aload_n 0, 1) := by decide +kernel
theorem dX0_takeSign_30 : decode cX0_takeSign 30 = .ok (.getfield 15, 3) := by decide +kernel
theorem dX0_takeSign_33 : decode cX0_takeSign 33 = .ok (.iconst 1, 1) := by decide +kernel
theorem dX0_takeSign_34 : decode cX0_takeSign 34 = .ok (.iadd, 1) := by decide +kernel
theorem dX0_takeSign_35 : decode cX0_takeSign 35 = .ok (.invokevirtual 40, 3) := by decide +kernel
theorem dX0_takeSign_38 : decode cX0_takeSign 38 = .ok (.iconst 1, 1) := by decide +kernel
theorem dX0_takeSign_39 : decode cX0_takeSign 39 = .ok (.ireturn, 1) := by decide +kernel
theorem dX1_init_0 : decode cX1_init 0 = .ok (.aload_n 0, 1) := by decide +kernel
theorem dX1_init_1 : decode cX1_init 1 = .ok (.invokespecial 3, 3) := by decide +kernel
theorem dX1_init_4 : decode cX1_init 4 = .ok (.aload_n 0, 1) := by decide +kernel
theorem dX1_init_5 : decode cX1_init 5 = .ok (.bipush 48, 2) := by decide +kernel
theorem dX1_init_7 : decode cX1_init 7 = .ok (.newarray .int, 2) := by decide +kernel
theorem dX1_init_9 : decode cX1_init 9 = .ok (.putfield 9, 3) := by decide +kernel
theorem dX1_init_12 : decode cX1_init 12 = .ok (.aload_n 0, 1) := by decide +kernel
theorem dX1_init_13 : decode cX1_init 13 = .ok (.iconst 0, 1) := by decide +kernel
theorem dX1_init_14 : decode cX1_init 14 = .ok (.putfield 15, 3) := by decide +kernel
theorem dX1_init_17 : decode cX1_init 17 = .ok (.aload_n 0, 1) := by decide +kernel
theorem dX1_init_18 : decode cX1_init 18 = .ok (.iload_n 1, 1) := by decide +kernel
theorem dX1_init_19 : decode cX1_init 19 = .ok (.putfield 19, 3) := by decide +kernel
theorem dX1_init_22 : decode cX1_init 22 = .ok (.return_, 1) := by decide +kernel
theorem dX1_size_0 : decode cX1_size 0 = .ok (.aload_n 0, 1) := by decide +kernel
theorem dX1_size_1 : decode cX1_size 1 = .ok (.getfield 15, 3) := by decide +kernel
theorem dX1_size_4 : decode cX1_size 4 = .ok (.ireturn, 1) := by decide +kernel
theorem dX1_isFull_0 : decode cX1_isFull 0 = .ok (.aload_n 0, 1) := by decide +kernel
theorem dX1_isFull_1 : decode cX1_isFull 1 = .ok (.getfield 15, 3) := by decide +kernel
theorem dX1_isFull_4 : decode cX1_isFull 4 = .ok (.aload_n 0, 1) := by decide +kernel
theorem dX1_isFull_5 : decode cX1_isFull 5 = .ok (.getfield 19, 3) := by decide +kernel
theorem dX1_isFull_8 : decode cX1_isFull 8 = .ok (.if_icmp .lt 7, 3) := by decide +kernel
theorem dX1_isFull_11 : decode cX1_isFull 11 = .ok (.iconst 1, 1) := by decide +kernel
theorem dX1_isFull_12 : decode cX1_isFull 12 = .ok (.goto 4, 3) := by decide +kernel
theorem dX1_isFull_15 : decode cX1_isFull 15 = .ok (.iconst 0, 1) := by decide +kernel
theorem dX1_isFull_16 : decode cX1_isFull 16 = .ok (.ireturn, 1) := by decide +kernel
theorem dX1_has_0 : decode cX1_has 0 = .ok (.iload_n 1, 1) := by decide +kernel
theorem dX1_has_1 : decode cX1_has 1 = .ok (.ifCond .lt 15, 3) := by decide +kernel
theorem dX1_has_4 : decode cX1_has 4 = .ok (.iload_n 1, 1) := by decide +kernel
theorem dX1_has_5 : decode cX1_has 5 = .ok (.aload_n 0, 1) := by decide +kernel
theorem dX1_has_6 : decode cX1_has 6 = .ok (.getfield 15, 3) := by decide +kernel
theorem dX1_has_9 : decode cX1_has 9 = .ok (.if_icmp .ge 7, 3) := by decide +kernel
theorem dX1_has_12 : decode cX1_has 12 = .ok (.iconst 1, 1) := by decide +kernel
theorem dX1_has_13 : decode cX1_has 13 = .ok (.goto 4, 3) := by decide +kernel
theorem dX1_has_16 : decode cX1_has 16 = .ok (.iconst 0, 1) := by decide +kernel
theorem dX1_has_17 : decode cX1_has 17 = .ok (.ireturn, 1) := by decide +kernel
theorem dX1_all_0 : decode cX1_all 0 = .ok (.iconst 1, 1) := by decide +kernel
theorem dX1_all_1 : decode cX1_all 1 = .ok (.aload_n 0, 1) := by decide +kernel
theorem dX1_all_2 : decode cX1_all 2 = .ok (.getfield 15, 3) := by decide +kernel
theorem dX1_all_5 : decode cX1_all 5 = .ok (.ishl, 1) := by decide +kernel
theorem dX1_all_6 : decode cX1_all 6 = .ok (.iconst 1, 1) := by decide +kernel
theorem dX1_all_7 : decode cX1_all 7 = .ok (.isub, 1) := by decide +kernel
theorem dX1_all_8 : decode cX1_all 8 = .ok (.ireturn, 1) := by decide +kernel
theorem dX1_numberOf_0 : decode cX1_numberOf 0 = .ok (.iload_n 1, 1) := by decide +kernel
theorem dX1_numberOf_1 : decode cX1_numberOf 1 = .ok (.iconst 4, 1) := by decide +kernel
theorem dX1_numberOf_2 : decode cX1_numberOf 2 = .ok (.imul, 1) := by decide +kernel
theorem dX1_numberOf_3 : decode cX1_numberOf 3 = .ok (.iload_n 2, 1) := by decide +kernel
theorem dX1_numberOf_4 : decode cX1_numberOf 4 = .ok (.iadd, 1) := by decide +kernel
theorem dX1_numberOf_5 : decode cX1_numberOf 5 = .ok (.istore_n 3, 1) := by decide +kernel
theorem dX1_numberOf_6 : decode cX1_numberOf 6 = .ok (.iload_n 3, 1) := by decide +kernel
theorem dX1_numberOf_7 : decode cX1_numberOf 7 = .ok (.ifCond .lt 21, 3) := by decide +kernel
theorem dX1_numberOf_10 : decode cX1_numberOf 10 = .ok (.iload_n 3, 1) := by decide +kernel
theorem dX1_numberOf_11 : decode cX1_numberOf 11 = .ok (.aload_n 0, 1) := by decide +kernel
theorem dX1_numberOf_12 : decode cX1_numberOf 12 = .ok (.getfield 9, 3) := by decide +kernel
theorem dX1_numberOf_15 : decode cX1_numberOf 15 = .ok (.arraylength, 1) := by decide +kernel
theorem dX1_numberOf_16 : decode cX1_numberOf 16 = .ok (.if_icmp .ge 12, 3) := by decide +kernel
theorem dX1_numberOf_19 : decode cX1_numberOf 19 = .ok (.aload_n 0, 1) := by decide +kernel
theorem dX1_numberOf_20 : decode cX1_numberOf 20 = .ok (.getfield 9, 3) := by decide +kernel
theorem dX1_numberOf_23 : decode cX1_numberOf 23 = .ok (.iload_n 3, 1) := by decide +kernel
theorem dX1_numberOf_24 : decode cX1_numberOf 24 = .ok (.iaload, 1) := by decide +kernel
theorem dX1_numberOf_25 : decode cX1_numberOf 25 = .ok (.goto 4, 3) := by decide +kernel
theorem dX1_numberOf_28 : decode cX1_numberOf 28 = .ok (.iconst 0, 1) := by decide +kernel
theorem dX1_numberOf_29 : decode cX1_numberOf 29 = .ok (.ireturn, 1) := by decide +kernel
set_option maxRecDepth 20000 in
theorem ggX1_isHard_X1_numberOf : GoodIn wsX1_isHard wsX1_numberOf := goodIn_r _ [5, 6, 7, 8, 9] (by decide +kernel) (by decide +kernel)
set_option maxRecDepth 20000 in
theorem gX1_isHard_X1_numberOf : GoodIn wsX1_isHard (wsV RX1 22 RX1 yX1_numberOf wsX1_numberOf) := goodIn_app (goodIn_of _ (by decide +kernel)) ggX1_isHard_X1_numberOf
theorem dX1_isHard_0 : decode cX1_isHard 0 = .ok (.aload_n 0, 1) := by decide +kernel
theorem dX1_isHard_1 : decode cX1_isHard 1 = .ok (.iload_n 1, 1) := by decide +kernel
theorem dX1_isHard_2 : decode cX1_isHard 2 = .ok (.iconst 3, 1) := by decide +kernel
theorem dX1_isHard_3 : decode cX1_isHard 3 = .ok (.invokevirtual 22, 3) := by decide +kernel
theorem dX1_isHard_6 : decode cX1_isHard 6 = .ok (.iconst 1, 1) := by decide +kernel
theorem dX1_isHard_7 : decode cX1_isHard 7 = .ok (.if_icmp .ne 7, 3) := by decide +kernel
theorem dX1_isHard_10 : decode cX1_isHard 10 = .ok (.iconst 1, 1) := by decide +kernel
theorem dX1_isHard_11 : decode cX1_isHard 11 = .ok (.goto 4, 3) := by decide +kernel
theorem dX1_isHard_14 : decode cX1_isHard 14 = .ok (.iconst 0, 1) := by decide +kernel
theorem dX1_isHard_15 : decode cX1_isHard 15 = .ok (.ireturn, 1) := by decide +kernel
set_option maxRecDepth 20000 in
theorem ggX1_endOf_X1_numberOf : GoodIn wsX1_endOf wsX1_numberOf := goodIn_r _ [5, 6, 7, 8, 9] (by decide +kernel) (by decide +kernel)
set_option maxRecDepth 20000 in
theorem gX1_endOf_X1_numberOf : GoodIn wsX1_endOf (wsV RX1 22 RX1 yX1_numberOf wsX1_numberOf) := goodIn_app (goodIn_of _ (by decide +kernel)) ggX1_endOf_X1_numberOf
theorem dX1_endOf_0 : decode cX1_endOf 0 = .ok (.aload_n 0, 1) := by decide +kernel
theorem dX1_endOf_1 : decode cX1_endOf 1 = .ok (.iload_n 1, 1) := by decide +kernel
theorem dX1_endOf_2 : decode cX1_endOf 2 = .ok (.iconst 0, 1) := by decide +kernel
theorem dX1_endOf_3 : decode cX1_endOf 3 = .ok (.invokevirtual 22, 3) := by decide +kernel
theorem dX1_endOf_6 : decode cX1_endOf 6 = .ok (.aload_n 0, 1) := by decide +kernel
theorem dX1_endOf_7 : decode cX1_endOf 7 = .ok (.iload_n 1, 1) := by decide +kernel
theorem dX1_endOf_8 : decode cX1_endOf 8 = .ok (.iconst 1, 1) := by decide +kernel
theorem dX1_endOf_9 : decode cX1_endOf 9 = .ok (.invokevirtual 22, 3) := by decide +kernel
theorem dX1_endOf_12 : decode cX1_endOf 12 = .ok (.iadd, 1) := by decide +kernel
theorem dX1_endOf_13 : decode cX1_endOf 13 = .ok (.ireturn, 1) := by decide +kernel
set_option maxRecDepth 20000 in
theorem ggX1_sounds_X1_numberOf : GoodIn wsX1_sounds wsX1_numberOf := goodIn_r _ [5, 6, 11, 12, 13] (by decide +kernel) (by decide +kernel)
set_option maxRecDepth 20000 in
theorem gX1_sounds_X1_numberOf : GoodIn wsX1_sounds (wsV RX1 22 RX1 yX1_numberOf wsX1_numberOf) := goodIn_app (goodIn_of _ (by decide +kernel)) ggX1_sounds_X1_numberOf
set_option maxRecDepth 20000 in
theorem ggX1_sounds_X1_endOf : GoodIn wsX1_sounds wsX1_endOf := goodIn_r _ [10, 1, 2, 3, 4, 5, 6, 11, 12, 13] (by decide +kernel) (by decide +kernel)
set_option maxRecDepth 20000 in
theorem gX1_sounds_X1_endOf : GoodIn wsX1_sounds (wsV RX1 26 RX1 yX1_endOf wsX1_endOf) := goodIn_app (goodIn_of _ (by decide +kernel)) ggX1_sounds_X1_endOf
theorem dX1_sounds_0 : decode cX1_sounds 0 = .ok (.iload_n 2, 1) := by decide +kernel
theorem dX1_sounds_1 : decode cX1_sounds 1 = .ok (.aload_n 0, 1) := by decide +kernel
theorem dX1_sounds_2 : decode cX1_sounds 2 = .ok (.iload_n 1, 1) := by decide +kernel
theorem dX1_sounds_3 : decode cX1_sounds 3 = .ok (.iconst 0, 1) := by decide +kernel
theorem dX1_sounds_4 : decode cX1_sounds 4 = .ok (.invokevirtual 22, 3) := by decide +kernel
theorem dX1_sounds_7 : decode cX1_sounds 7 = .ok (.if_icmp .lt 16, 3) := by decide +kernel
theorem dX1_sounds_10 : decode cX1_sounds 10 = .ok (.iload_n 2, 1) := by decide +kernel
theorem dX1_sounds_11 : decode cX1_sounds 11 = .ok (.aload_n 0, 1) := by decide +kernel
theorem dX1_sounds_12 : decode cX1_sounds 12 = .ok (.iload_n 1, 1) := by decide +kernel
theorem dX1_sounds_13 : decode cX1_sounds 13 = .ok (.invokevirtual 26, 3) := by decide +kernel
theorem dX1_sounds_16 : decode cX1_sounds 16 = .ok (.if_icmp .ge 7, 3) := by decide +kernel
theorem dX1_sounds_19 : decode cX1_sounds 19 = .ok (.iconst 1, 1) := by decide +kernel
theorem dX1_sounds_20 : decode cX1_sounds 20 = .ok (.goto 4, 3) := by decide +kernel
theorem dX1_sounds_23 : decode cX1_sounds 23 = .ok (.iconst 0, 1) := by decide +kernel
theorem dX1_sounds_24 : decode cX1_sounds 24 = .ok (.ireturn, 1) := by decide +kernel
set_option maxRecDepth 20000 in
theorem ggX1_change_X6_put : GoodIn wsX1_change wsX6_put := goodIn_r _ [4] (by decide +kernel) (by decide +kernel)
set_option maxRecDepth 20000 in
theorem gX1_change_X6_put_n30 : GoodIn wsX1_change (wsX6_put) := ggX1_change_X6_put
theorem dX1_change_0 : decode cX1_change 0 = .ok (.aload_n 0, 1) := by decide +kernel
theorem dX1_change_1 : decode cX1_change 1 = .ok (.getfield 9, 3) := by decide +kernel
theorem dX1_change_4 : decode cX1_change 4 = .ok (.iload_n 1, 1) := by decide +kernel
theorem dX1_change_5 : decode cX1_change 5 = .ok (.iconst 4, 1) := by decide +kernel
theorem dX1_change_6 : decode cX1_change 6 = .ok (.imul, 1) := by decide +kernel
theorem dX1_change_7 : decode cX1_change 7 = .ok (.iload_n 2, 1) := by decide +kernel
theorem dX1_change_8 : decode cX1_change 8 = .ok (.iadd, 1) := by decide +kernel
theorem dX1_change_9 : decode cX1_change 9 = .ok (.iload_n 3, 1) := by decide +kernel
theorem dX1_change_10 : decode cX1_change 10 = .ok (.invokestatic 30, 3) := by decide +kernel
theorem dX1_change_13 : decode cX1_change 13 = .ok (.return_, 1) := by decide +kernel
set_option maxRecDepth 20000 in
theorem ggX1_add_X1_change : GoodIn wsX1_add wsX1_change := goodIn_r _ [6, 7, 8, 9, 10, 11, 12, 13] (by decide +kernel) (by decide +kernel)
set_option maxRecDepth 20000 in
theorem gX1_add_X1_change : GoodIn wsX1_add (wsV RX1 34 RX1 yX1_change wsX1_change) := goodIn_app (goodIn_of _ (by decide +kernel)) ggX1_add_X1_change
theorem dX1_add_0 : decode cX1_add 0 = .ok (.aload_n 0, 1) := by decide +kernel
theorem dX1_add_1 : decode cX1_add 1 = .ok (.aload_n 0, 1) := by decide +kernel
theorem dX1_add_2 : decode cX1_add 2 = .ok (.getfield 15, 3) := by decide +kernel
theorem dX1_add_5 : decode cX1_add 5 = .ok (.iconst 0, 1) := by decide +kernel
theorem dX1_add_6 : decode cX1_add 6 = .ok (.iload_n 1, 1) := by decide +kernel
theorem dX1_add_7 : decode cX1_add 7 = .ok (.invokevirtual 34, 3) := by decide +kernel
theorem dX1_add_10 : decode cX1_add 10 = .ok (.aload_n 0, 1) := by decide +kernel
theorem dX1_add_11 : decode cX1_add 11 = .ok (.aload_n 0, 1) := by decide +kernel
theorem dX1_add_12 : decode cX1_add 12 = .ok (.getfield 15, 3) := by decide +kernel
theorem dX1_add_15 : decode cX1_add 15 = .ok (.iconst 1, 1) := by decide +kernel
theorem dX1_add_16 : decode cX1_add 16 = .ok (.iload_n 2, 1) := by decide +kernel
theorem dX1_add_17 : decode cX1_add 17 = .ok (.invokevirtual 34, 3) := by decide +kernel
theorem dX1_add_20 : decode cX1_add 20 = .ok (.aload_n 0, 1) := by decide +kernel
theorem dX1_add_21 : decode cX1_add 21 = .ok (.aload_n 0, 1) := by decide +kernel
theorem dX1_add_22 : decode cX1_add 22 = .ok (.getfield 15, 3) := by decide +kernel
theorem dX1_add_25 : decode cX1_add 25 = .ok (.iconst 2, 1) := by decide +kernel
theorem dX1_add_26 : decode cX1_add 26 = .ok (.iload_n 3, 1) := by decide +kernel
theorem dX1_add_27 : decode cX1_add 27 = .ok (.invokevirtual 34, 3) := by decide +kernel
theorem dX1_add_30 : decode cX1_add 30 = .ok (.aload_n 0, 1) := by decide +kernel
theorem dX1_add_31 : decode cX1_add 31 = .ok (.aload_n 0, 1) := by decide +kernel
theorem dX1_add_32 : decode cX1_add 32 = .ok (.getfield 15, 3) := by decide +kernel
theorem dX1_add_35 : decode cX1_add 35 = .ok (.iconst 3, 1) := by decide +kernel
theorem dX1_add_36 : decode cX1_add 36 = .ok (.iload 4, 2) := by decide +kernel
theorem dX1_add_38 : decode cX1_add 38 = .ok (.invokevirtual 34, 3) := by decide +kernel
theorem dX1_add_41 : decode cX1_add 41 = .ok (.aload_n 0, 1) := by decide +kernel
theorem dX1_add_42 : decode cX1_add 42 = .ok (.dup, 1) := by decide +kernel
theorem dX1_add_43 : decode cX1_add 43 = .ok (.getfield 15, 3) := by decide +kernel
theorem dX1_add_46 : decode cX1_add 46 = .ok (.iconst 1, 1) := by decide +kernel
theorem dX1_add_47 : decode cX1_add 47 = .ok (.iadd, 1) := by decide +kernel
theorem dX1_add_48 : decode cX1_add 48 = .ok (.putfield 15, 3) := by decide +kernel
theorem dX1_add_51 : decode cX1_add 51 = .ok (.return_, 1) := by decide +kernel
set_option maxRecDepth 20000 in
theorem ggX1_drop_X1_has : GoodIn wsX1_drop wsX1_has := goodIn_r _ [7, 2, 13, 14, 15] (by decide +kernel) (by decide +kernel)
set_option maxRecDepth 20000 in
theorem gX1_drop_X1_has : GoodIn wsX1_drop (wsV RX1 38 RX1 yX1_has wsX1_has) := goodIn_app (goodIn_of _ (by decide +kernel)) ggX1_drop_X1_has
set_option maxRecDepth 20000 in
theorem ggX1_drop_X6_entry : GoodIn wsX1_drop wsX6_entry := goodIn_r _ [10] (by decide +kernel) (by decide +kernel)
set_option maxRecDepth 20000 in
theorem gX1_drop_X6_entry_n42 : GoodIn wsX1_drop (wsX6_entry) := ggX1_drop_X6_entry
set_option maxRecDepth 20000 in
theorem ggX1_drop_X6_put : GoodIn wsX1_drop wsX6_put := goodIn_r _ [12] (by decide +kernel) (by decide +kernel)
set_option maxRecDepth 20000 in
theorem gX1_drop_X6_put_n30 : GoodIn wsX1_drop (wsX6_put) := ggX1_drop_X6_put
theorem dX1_drop_0 : decode cX1_drop 0 = .ok (.aload_n 0, 1) := by decide +kernel
theorem dX1_drop_1 : decode cX1_drop 1 = .ok (.iload_n 1, 1) := by decide +kernel
theorem dX1_drop_2 : decode cX1_drop 2 = .ok (.invokevirtual 38, 3) := by decide +kernel
theorem dX1_drop_5 : decode cX1_drop 5 = .ok (.ifCond .ne 4, 3) := by decide +kernel
theorem dX1_drop_8 : decode cX1_drop 8 = .ok (.return_, 1) := by decide +kernel
theorem dX1_drop_9 : decode cX1_drop 9 = .ok (.iload_n 1, 1) := by decide +kernel
theorem dX1_drop_10 : decode cX1_drop 10 = .ok (.iconst 4, 1) := by decide +kernel
theorem dX1_drop_11 : decode cX1_drop 11 = .ok (.imul, 1) := by decide +kernel
theorem dX1_drop_12 : decode cX1_drop 12 = .ok (.istore_n 2, 1) := by decide +kernel
theorem dX1_drop_13 : decode cX1_drop 13 = .ok (.iload_n 2, 1) := by decide +kernel
theorem dX1_drop_14 : decode cX1_drop 14 = .ok (.iconst 4, 1) := by decide +kernel
theorem dX1_drop_15 : decode cX1_drop 15 = .ok (.iadd, 1) := by decide +kernel
theorem dX1_drop_16 : decode cX1_drop 16 = .ok (.aload_n 0, 1) := by decide +kernel
theorem dX1_drop_17 : decode cX1_drop 17 = .ok (.getfield 9, 3) := by decide +kernel
theorem dX1_drop_20 : decode cX1_drop 20 = .ok (.arraylength, 1) := by decide +kernel
theorem dX1_drop_21 : decode cX1_drop 21 = .ok (.if_icmp .ge 27, 3) := by decide +kernel
theorem dX1_drop_24 : decode cX1_drop 24 = .ok (.aload_n 0, 1) := by decide +kernel
theorem dX1_drop_25 : decode cX1_drop 25 = .ok (.getfield 9, 3) := by decide +kernel
theorem dX1_drop_28 : decode cX1_drop 28 = .ok (.iload_n 2, 1) := by decide +kernel
theorem dX1_drop_29 : decode cX1_drop 29 = .ok (.aload_n 0, 1) := by decide +kernel
theorem dX1_drop_30 : decode cX1_drop 30 = .ok (.getfield 9, 3) := by decide +kernel
theorem dX1_drop_33 : decode cX1_drop 33 = .ok (.iload_n 2, 1) := by decide +kernel
theorem dX1_drop_34 : decode cX1_drop 34 = .ok (.iconst 4, 1) := by decide +kernel
theorem dX1_drop_35 : decode cX1_drop 35 = .ok (.iadd, 1) := by decide +kernel
theorem dX1_drop_36 : decode cX1_drop 36 = .ok (.invokestatic 42, 3) := by decide +kernel
theorem dX1_drop_39 : decode cX1_drop 39 = .ok (.invokestatic 30, 3) := by decide +kernel
theorem dX1_drop_42 : decode cX1_drop 42 = .ok (.iinc 2 1, 3) := by decide +kernel
theorem dX1_drop_45 : decode cX1_drop 45 = .ok (.goto (-32), 3) := by decide +kernel
theorem dX1_drop_48 : decode cX1_drop 48 = .ok (.aload_n 0, 1) := by decide +kernel
theorem dX1_drop_49 : decode cX1_drop 49 = .ok (.dup, 1) := by decide +kernel
theorem dX1_drop_50 : decode cX1_drop 50 = .ok (.getfield 15, 3) := by decide +kernel
theorem dX1_drop_53 : decode cX1_drop 53 = .ok (.iconst 1, 1) := by decide +kernel
theorem dX1_drop_54 : decode cX1_drop 54 = .ok (.isub, 1) := by decide +kernel
theorem dX1_drop_55 : decode cX1_drop 55 = .ok (.putfield 15, 3) := by decide +kernel
theorem dX1_drop_58 : decode cX1_drop 58 = .ok (.return_, 1) := by decide +kernel
set_option maxRecDepth 20000 in
theorem ggX1_copyFrom_X6_copyRow : GoodIn wsX1_copyFrom wsX6_copyRow := goodIn_r _ [5] (by decide +kernel) (by decide +kernel)
set_option maxRecDepth 20000 in
theorem gX1_copyFrom_X6_copyRow_n46 : GoodIn wsX1_copyFrom (wsX6_copyRow) := ggX1_copyFrom_X6_copyRow
theorem dX1_copyFrom_0 : decode cX1_copyFrom 0 = .ok (.aload_n 1, 1) := by decide +kernel
theorem dX1_copyFrom_1 : decode cX1_copyFrom 1 = .ok (.getfield 9, 3) := by decide +kernel
theorem dX1_copyFrom_4 : decode cX1_copyFrom 4 = .ok (.aload_n 0, 1) := by decide +kernel
theorem dX1_copyFrom_5 : decode cX1_copyFrom 5 = .ok (.getfield 9, 3) := by decide +kernel
theorem dX1_copyFrom_8 : decode cX1_copyFrom 8 = .ok (.invokestatic 46, 3) := by decide +kernel
theorem dX1_copyFrom_11 : decode cX1_copyFrom 11 = .ok (.aload_n 0, 1) := by decide +kernel
theorem dX1_copyFrom_12 : decode cX1_copyFrom 12 = .ok (.aload_n 1, 1) := by decide +kernel
theorem dX1_copyFrom_13 : decode cX1_copyFrom 13 = .ok (.getfield 15, 3) := by decide +kernel
theorem dX1_copyFrom_16 : decode cX1_copyFrom 16 = .ok (.putfield 15, 3) := by decide +kernel
theorem dX1_copyFrom_19 : decode cX1_copyFrom 19 = .ok (.return_, 1) := by decide +kernel
set_option maxRecDepth 20000 in
theorem ggX1_loudnessAt_X1_sounds : GoodIn wsX1_loudnessAt wsX1_sounds := goodIn_r _ [6, 7, 8, 9, 5, 10, 11, 12, 13, 14, 15, 16, 17, 18] (by decide +kernel) (by decide +kernel)
set_option maxRecDepth 20000 in
theorem gX1_loudnessAt_X1_sounds : GoodIn wsX1_loudnessAt (wsV RX1 50 RX1 yX1_sounds wsX1_sounds) := goodIn_app (goodIn_of _ (by decide +kernel)) ggX1_loudnessAt_X1_sounds
set_option maxRecDepth 20000 in
theorem ggX1_loudnessAt_X1_numberOf : GoodIn wsX1_loudnessAt wsX1_numberOf := goodIn_r _ [10, 11, 16, 17, 18] (by decide +kernel) (by decide +kernel)
set_option maxRecDepth 20000 in
theorem gX1_loudnessAt_X1_numberOf : GoodIn wsX1_loudnessAt (wsV RX1 22 RX1 yX1_numberOf wsX1_numberOf) := goodIn_app (goodIn_of _ (by decide +kernel)) ggX1_loudnessAt_X1_numberOf
theorem dX1_loudnessAt_0 : decode cX1_loudnessAt 0 = .ok (.iconst 0, 1) := by decide +kernel
theorem dX1_loudnessAt_1 : decode cX1_loudnessAt 1 = .ok (.istore_n 2, 1) := by decide +kernel
theorem dX1_loudnessAt_2 : decode cX1_loudnessAt 2 = .ok (.iconst 0, 1) := by decide +kernel
theorem dX1_loudnessAt_3 : decode cX1_loudnessAt 3 = .ok (.istore_n 3, 1) := by decide +kernel
theorem dX1_loudnessAt_4 : decode cX1_loudnessAt 4 = .ok (.iload_n 3, 1) := by decide +kernel
theorem dX1_loudnessAt_5 : decode cX1_loudnessAt 5 = .ok (.aload_n 0, 1) := by decide +kernel
theorem dX1_loudnessAt_6 : decode cX1_loudnessAt 6 = .ok (.getfield 15, 3) := by decide +kernel
theorem dX1_loudnessAt_9 : decode cX1_loudnessAt 9 = .ok (.if_icmp .ge 27, 3) := by decide +kernel
theorem dX1_loudnessAt_12 : decode cX1_loudnessAt 12 = .ok (.aload_n 0, 1) := by decide +kernel
theorem dX1_loudnessAt_13 : decode cX1_loudnessAt 13 = .ok (.iload_n 3, 1) := by decide +kernel
theorem dX1_loudnessAt_14 : decode cX1_loudnessAt 14 = .ok (.iload_n 1, 1) := by decide +kernel
theorem dX1_loudnessAt_15 : decode cX1_loudnessAt 15 = .ok (.invokevirtual 50, 3) := by decide +kernel
theorem dX1_loudnessAt_18 : decode cX1_loudnessAt 18 = .ok (.ifCond .eq 12, 3) := by decide +kernel
theorem dX1_loudnessAt_21 : decode cX1_loudnessAt 21 = .ok (.iload_n 2, 1) := by decide +kernel
theorem dX1_loudnessAt_22 : decode cX1_loudnessAt 22 = .ok (.aload_n 0, 1) := by decide +kernel
theorem dX1_loudnessAt_23 : decode cX1_loudnessAt 23 = .ok (.iload_n 3, 1) := by decide +kernel
theorem dX1_loudnessAt_24 : decode cX1_loudnessAt 24 = .ok (.iconst 2, 1) := by decide +kernel
theorem dX1_loudnessAt_25 : decode cX1_loudnessAt 25 = .ok (.invokevirtual 22, 3) := by decide +kernel
theorem dX1_loudnessAt_28 : decode cX1_loudnessAt 28 = .ok (.iadd, 1) := by decide +kernel
theorem dX1_loudnessAt_29 : decode cX1_loudnessAt 29 = .ok (.istore_n 2, 1) := by decide +kernel
theorem dX1_loudnessAt_30 : decode cX1_loudnessAt 30 = .ok (.iinc 3 1, 3) := by decide +kernel
theorem dX1_loudnessAt_33 : decode cX1_loudnessAt 33 = .ok (.goto (-29), 3) := by decide +kernel
theorem dX1_loudnessAt_36 : decode cX1_loudnessAt 36 = .ok (.iload_n 2, 1) := by decide +kernel
theorem dX1_loudnessAt_37 : decode cX1_loudnessAt 37 = .ok (.ireturn, 1) := by decide +kernel
set_option maxRecDepth 20000 in
theorem ggX1_loudnessByCue_X1_numberOf : GoodIn wsX1_loudnessByCue wsX1_numberOf := goodIn_r _ [6, 7, 8, 9, 10] (by decide +kernel) (by decide +kernel)
set_option maxRecDepth 20000 in
theorem gX1_loudnessByCue_X1_numberOf : GoodIn wsX1_loudnessByCue (wsV RX1 22 RX1 yX1_numberOf wsX1_numberOf) := goodIn_app (goodIn_of _ (by decide +kernel)) ggX1_loudnessByCue_X1_numberOf
theorem dX1_loudnessByCue_0 : decode cX1_loudnessByCue 0 = .ok (.iconst 0, 1) := by decide +kernel
theorem dX1_loudnessByCue_1 : decode cX1_loudnessByCue 1 = .ok (.istore_n 1, 1) := by decide +kernel
theorem dX1_loudnessByCue_2 : decode cX1_loudnessByCue 2 = .ok (.iconst 0, 1) := by decide +kernel
theorem dX1_loudnessByCue_3 : decode cX1_loudnessByCue 3 = .ok (.istore_n 2, 1) := by decide +kernel
theorem dX1_loudnessByCue_4 : decode cX1_loudnessByCue 4 = .ok (.iload_n 2, 1) := by decide +kernel
theorem dX1_loudnessByCue_5 : decode cX1_loudnessByCue 5 = .ok (.aload_n 0, 1) := by decide +kernel
theorem dX1_loudnessByCue_6 : decode cX1_loudnessByCue 6 = .ok (.getfield 15, 3) := by decide +kernel
theorem dX1_loudnessByCue_9 : decode cX1_loudnessByCue 9 = .ok (.if_icmp .ge 25, 3) := by decide +kernel
theorem dX1_loudnessByCue_12 : decode cX1_loudnessByCue 12 = .ok (.iload_n 1, 1) := by decide +kernel
theorem dX1_loudnessByCue_13 : decode cX1_loudnessByCue 13 = .ok (.aload_n 0, 1) := by decide +kernel
theorem dX1_loudnessByCue_14 : decode cX1_loudnessByCue 14 = .ok (.iload_n 2, 1) := by decide +kernel
theorem dX1_loudnessByCue_15 : decode cX1_loudnessByCue 15 = .ok (.iconst 1, 1) := by decide +kernel
theorem dX1_loudnessByCue_16 : decode cX1_loudnessByCue 16 = .ok (.invokevirtual 22, 3) := by decide +kernel
theorem dX1_loudnessByCue_19 : decode cX1_loudnessByCue 19 = .ok (.aload_n 0, 1) := by decide +kernel
theorem dX1_loudnessByCue_20 : decode cX1_loudnessByCue 20 = .ok (.iload_n 2, 1) := by decide +kernel
theorem dX1_loudnessByCue_21 : decode cX1_loudnessByCue 21 = .ok (.iconst 2, 1) := by decide +kernel
theorem dX1_loudnessByCue_22 : decode cX1_loudnessByCue 22 = .ok (.invokevirtual 22, 3) := by decide +kernel
theorem dX1_loudnessByCue_25 : decode cX1_loudnessByCue 25 = .ok (.imul, 1) := by decide +kernel
theorem dX1_loudnessByCue_26 : decode cX1_loudnessByCue 26 = .ok (.iadd, 1) := by decide +kernel
theorem dX1_loudnessByCue_27 : decode cX1_loudnessByCue 27 = .ok (.istore_n 1, 1) := by decide +kernel
theorem dX1_loudnessByCue_28 : decode cX1_loudnessByCue 28 = .ok (.iinc 2 1, 3) := by decide +kernel
theorem dX1_loudnessByCue_31 : decode cX1_loudnessByCue 31 = .ok (.goto (-27), 3) := by decide +kernel
theorem dX1_loudnessByCue_34 : decode cX1_loudnessByCue 34 = .ok (.iload_n 1, 1) := by decide +kernel
theorem dX1_loudnessByCue_35 : decode cX1_loudnessByCue 35 = .ok (.ireturn, 1) := by decide +kernel
set_option maxRecDepth 20000 in
theorem ggX1_markSounding_X1_endOf : GoodIn wsX1_markSounding wsX1_endOf := goodIn_r _ [6, 7, 8, 9, 5, 10, 11, 17, 18, 19] (by decide +kernel) (by decide +kernel)
set_option maxRecDepth 20000 in
theorem gX1_markSounding_X1_endOf : GoodIn wsX1_markSounding (wsV RX1 26 RX1 yX1_endOf wsX1_endOf) := goodIn_app (goodIn_of _ (by decide +kernel)) ggX1_markSounding_X1_endOf
set_option maxRecDepth 20000 in
theorem ggX1_markSounding_X1_numberOf : GoodIn wsX1_markSounding wsX1_numberOf := goodIn_r _ [10, 11, 17, 18, 19] (by decide +kernel) (by decide +kernel)
set_option maxRecDepth 20000 in
theorem gX1_markSounding_X1_numberOf : GoodIn wsX1_markSounding (wsV RX1 22 RX1 yX1_numberOf wsX1_numberOf) := goodIn_app (goodIn_of _ (by decide +kernel)) ggX1_markSounding_X1_numberOf
set_option maxRecDepth 20000 in
theorem ggX1_markSounding_X6_entry : GoodIn wsX1_markSounding wsX6_entry := goodIn_r _ [14] (by decide +kernel) (by decide +kernel)
set_option maxRecDepth 20000 in
theorem gX1_markSounding_X6_entry_n42 : GoodIn wsX1_markSounding (wsX6_entry) := ggX1_markSounding_X6_entry
set_option maxRecDepth 20000 in
theorem ggX1_markSounding_X6_put : GoodIn wsX1_markSounding wsX6_put := goodIn_r _ [16] (by decide +kernel) (by decide +kernel)
set_option maxRecDepth 20000 in
theorem gX1_markSounding_X6_put_n30 : GoodIn wsX1_markSounding (wsX6_put) := ggX1_markSounding_X6_put
theorem dX1_markSounding_0 : decode cX1_markSounding 0 = .ok (.iconst 0, 1) := by decide +kernel
theorem dX1_markSounding_1 : decode cX1_markSounding 1 = .ok (.istore_n 2, 1) := by decide +kernel
theorem dX1_markSounding_2 : decode cX1_markSounding 2 = .ok (.iload_n 2, 1) := by decide +kernel
theorem dX1_markSounding_3 : decode cX1_markSounding 3 = .ok (.aload_n 1, 1) := by decide +kernel
theorem dX1_markSounding_4 : decode cX1_markSounding 4 = .ok (.arraylength, 1) := by decide +kernel
theorem dX1_markSounding_5 : decode cX1_markSounding 5 = .ok (.if_icmp .ge 13, 3) := by decide +kernel
theorem dX1_markSounding_8 : decode cX1_markSounding 8 = .ok (.aload_n 1, 1) := by decide +kernel
theorem dX1_markSounding_9 : decode cX1_markSounding 9 = .ok (.iload_n 2, 1) := by decide +kernel
theorem dX1_markSounding_10 : decode cX1_markSounding 10 = .ok (.iconst 0, 1) := by decide +kernel
theorem dX1_markSounding_11 : decode cX1_markSounding 11 = .ok (.iastore, 1) := by decide +kernel
theorem dX1_markSounding_12 : decode cX1_markSounding 12 = .ok (.iinc 2 1, 3) := by decide +kernel
theorem dX1_markSounding_15 : decode cX1_markSounding 15 = .ok (.goto (-13), 3) := by decide +kernel
theorem dX1_markSounding_18 : decode cX1_markSounding 18 = .ok (.iconst 0, 1) := by decide +kernel
theorem dX1_markSounding_19 : decode cX1_markSounding 19 = .ok (.istore_n 2, 1) := by decide +kernel
theorem dX1_markSounding_20 : decode cX1_markSounding 20 = .ok (.iload_n 2, 1) := by decide +kernel
theorem dX1_markSounding_21 : decode cX1_markSounding 21 = .ok (.aload_n 0, 1) := by decide +kernel
theorem dX1_markSounding_22 : decode cX1_markSounding 22 = .ok (.getfield 15, 3) := by decide +kernel
theorem dX1_markSounding_25 : decode cX1_markSounding 25 = .ok (.if_icmp .ge 51, 3) := by decide +kernel
theorem dX1_markSounding_28 : decode cX1_markSounding 28 = .ok (.aload_n 0, 1) := by decide +kernel
theorem dX1_markSounding_29 : decode cX1_markSounding 29 = .ok (.iload_n 2, 1) := by decide +kernel
theorem dX1_markSounding_30 : decode cX1_markSounding 30 = .ok (.invokevirtual 26, 3) := by decide +kernel
theorem dX1_markSounding_33 : decode cX1_markSounding 33 = .ok (.istore_n 3, 1) := by decide +kernel
theorem dX1_markSounding_34 : decode cX1_markSounding 34 = .ok (.aload_n 0, 1) := by decide +kernel
theorem dX1_markSounding_35 : decode cX1_markSounding 35 = .ok (.iload_n 2, 1) := by decide +kernel
theorem dX1_markSounding_36 : decode cX1_markSounding 36 = .ok (.iconst 0, 1) := by decide +kernel
theorem dX1_markSounding_37 : decode cX1_markSounding 37 = .ok (.invokevirtual 22, 3) := by decide +kernel
theorem dX1_markSounding_40 : decode cX1_markSounding 40 = .ok (.istore 4, 2) := by decide +kernel
theorem dX1_markSounding_42 : decode cX1_markSounding 42 = .ok (.iload 4, 2) := by decide +kernel
theorem dX1_markSounding_44 : decode cX1_markSounding 44 = .ok (.iload_n 3, 1) := by decide +kernel
theorem dX1_markSounding_45 : decode cX1_markSounding 45 = .ok (.if_icmp .ge 25, 3) := by decide +kernel
theorem dX1_markSounding_48 : decode cX1_markSounding 48 = .ok (.aload_n 1, 1) := by decide +kernel
theorem dX1_markSounding_49 : decode cX1_markSounding 49 = .ok (.iload 4, 2) := by decide +kernel
theorem dX1_markSounding_51 : decode cX1_markSounding 51 = .ok (.aload_n 1, 1) := by decide +kernel
theorem dX1_markSounding_52 : decode cX1_markSounding 52 = .ok (.iload 4, 2) := by decide +kernel
theorem dX1_markSounding_54 : decode cX1_markSounding 54 = .ok (.invokestatic 42, 3) := by decide +kernel
theorem dX1_markSounding_57 : decode cX1_markSounding 57 = .ok (.iconst 1, 1) := by decide +kernel
theorem dX1_markSounding_58 : decode cX1_markSounding 58 = .ok (.iload_n 2, 1) := by decide +kernel
theorem dX1_markSounding_59 : decode cX1_markSounding 59 = .ok (.ishl, 1) := by decide +kernel
theorem dX1_markSounding_60 : decode cX1_markSounding 60 = .ok (.ior, 1) := by decide +kernel
theorem dX1_markSounding_61 : decode cX1_markSounding 61 = .ok (.invokestatic 30, 3) := by decide +kernel
theorem dX1_markSounding_64 : decode cX1_markSounding 64 = .ok (.iinc 4 1, 3) := by decide +kernel
theorem dX1_markSounding_67 : decode cX1_markSounding 67 = .ok (.goto (-25), 3) := by decide +kernel
theorem dX1_markSounding_70 : decode cX1_markSounding 70 = .ok (.iinc 2 1, 3) := by decide +kernel
theorem dX1_markSounding_73 : decode cX1_markSounding 73 = .ok (.goto (-53), 3) := by decide +kernel
theorem dX1_markSounding_76 : decode cX1_markSounding 76 = .ok (.return_, 1) := by decide +kernel
theorem dX2_init_0 : decode cX2_init 0 = .ok (.aload_n 0, 1) := by decide +kernel
theorem dX2_init_1 : decode cX2_init 1 = .ok (.invokespecial 3, 3) := by decide +kernel
theorem dX2_init_4 : decode cX2_init 4 = .ok (.aload_n 0, 1) := by decide +kernel
theorem dX2_init_5 : decode cX2_init 5 = .ok (.bipush 6, 2) := by decide +kernel
theorem dX2_init_7 : decode cX2_init 7 = .ok (.anewarray 9, 3) := by decide +kernel
theorem dX2_init_10 : decode cX2_init 10 = .ok (.putfield 11, 3) := by decide +kernel
theorem dX2_init_13 : decode cX2_init 13 = .ok (.aload_n 0, 1) := by decide +kernel
theorem dX2_init_14 : decode cX2_init 14 = .ok (.iconst 0, 1) := by decide +kernel
theorem dX2_init_15 : decode cX2_init 15 = .ok (.putfield 17, 3) := by decide +kernel
theorem dX2_init_18 : decode cX2_init 18 = .ok (.return_, 1) := by decide +kernel
theorem dX2_size_0 : decode cX2_size 0 = .ok (.aload_n 0, 1) := by decide +kernel
theorem dX2_size_1 : decode cX2_size 1 = .ok (.getfield 17, 3) := by decide +kernel
theorem dX2_size_4 : decode cX2_size 4 = .ok (.ireturn, 1) := by decide +kernel
set_option maxRecDepth 20000 in
theorem ggX2_push_X2_dropOldest : GoodIn wsX2_push wsX2_dropOldest := goodIn_r _ [10, 2, 1, 44, 45] (by decide +kernel) (by decide +kernel)
set_option maxRecDepth 20000 in
theorem gX2_push_X2_dropOldest : GoodIn wsX2_push (wsV RX2 21 RX2 yX2_dropOldest wsX2_dropOldest) := goodIn_app (goodIn_of _ (by decide +kernel)) ggX2_push_X2_dropOldest
set_option maxRecDepth 20000 in
theorem ggX2_push_X4_init : GoodIn wsX2_push wsX4_init := goodIn_r _ [12, 13, 14, 15, 16, 17, 18, 19, 20, 21, 22, 23, 24, 25, 26, 27, 28, 29, 30, 31, 32, 33, 34, 49, 50, 51, 46, 47, 48] (by decide +kernel) (by decide +kernel)
set_option maxRecDepth 20000 in
theorem gX2_push_X4_init_n24 : GoodIn wsX2_push (wsX4_init) := ggX2_push_X4_init
set_option maxRecDepth 20000 in
theorem ggX2_push_X4_copyFrom : GoodIn wsX2_push wsX4_copyFrom := goodIn_r _ [37, 19, 20, 27, 38, 18, 39, 40, 32, 33, 41, 42, 43, 46, 47, 48, 49, 50, 51] (by decide +kernel) (by decide +kernel)
set_option maxRecDepth 20000 in
theorem gX2_push_X4_copyFrom_n25 : GoodIn wsX2_push (wsX4_copyFrom) := ggX2_push_X4_copyFrom
theorem dX2_push_0 : decode cX2_push 0 = .ok (.aload_n 0, 1) := by decide +kernel
theorem dX2_push_1 : decode cX2_push 1 = .ok (.getfield 17, 3) := by decide +kernel
theorem dX2_push_4 : decode cX2_push 4 = .ok (.aload_n 0, 1) := by decide +kernel
theorem dX2_push_5 : decode cX2_push 5 = .ok (.getfield 11, 3) := by decide +kernel
theorem dX2_push_8 : decode cX2_push 8 = .ok (.arraylength, 1) := by decide +kernel
theorem dX2_push_9 : decode cX2_push 9 = .ok (.if_icmp .lt 7, 3) := by decide +kernel
theorem dX2_push_12 : decode cX2_push 12 = .ok (.aload_n 0, 1) := by decide +kernel
theorem dX2_push_13 : decode cX2_push 13 = .ok (.invokevirtual 21, 3) := by decide +kernel
theorem dX2_push_16 : decode cX2_push 16 = .ok (.aload_n 0, 1) := by decide +kernel
theorem dX2_push_17 : decode cX2_push 17 = .ok (.getfield 17, 3) := by decide +kernel
theorem dX2_push_20 : decode cX2_push 20 = .ok (.ifCond .lt 15, 3) := by decide +kernel
theorem dX2_push_23 : decode cX2_push 23 = .ok (.aload_n 0, 1) := by decide +kernel
theorem dX2_push_24 : decode cX2_push 24 = .ok (.getfield 17, 3) := by decide +kernel
theorem dX2_push_27 : decode cX2_push 27 = .ok (.aload_n 0, 1) := by decide +kernel
theorem dX2_push_28 : decode cX2_push 28 = .ok (.getfield 11, 3) := by decide +kernel
theorem dX2_push_31 : decode cX2_push 31 = .ok (.arraylength, 1) := by decide +kernel
theorem dX2_push_32 : decode cX2_push 32 = .ok (.if_icmp .lt 4, 3) := by decide +kernel
theorem dX2_push_35 : decode cX2_push 35 = .ok (.return_, 1) := by decide +kernel
theorem dX2_push_36 : decode cX2_push 36 = .ok (.aload_n 0, 1) := by decide +kernel
theorem dX2_push_37 : decode cX2_push 37 = .ok (.getfield 11, 3) := by decide +kernel
theorem dX2_push_40 : decode cX2_push 40 = .ok (.aload_n 0, 1) := by decide +kernel
theorem dX2_push_41 : decode cX2_push 41 = .ok (.getfield 17, 3) := by decide +kernel
theorem dX2_push_44 : decode cX2_push 44 = .ok (.aaload, 1) := by decide +kernel
theorem dX2_push_45 : decode cX2_push 45 = .ok (.astore_n 2, 1) := by decide +kernel
theorem dX2_push_46 : decode cX2_push 46 = .ok (.aload_n 2, 1) := by decide +kernel
theorem dX2_push_47 : decode cX2_push 47 = .ok (.ifnonnull 21, 3) := by decide +kernel
theorem dX2_push_50 : decode cX2_push 50 = .ok (.new 9, 3) := by decide +kernel
theorem dX2_push_53 : decode cX2_push 53 = .ok (.dup, 1) := by decide +kernel
theorem dX2_push_54 : decode cX2_push 54 = .ok (.invokespecial 24, 3) := by decide +kernel
theorem dX2_push_57 : decode cX2_push 57 = .ok (.astore_n 2, 1) := by decide +kernel
theorem dX2_push_58 : decode cX2_push 58 = .ok (.aload_n 0, 1) := by decide +kernel
theorem dX2_push_59 : decode cX2_push 59 = .ok (.getfield 11, 3) := by decide +kernel
theorem dX2_push_62 : decode cX2_push 62 = .ok (.aload_n 0, 1) := by decide +kernel
theorem dX2_push_63 : decode cX2_push 63 = .ok (.getfield 17, 3) := by decide +kernel
theorem dX2_push_66 : decode cX2_push 66 = .ok (.aload_n 2, 1) := by decide +kernel
theorem dX2_push_67 : decode cX2_push 67 = .ok (.aastore, 1) := by decide +kernel
theorem dX2_push_68 : decode cX2_push 68 = .ok (.aload_n 2, 1) := by decide +kernel
theorem dX2_push_69 : decode cX2_push 69 = .ok (.aload_n 1, 1) := by decide +kernel
theorem dX2_push_70 : decode cX2_push 70 = .ok (.invokevirtual 25, 3) := by decide +kernel
theorem dX2_push_73 : decode cX2_push 73 = .ok (.aload_n 0, 1) := by decide +kernel
theorem dX2_push_74 : decode cX2_push 74 = .ok (.dup, 1) := by decide +kernel
theorem dX2_push_75 : decode cX2_push 75 = .ok (.getfield 17, 3) := by decide +kernel
theorem dX2_push_78 : decode cX2_push 78 = .ok (.iconst 1, 1) := by decide +kernel
theorem dX2_push_79 : decode cX2_push 79 = .ok (.iadd, 1) := by decide +kernel
theorem dX2_push_80 : decode cX2_push 80 = .ok (.putfield 17, 3) := by decide +kernel
theorem dX2_push_83 : decode cX2_push 83 = .ok (.return_, 1) := by decide +kernel
theorem dX2_dropOldest_0 : decode cX2_dropOldest 0 = .ok (.iconst 1, 1) := by decide +kernel
theorem dX2_dropOldest_1 : decode cX2_dropOldest 1 = .ok (.istore_n 1, 1) := by decide +kernel
theorem dX2_dropOldest_2 : decode cX2_dropOldest 2 = .ok (.iload_n 1, 1) := by decide +kernel
theorem dX2_dropOldest_3 : decode cX2_dropOldest 3 = .ok (.aload_n 0, 1) := by decide +kernel
theorem dX2_dropOldest_4 : decode cX2_dropOldest 4 = .ok (.getfield 11, 3) := by decide +kernel
theorem dX2_dropOldest_7 : decode cX2_dropOldest 7 = .ok (.arraylength, 1) := by decide +kernel
theorem dX2_dropOldest_8 : decode cX2_dropOldest 8 = .ok (.if_icmp .ge 39, 3) := by decide +kernel
theorem dX2_dropOldest_11 : decode cX2_dropOldest 11 = .ok (.aload_n 0, 1) := by decide +kernel
theorem dX2_dropOldest_12 : decode cX2_dropOldest 12 = .ok (.getfield 11, 3) := by decide +kernel
theorem dX2_dropOldest_15 : decode cX2_dropOldest 15 = .ok (.iload_n 1, 1) := by decide +kernel
theorem dX2_dropOldest_16 : decode cX2_dropOldest 16 = .ok (.iconst 1, 1) := by decide +kernel
theorem dX2_dropOldest_17 : decode cX2_dropOldest 17 = .ok (.isub, 1) := by decide +kernel
theorem dX2_dropOldest_18 : decode cX2_dropOldest 18 = .ok (.aaload, 1) := by decide +kernel
theorem dX2_dropOldest_19 : decode cX2_dropOldest 19 = .ok (.astore_n 2, 1) := by decide +kernel
theorem dX2_dropOldest_20 : decode cX2_dropOldest 20 = .ok (.aload_n 0, 1) := by decide +kernel
theorem dX2_dropOldest_21 : decode cX2_dropOldest 21 = .ok (.getfield 11, 3) := by decide +kernel
theorem dX2_dropOldest_24 : decode cX2_dropOldest 24 = .ok (.iload_n 1, 1) := by decide +kernel
theorem dX2_dropOldest_25 : decode cX2_dropOldest 25 = .ok (.iconst 1, 1) := by decide +kernel
theorem dX2_dropOldest_26 : decode cX2_dropOldest 26 = .ok (.isub, 1) := by decide +kernel
theorem dX2_dropOldest_27 : decode cX2_dropOldest 27 = .ok (.aload_n 0, 1) := by decide +kernel
theorem dX2_dropOldest_28 : decode cX2_dropOldest 28 = .ok (.getfield 11, 3) := by decide +kernel
theorem dX2_dropOldest_31 : decode cX2_dropOldest 31 = .ok (.iload_n 1, 1) := by decide +kernel
theorem dX2_dropOldest_32 : decode cX2_dropOldest 32 = .ok (.aaload, 1) := by decide +kernel
theorem dX2_dropOldest_33 : decode cX2_dropOldest 33 = .ok (.aastore, 1) := by decide +kernel
theorem dX2_dropOldest_34 : decode cX2_dropOldest 34 = .ok (.aload_n 0, 1) := by decide +kernel
theorem dX2_dropOldest_35 : decode cX2_dropOldest 35 = .ok (.getfield 11, 3) := by decide +kernel
theorem dX2_dropOldest_38 : decode cX2_dropOldest 38 = .ok (.iload_n 1, 1) := by decide +kernel
theorem dX2_dropOldest_39 : decode cX2_dropOldest 39 = .ok (.aload_n 2, 1) := by decide +kernel
theorem dX2_dropOldest_40 : decode cX2_dropOldest 40 = .ok (.aastore, 1) := by decide +kernel
theorem dX2_dropOldest_41 : decode cX2_dropOldest 41 = .ok (.iinc 1 1, 3) := by decide +kernel
theorem dX2_dropOldest_44 : decode cX2_dropOldest 44 = .ok (.goto (-42), 3) := by decide +kernel
theorem dX2_dropOldest_47 : decode cX2_dropOldest 47 = .ok (.aload_n 0, 1) := by decide +kernel
theorem dX2_dropOldest_48 : decode cX2_dropOldest 48 = .ok (.dup, 1) := by decide +kernel
theorem dX2_dropOldest_49 : decode cX2_dropOldest 49 = .ok (.getfield 17, 3) := by decide +kernel
theorem dX2_dropOldest_52 : decode cX2_dropOldest 52 = .ok (.iconst 1, 1) := by decide +kernel
theorem dX2_dropOldest_53 : decode cX2_dropOldest 53 = .ok (.isub, 1) := by decide +kernel
theorem dX2_dropOldest_54 : decode cX2_dropOldest 54 = .ok (.putfield 17, 3) := by decide +kernel
theorem dX2_dropOldest_57 : decode cX2_dropOldest 57 = .ok (.return_, 1) := by decide +kernel
set_option maxRecDepth 20000 in
theorem ggX2_popInto_X4_copyFrom : GoodIn wsX2_popInto wsX4_copyFrom := goodIn_r _ [6, 7, 8, 9, 10, 11, 12, 13, 14, 15, 16, 17, 18, 21, 22, 23, 24, 25, 26] (by decide +kernel) (by decide +kernel)
set_option maxRecDepth 20000 in
theorem gX2_popInto_X4_copyFrom_n25 : GoodIn wsX2_popInto (wsX4_copyFrom) := ggX2_popInto_X4_copyFrom
theorem dX2_popInto_0 : decode cX2_popInto 0 = .ok (.aload_n 0, 1) := by decide +kernel
theorem dX2_popInto_1 : decode cX2_popInto 1 = .ok (.getfield 17, 3) := by decide +kernel
theorem dX2_popInto_4 : decode cX2_popInto 4 = .ok (.iconst 1, 1) := by decide +kernel
theorem dX2_popInto_5 : decode cX2_popInto 5 = .ok (.isub, 1) := by decide +kernel
theorem dX2_popInto_6 : decode cX2_popInto 6 = .ok (.istore_n 2, 1) := by decide +kernel
theorem dX2_popInto_7 : decode cX2_popInto 7 = .ok (.iload_n 2, 1) := by decide +kernel
theorem dX2_popInto_8 : decode cX2_popInto 8 = .ok (.ifCond .lt 21, 3) := by decide +kernel
theorem dX2_popInto_11 : decode cX2_popInto 11 = .ok (.iload_n 2, 1) := by decide +kernel
theorem dX2_popInto_12 : decode cX2_popInto 12 = .ok (.aload_n 0, 1) := by decide +kernel
theorem dX2_popInto_13 : decode cX2_popInto 13 = .ok (.getfield 11, 3) := by decide +kernel
theorem dX2_popInto_16 : decode cX2_popInto 16 = .ok (.arraylength, 1) := by decide +kernel
theorem dX2_popInto_17 : decode cX2_popInto 17 = .ok (.if_icmp .ge 12, 3) := by decide +kernel
theorem dX2_popInto_20 : decode cX2_popInto 20 = .ok (.aload_n 0, 1) := by decide +kernel
theorem dX2_popInto_21 : decode cX2_popInto 21 = .ok (.getfield 11, 3) := by decide +kernel
theorem dX2_popInto_24 : decode cX2_popInto 24 = .ok (.iload_n 2, 1) := by decide +kernel
theorem dX2_popInto_25 : decode cX2_popInto 25 = .ok (.aaload, 1) := by decide +kernel
