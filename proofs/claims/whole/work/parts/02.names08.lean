theorem dX2_popInto_26 : decode cX2_popInto 26 = .ok (.goto 4, 3) := by decide +kernel
theorem dX2_popInto_29 : decode cX2_popInto 29 = .ok (.aconst_null, 1) := by decide +kernel
theorem dX2_popInto_30 : decode cX2_popInto 30 = .ok (.astore_n 3, 1) := by decide +kernel
theorem dX2_popInto_31 : decode cX2_popInto 31 = .ok (.aload_n 3, 1) := by decide +kernel
theorem dX2_popInto_32 : decode cX2_popInto 32 = .ok (.ifnull 13, 3) := by decide +kernel
theorem dX2_popInto_35 : decode cX2_popInto 35 = .ok (.aload_n 1, 1) := by decide +kernel
theorem dX2_popInto_36 : decode cX2_popInto 36 = .ok (.aload_n 3, 1) := by decide +kernel
theorem dX2_popInto_37 : decode cX2_popInto 37 = .ok (.invokevirtual 25, 3) := by decide +kernel
theorem dX2_popInto_40 : decode cX2_popInto 40 = .ok (.aload_n 0, 1) := by decide +kernel
theorem dX2_popInto_41 : decode cX2_popInto 41 = .ok (.iload_n 2, 1) := by decide +kernel
theorem dX2_popInto_42 : decode cX2_popInto 42 = .ok (.putfield 17, 3) := by decide +kernel
theorem dX2_popInto_45 : decode cX2_popInto 45 = .ok (.return_, 1) := by decide +kernel
set_option maxRecDepth 20000 in
theorem ggX3_init_X4_init : GoodIn wsX3_init wsX4_init := goodIn_r _ [17, 18, 2, 3, 19, 20, 21, 22, 23, 24, 25, 26, 27, 28, 29, 30, 31, 32, 33, 8, 34, 35, 36, 48, 49, 50, 37, 38, 39] (by decide +kernel) (by decide +kernel)
set_option maxRecDepth 20000 in
theorem gX3_init_X4_init_n11 : GoodIn wsX3_init (wsX4_init) := ggX3_init_X4_init
theorem dX3_init_0 : decode cX3_init 0 = .ok (.aload_n 0, 1) := by decide +kernel
theorem dX3_init_1 : decode cX3_init 1 = .ok (.invokespecial 3, 3) := by decide +kernel
theorem dX3_init_4 : decode cX3_init 4 = .ok (.aload_n 0, 1) := by decide +kernel
theorem dX3_init_5 : decode cX3_init 5 = .ok (.new 9, 3) := by decide +kernel
theorem dX3_init_8 : decode cX3_init 8 = .ok (.dup, 1) := by decide +kernel
theorem dX3_init_9 : decode cX3_init 9 = .ok (.invokespecial 11, 3) := by decide +kernel
theorem dX3_init_12 : decode cX3_init 12 = .ok (.putfield 12, 3) := by decide +kernel
theorem dX3_init_15 : decode cX3_init 15 = .ok (.aload_n 0, 1) := by decide +kernel
theorem dX3_init_16 : decode cX3_init 16 = .ok (.bipush 120, 2) := by decide +kernel
theorem dX3_init_18 : decode cX3_init 18 = .ok (.newarray .int, 2) := by decide +kernel
theorem dX3_init_20 : decode cX3_init 20 = .ok (.putfield 18, 3) := by decide +kernel
theorem dX3_init_23 : decode cX3_init 23 = .ok (.aload_n 0, 1) := by decide +kernel
theorem dX3_init_24 : decode cX3_init 24 = .ok (.bipush 120, 2) := by decide +kernel
theorem dX3_init_26 : decode cX3_init 26 = .ok (.newarray .int, 2) := by decide +kernel
theorem dX3_init_28 : decode cX3_init 28 = .ok (.putfield 22, 3) := by decide +kernel
theorem dX3_init_31 : decode cX3_init 31 = .ok (.aload_n 0, 1) := by decide +kernel
theorem dX3_init_32 : decode cX3_init 32 = .ok (.bipush 120, 2) := by decide +kernel
theorem dX3_init_34 : decode cX3_init 34 = .ok (.newarray .int, 2) := by decide +kernel
theorem dX3_init_36 : decode cX3_init 36 = .ok (.putfield 25, 3) := by decide +kernel
theorem dX3_init_39 : decode cX3_init 39 = .ok (.aload_n 0, 1) := by decide +kernel
theorem dX3_init_40 : decode cX3_init 40 = .ok (.bipush 120, 2) := by decide +kernel
theorem dX3_init_42 : decode cX3_init 42 = .ok (.newarray .int, 2) := by decide +kernel
theorem dX3_init_44 : decode cX3_init 44 = .ok (.putfield 28, 3) := by decide +kernel
theorem dX3_init_47 : decode cX3_init 47 = .ok (.aload_n 0, 1) := by decide +kernel
theorem dX3_init_48 : decode cX3_init 48 = .ok (.bipush 120, 2) := by decide +kernel
theorem dX3_init_50 : decode cX3_init 50 = .ok (.newarray .int, 2) := by decide +kernel
theorem dX3_init_52 : decode cX3_init 52 = .ok (.putfield 31, 3) := by decide +kernel
theorem dX3_init_55 : decode cX3_init 55 = .ok (.aload_n 0, 1) := by decide +kernel
theorem dX3_init_56 : decode cX3_init 56 = .ok (.bipush 120, 2) := by decide +kernel
theorem dX3_init_58 : decode cX3_init 58 = .ok (.newarray .int, 2) := by decide +kernel
theorem dX3_init_60 : decode cX3_init 60 = .ok (.putfield 34, 3) := by decide +kernel
theorem dX3_init_63 : decode cX3_init 63 = .ok (.aload_n 0, 1) := by decide +kernel
theorem dX3_init_64 : decode cX3_init 64 = .ok (.bipush 120, 2) := by decide +kernel
theorem dX3_init_66 : decode cX3_init 66 = .ok (.newarray .int, 2) := by decide +kernel
theorem dX3_init_68 : decode cX3_init 68 = .ok (.putfield 37, 3) := by decide +kernel
theorem dX3_init_71 : decode cX3_init 71 = .ok (.return_, 1) := by decide +kernel
set_option maxRecDepth 20000 in
theorem ggX3_refresh_X1_markSounding : GoodIn wsX3_refresh wsX1_markSounding := goodIn_r _ [7, 8, 9, 10, 11, 5, 12, 13, 14, 15, 16, 17, 18, 19, 20, 21, 22, 81, 82, 83] (by decide +kernel) (by decide +kernel)
set_option maxRecDepth 20000 in
theorem gX3_refresh_X1_markSounding_n43 : GoodIn wsX3_refresh (wsX1_markSounding) := ggX3_refresh_X1_markSounding
set_option maxRecDepth 20000 in
theorem ggX3_refresh_X3_duck : GoodIn wsX3_refresh wsX3_duck := goodIn_r _ [27, 2, 1, 28, 29, 30, 31, 32, 18, 19, 20, 33, 34, 35, 36, 37, 21, 22, 70, 71, 72, 73, 74, 75, 76, 77, 78, 79, 80] (by decide +kernel) (by decide +kernel)
set_option maxRecDepth 20000 in
theorem gX3_refresh_X3_duck : GoodIn wsX3_refresh (wsV RX3 51 RX3 yX3_duck wsX3_duck) := goodIn_app (goodIn_of _ (by decide +kernel)) ggX3_refresh_X3_duck
set_option maxRecDepth 20000 in
theorem ggX3_refresh_X3_weighNoises : GoodIn wsX3_refresh wsX3_weighNoises := goodIn_r _ [41, 3, 1, 42, 43, 44, 18, 19, 20, 45, 5, 46, 47, 8, 48, 49, 50, 51, 52, 26, 53, 32, 28, 29, 30, 31, 14, 15, 16, 17, 54, 55, 56, 13, 21, 22, 70, 71, 72, 73, 74, 75, 76, 77, 78, 79, 80, 81, 82, 83] (by decide +kernel) (by decide +kernel)
set_option maxRecDepth 20000 in
theorem gX3_refresh_X3_weighNoises : GoodIn wsX3_refresh (wsV RX3 54 RX3 yX3_weighNoises wsX3_weighNoises) := goodIn_app (goodIn_of _ (by decide +kernel)) ggX3_refresh_X3_weighNoises
set_option maxRecDepth 20000 in
theorem ggX3_refresh_X3_markMasked : GoodIn wsX3_refresh wsX3_markMasked := goodIn_r _ [60, 2, 1, 61, 18, 19, 20, 45, 5, 46, 47, 8, 48, 49, 14, 15, 16, 17, 62, 63, 64, 26, 65, 43, 44, 28, 29, 30, 31, 66, 67, 68, 69, 33, 34, 35, 36, 37, 21, 22, 70, 71, 72, 73, 74, 75, 76, 77, 78, 79, 80, 81, 82, 83] (by decide +kernel) (by decide +kernel)
set_option maxRecDepth 20000 in
theorem gX3_refresh_X3_markMasked : GoodIn wsX3_refresh (wsV RX3 58 RX3 yX3_markMasked wsX3_markMasked) := goodIn_app (goodIn_of _ (by decide +kernel)) ggX3_refresh_X3_markMasked
theorem dX3_refresh_0 : decode cX3_refresh 0 = .ok (.aload_n 0, 1) := by decide +kernel
theorem dX3_refresh_1 : decode cX3_refresh 1 = .ok (.getfield 12, 3) := by decide +kernel
theorem dX3_refresh_4 : decode cX3_refresh 4 = .ok (.getfield 40, 3) := by decide +kernel
theorem dX3_refresh_7 : decode cX3_refresh 7 = .ok (.aload_n 0, 1) := by decide +kernel
theorem dX3_refresh_8 : decode cX3_refresh 8 = .ok (.getfield 18, 3) := by decide +kernel
theorem dX3_refresh_11 : decode cX3_refresh 11 = .ok (.invokevirtual 43, 3) := by decide +kernel
theorem dX3_refresh_14 : decode cX3_refresh 14 = .ok (.aload_n 0, 1) := by decide +kernel
theorem dX3_refresh_15 : decode cX3_refresh 15 = .ok (.getfield 12, 3) := by decide +kernel
theorem dX3_refresh_18 : decode cX3_refresh 18 = .ok (.getfield 49, 3) := by decide +kernel
theorem dX3_refresh_21 : decode cX3_refresh 21 = .ok (.aload_n 0, 1) := by decide +kernel
theorem dX3_refresh_22 : decode cX3_refresh 22 = .ok (.getfield 22, 3) := by decide +kernel
theorem dX3_refresh_25 : decode cX3_refresh 25 = .ok (.invokevirtual 43, 3) := by decide +kernel
theorem dX3_refresh_28 : decode cX3_refresh 28 = .ok (.aload_n 0, 1) := by decide +kernel
theorem dX3_refresh_29 : decode cX3_refresh 29 = .ok (.invokevirtual 51, 3) := by decide +kernel
theorem dX3_refresh_32 : decode cX3_refresh 32 = .ok (.iconst 0, 1) := by decide +kernel
theorem dX3_refresh_33 : decode cX3_refresh 33 = .ok (.istore_n 1, 1) := by decide +kernel
theorem dX3_refresh_34 : decode cX3_refresh 34 = .ok (.iload_n 1, 1) := by decide +kernel
theorem dX3_refresh_35 : decode cX3_refresh 35 = .ok (.bipush 120, 2) := by decide +kernel
theorem dX3_refresh_37 : decode cX3_refresh 37 = .ok (.if_icmp .ge 19, 3) := by decide +kernel
theorem dX3_refresh_40 : decode cX3_refresh 40 = .ok (.aload_n 0, 1) := by decide +kernel
theorem dX3_refresh_41 : decode cX3_refresh 41 = .ok (.iload_n 1, 1) := by decide +kernel
theorem dX3_refresh_42 : decode cX3_refresh 42 = .ok (.invokevirtual 54, 3) := by decide +kernel
theorem dX3_refresh_45 : decode cX3_refresh 45 = .ok (.aload_n 0, 1) := by decide +kernel
theorem dX3_refresh_46 : decode cX3_refresh 46 = .ok (.iload_n 1, 1) := by decide +kernel
theorem dX3_refresh_47 : decode cX3_refresh 47 = .ok (.invokevirtual 58, 3) := by decide +kernel
theorem dX3_refresh_50 : decode cX3_refresh 50 = .ok (.iinc 1 1, 3) := by decide +kernel
theorem dX3_refresh_53 : decode cX3_refresh 53 = .ok (.goto (-19), 3) := by decide +kernel
theorem dX3_refresh_56 : decode cX3_refresh 56 = .ok (.return_, 1) := by decide +kernel
set_option maxRecDepth 20000 in
theorem ggX3_duck_X6_entry : GoodIn wsX3_duck wsX6_entry := goodIn_r _ [10] (by decide +kernel) (by decide +kernel)
set_option maxRecDepth 20000 in
theorem gX3_duck_X6_entry_n61 : GoodIn wsX3_duck (wsX6_entry) := ggX3_duck_X6_entry
set_option maxRecDepth 20000 in
theorem ggX3_duck_X4_settingOf : GoodIn wsX3_duck wsX4_settingOf := goodIn_r _ [14, 15, 26, 27, 28] (by decide +kernel) (by decide +kernel)
set_option maxRecDepth 20000 in
theorem gX3_duck_X4_settingOf_n65 : GoodIn wsX3_duck (wsX4_settingOf) := ggX3_duck_X4_settingOf
set_option maxRecDepth 20000 in
theorem ggX3_duck_X6_put : GoodIn wsX3_duck wsX6_put := goodIn_r _ [17] (by decide +kernel) (by decide +kernel)
set_option maxRecDepth 20000 in
theorem gX3_duck_X6_put_n75 : GoodIn wsX3_duck (wsX6_put) := ggX3_duck_X6_put
theorem dX3_duck_0 : decode cX3_duck 0 = .ok (.iconst 0, 1) := by decide +kernel
theorem dX3_duck_1 : decode cX3_duck 1 = .ok (.istore_n 1, 1) := by decide +kernel
theorem dX3_duck_2 : decode cX3_duck 2 = .ok (.iconst 0, 1) := by decide +kernel
theorem dX3_duck_3 : decode cX3_duck 3 = .ok (.istore_n 2, 1) := by decide +kernel
theorem dX3_duck_4 : decode cX3_duck 4 = .ok (.iload_n 2, 1) := by decide +kernel
theorem dX3_duck_5 : decode cX3_duck 5 = .ok (.bipush 120, 2) := by decide +kernel
theorem dX3_duck_7 : decode cX3_duck 7 = .ok (.if_icmp .ge 56, 3) := by decide +kernel
theorem dX3_duck_10 : decode cX3_duck 10 = .ok (.aload_n 0, 1) := by decide +kernel
theorem dX3_duck_11 : decode cX3_duck 11 = .ok (.getfield 18, 3) := by decide +kernel
theorem dX3_duck_14 : decode cX3_duck 14 = .ok (.iload_n 2, 1) := by decide +kernel
theorem dX3_duck_15 : decode cX3_duck 15 = .ok (.invokestatic 61, 3) := by decide +kernel
theorem dX3_duck_18 : decode cX3_duck 18 = .ok (.ifCond .eq 15, 3) := by decide +kernel
theorem dX3_duck_21 : decode cX3_duck 21 = .ok (.aload_n 0, 1) := by decide +kernel
theorem dX3_duck_22 : decode cX3_duck 22 = .ok (.getfield 12, 3) := by decide +kernel
theorem dX3_duck_25 : decode cX3_duck 25 = .ok (.iconst 0, 1) := by decide +kernel
theorem dX3_duck_26 : decode cX3_duck 26 = .ok (.invokevirtual 65, 3) := by decide +kernel
theorem dX3_duck_29 : decode cX3_duck 29 = .ok (.istore_n 1, 1) := by decide +kernel
theorem dX3_duck_30 : decode cX3_duck 30 = .ok (.goto 18, 3) := by decide +kernel
theorem dX3_duck_33 : decode cX3_duck 33 = .ok (.iconst 0, 1) := by decide +kernel
theorem dX3_duck_34 : decode cX3_duck 34 = .ok (.iload_n 1, 1) := by decide +kernel
theorem dX3_duck_35 : decode cX3_duck 35 = .ok (.aload_n 0, 1) := by decide +kernel
theorem dX3_duck_36 : decode cX3_duck 36 = .ok (.getfield 12, 3) := by decide +kernel
theorem dX3_duck_39 : decode cX3_duck 39 = .ok (.iconst 1, 1) := by decide +kernel
theorem dX3_duck_40 : decode cX3_duck 40 = .ok (.invokevirtual 65, 3) := by decide +kernel
theorem dX3_duck_43 : decode cX3_duck 43 = .ok (.isub, 1) := by decide +kernel
theorem dX3_duck_44 : decode cX3_duck 44 = .ok (.invokestatic 69, 3) := by decide +kernel
theorem dX3_duck_47 : decode cX3_duck 47 = .ok (.istore_n 1, 1) := by decide +kernel
theorem dX3_duck_48 : decode cX3_duck 48 = .ok (.aload_n 0, 1) := by decide +kernel
theorem dX3_duck_49 : decode cX3_duck 49 = .ok (.getfield 25, 3) := by decide +kernel
theorem dX3_duck_52 : decode cX3_duck 52 = .ok (.iload_n 2, 1) := by decide +kernel
theorem dX3_duck_53 : decode cX3_duck 53 = .ok (.iload_n 1, 1) := by decide +kernel
theorem dX3_duck_54 : decode cX3_duck 54 = .ok (.invokestatic 75, 3) := by decide +kernel
theorem dX3_duck_57 : decode cX3_duck 57 = .ok (.iinc 2 1, 3) := by decide +kernel
theorem dX3_duck_60 : decode cX3_duck 60 = .ok (.goto (-56), 3) := by decide +kernel
theorem dX3_duck_63 : decode cX3_duck 63 = .ok (.return_, 1) := by decide +kernel
set_option maxRecDepth 20000 in
theorem ggX3_strengthOf_X1_numberOf : GoodIn wsX3_strengthOf wsX1_numberOf := goodIn_r _ [10, 11, 30, 31, 32] (by decide +kernel) (by decide +kernel)
set_option maxRecDepth 20000 in
theorem gX3_strengthOf_X1_numberOf_n79 : GoodIn wsX3_strengthOf (wsX1_numberOf) := ggX3_strengthOf_X1_numberOf
set_option maxRecDepth 20000 in
theorem ggX3_strengthOf_X1_isHard : GoodIn wsX3_strengthOf wsX1_isHard := goodIn_r _ [14, 15, 7, 9, 8, 10, 11, 30, 31, 32] (by decide +kernel) (by decide +kernel)
set_option maxRecDepth 20000 in
theorem gX3_strengthOf_X1_isHard_n82 : GoodIn wsX3_strengthOf (wsX1_isHard) := ggX3_strengthOf_X1_isHard
set_option maxRecDepth 20000 in
theorem ggX3_strengthOf_X6_entry : GoodIn wsX3_strengthOf wsX6_entry := goodIn_r _ [18] (by decide +kernel) (by decide +kernel)
set_option maxRecDepth 20000 in
theorem gX3_strengthOf_X6_entry_n61 : GoodIn wsX3_strengthOf (wsX6_entry) := ggX3_strengthOf_X6_entry
theorem dX3_strengthOf_0 : decode cX3_strengthOf 0 = .ok (.aload_n 0, 1) := by decide +kernel
theorem dX3_strengthOf_1 : decode cX3_strengthOf 1 = .ok (.getfield 12, 3) := by decide +kernel
theorem dX3_strengthOf_4 : decode cX3_strengthOf 4 = .ok (.getfield 49, 3) := by decide +kernel
theorem dX3_strengthOf_7 : decode cX3_strengthOf 7 = .ok (.iload_n 1, 1) := by decide +kernel
theorem dX3_strengthOf_8 : decode cX3_strengthOf 8 = .ok (.iconst 2, 1) := by decide +kernel
theorem dX3_strengthOf_9 : decode cX3_strengthOf 9 = .ok (.invokevirtual 79, 3) := by decide +kernel
theorem dX3_strengthOf_12 : decode cX3_strengthOf 12 = .ok (.istore_n 3, 1) := by decide +kernel
theorem dX3_strengthOf_13 : decode cX3_strengthOf 13 = .ok (.aload_n 0, 1) := by decide +kernel
theorem dX3_strengthOf_14 : decode cX3_strengthOf 14 = .ok (.getfield 12, 3) := by decide +kernel
theorem dX3_strengthOf_17 : decode cX3_strengthOf 17 = .ok (.getfield 49, 3) := by decide +kernel
theorem dX3_strengthOf_20 : decode cX3_strengthOf 20 = .ok (.iload_n 1, 1) := by decide +kernel
theorem dX3_strengthOf_21 : decode cX3_strengthOf 21 = .ok (.invokevirtual 82, 3) := by decide +kernel
theorem dX3_strengthOf_24 : decode cX3_strengthOf 24 = .ok (.ifCond .eq 7, 3) := by decide +kernel
theorem dX3_strengthOf_27 : decode cX3_strengthOf 27 = .ok (.iload_n 3, 1) := by decide +kernel
theorem dX3_strengthOf_28 : decode cX3_strengthOf 28 = .ok (.goto 17, 3) := by decide +kernel
theorem dX3_strengthOf_31 : decode cX3_strengthOf 31 = .ok (.iconst 0, 1) := by decide +kernel
theorem dX3_strengthOf_32 : decode cX3_strengthOf 32 = .ok (.iload_n 3, 1) := by decide +kernel
theorem dX3_strengthOf_33 : decode cX3_strengthOf 33 = .ok (.aload_n 0, 1) := by decide +kernel
theorem dX3_strengthOf_34 : decode cX3_strengthOf 34 = .ok (.getfield 25, 3) := by decide +kernel
theorem dX3_strengthOf_37 : decode cX3_strengthOf 37 = .ok (.iload_n 2, 1) := by decide +kernel
theorem dX3_strengthOf_38 : decode cX3_strengthOf 38 = .ok (.invokestatic 61, 3) := by decide +kernel
theorem dX3_strengthOf_41 : decode cX3_strengthOf 41 = .ok (.isub, 1) := by decide +kernel
theorem dX3_strengthOf_42 : decode cX3_strengthOf 42 = .ok (.invokestatic 69, 3) := by decide +kernel
theorem dX3_strengthOf_45 : decode cX3_strengthOf 45 = .ok (.ireturn, 1) := by decide +kernel
set_option maxRecDepth 20000 in
theorem ggX3_weighNoises_X6_entry : GoodIn wsX3_weighNoises wsX6_entry := goodIn_r _ [8] (by decide +kernel) (by decide +kernel)
set_option maxRecDepth 20000 in
theorem gX3_weighNoises_X6_entry_n61 : GoodIn wsX3_weighNoises (wsX6_entry) := ggX3_weighNoises_X6_entry
set_option maxRecDepth 20000 in
theorem ggX3_weighNoises_X1_size : GoodIn wsX3_weighNoises wsX1_size := goodIn_r _ [12, 13, 47, 48, 49] (by decide +kernel) (by decide +kernel)
set_option maxRecDepth 20000 in
theorem gX3_weighNoises_X1_size_n86 : GoodIn wsX3_weighNoises (wsX1_size) := ggX3_weighNoises_X1_size
set_option maxRecDepth 20000 in
theorem ggX3_weighNoises_X6_hasBit : GoodIn wsX3_weighNoises wsX6_hasBit := goodIn_r _ [15] (by decide +kernel) (by decide +kernel)
set_option maxRecDepth 20000 in
theorem gX3_weighNoises_X6_hasBit_n90 : GoodIn wsX3_weighNoises (wsX6_hasBit) := ggX3_weighNoises_X6_hasBit
set_option maxRecDepth 20000 in
theorem ggX3_weighNoises_X3_strengthOf : GoodIn wsX3_weighNoises wsX3_strengthOf := goodIn_r _ [20, 2, 21, 22, 23, 24, 25, 26, 10, 27, 28, 29, 30, 31, 32, 33, 6, 7, 8, 36, 37, 38, 39, 40, 41, 42, 43, 44, 45, 46, 47, 48, 49] (by decide +kernel) (by decide +kernel)
set_option maxRecDepth 20000 in
theorem gX3_weighNoises_X3_strengthOf : GoodIn wsX3_weighNoises (wsV RX3 94 RX3 yX3_strengthOf wsX3_strengthOf) := goodIn_app (goodIn_of _ (by decide +kernel)) ggX3_weighNoises_X3_strengthOf
set_option maxRecDepth 20000 in
theorem ggX3_weighNoises_X6_put : GoodIn wsX3_weighNoises wsX6_put := goodIn_r _ [35] (by decide +kernel) (by decide +kernel)
set_option maxRecDepth 20000 in
theorem gX3_weighNoises_X6_put_n75 : GoodIn wsX3_weighNoises (wsX6_put) := ggX3_weighNoises_X6_put
theorem dX3_weighNoises_0 : decode cX3_weighNoises 0 = .ok (.aload_n 0, 1) := by decide +kernel
theorem dX3_weighNoises_1 : decode cX3_weighNoises 1 = .ok (.getfield 22, 3) := by decide +kernel
theorem dX3_weighNoises_4 : decode cX3_weighNoises 4 = .ok (.iload_n 1, 1) := by decide +kernel
theorem dX3_weighNoises_5 : decode cX3_weighNoises 5 = .ok (.invokestatic 61, 3) := by decide +kernel
theorem dX3_weighNoises_8 : decode cX3_weighNoises 8 = .ok (.istore_n 2, 1) := by decide +kernel
theorem dX3_weighNoises_9 : decode cX3_weighNoises 9 = .ok (.iconst (-1), 1) := by decide +kernel
theorem dX3_weighNoises_10 : decode cX3_weighNoises 10 = .ok (.istore_n 3, 1) := by decide +kernel
theorem dX3_weighNoises_11 : decode cX3_weighNoises 11 = .ok (.iconst 0, 1) := by decide +kernel
theorem dX3_weighNoises_12 : decode cX3_weighNoises 12 = .ok (.istore 4, 2) := by decide +kernel
theorem dX3_weighNoises_14 : decode cX3_weighNoises 14 = .ok (.iconst 0, 1) := by decide +kernel
theorem dX3_weighNoises_15 : decode cX3_weighNoises 15 = .ok (.istore 5, 2) := by decide +kernel
theorem dX3_weighNoises_17 : decode cX3_weighNoises 17 = .ok (.iconst 0, 1) := by decide +kernel
theorem dX3_weighNoises_18 : decode cX3_weighNoises 18 = .ok (.istore 6, 2) := by decide +kernel
theorem dX3_weighNoises_20 : decode cX3_weighNoises 20 = .ok (.iload 6, 2) := by decide +kernel
theorem dX3_weighNoises_22 : decode cX3_weighNoises 22 = .ok (.aload_n 0, 1) := by decide +kernel
theorem dX3_weighNoises_23 : decode cX3_weighNoises 23 = .ok (.getfield 12, 3) := by decide +kernel
theorem dX3_weighNoises_26 : decode cX3_weighNoises 26 = .ok (.getfield 49, 3) := by decide +kernel
theorem dX3_weighNoises_29 : decode cX3_weighNoises 29 = .ok (.invokevirtual 86, 3) := by decide +kernel
theorem dX3_weighNoises_32 : decode cX3_weighNoises 32 = .ok (.if_icmp .ge 57, 3) := by decide +kernel
theorem dX3_weighNoises_35 : decode cX3_weighNoises 35 = .ok (.iload_n 2, 1) := by decide +kernel
theorem dX3_weighNoises_36 : decode cX3_weighNoises 36 = .ok (.ifCond .eq 53, 3) := by decide +kernel
theorem dX3_weighNoises_39 : decode cX3_weighNoises 39 = .ok (.iload_n 2, 1) := by decide +kernel
theorem dX3_weighNoises_40 : decode cX3_weighNoises 40 = .ok (.iload 6, 2) := by decide +kernel
theorem dX3_weighNoises_42 : decode cX3_weighNoises 42 = .ok (.invokestatic 90, 3) := by decide +kernel
theorem dX3_weighNoises_45 : decode cX3_weighNoises 45 = .ok (.ifCond .eq 13, 3) := by decide +kernel
theorem dX3_weighNoises_48 : decode cX3_weighNoises 48 = .ok (.aload_n 0, 1) := by decide +kernel
theorem dX3_weighNoises_49 : decode cX3_weighNoises 49 = .ok (.iload 6, 2) := by decide +kernel
theorem dX3_weighNoises_51 : decode cX3_weighNoises 51 = .ok (.iload_n 1, 1) := by decide +kernel
theorem dX3_weighNoises_52 : decode cX3_weighNoises 52 = .ok (.invokevirtual 94, 3) := by decide +kernel
theorem dX3_weighNoises_55 : decode cX3_weighNoises 55 = .ok (.goto 4, 3) := by decide +kernel
theorem dX3_weighNoises_58 : decode cX3_weighNoises 58 = .ok (.iconst 0, 1) := by decide +kernel
theorem dX3_weighNoises_59 : decode cX3_weighNoises 59 = .ok (.istore 7, 2) := by decide +kernel
theorem dX3_weighNoises_61 : decode cX3_weighNoises 61 = .ok (.iload 7, 2) := by decide +kernel
theorem dX3_weighNoises_63 : decode cX3_weighNoises 63 = .ok (.ifCond .le 6, 3) := by decide +kernel
theorem dX3_weighNoises_66 : decode cX3_weighNoises 66 = .ok (.iinc 5 1, 3) := by decide +kernel
theorem dX3_weighNoises_69 : decode cX3_weighNoises 69 = .ok (.iload 7, 2) := by decide +kernel
theorem dX3_weighNoises_71 : decode cX3_weighNoises 71 = .ok (.iload 4, 2) := by decide +kernel
theorem dX3_weighNoises_73 : decode cX3_weighNoises 73 = .ok (.if_icmp .le 10, 3) := by decide +kernel
theorem dX3_weighNoises_76 : decode cX3_weighNoises 76 = .ok (.iload 7, 2) := by decide +kernel
theorem dX3_weighNoises_78 : decode cX3_weighNoises 78 = .ok (.istore 4, 2) := by decide +kernel
theorem dX3_weighNoises_80 : decode cX3_weighNoises 80 = .ok (.iload 6, 2) := by decide +kernel
theorem dX3_weighNoises_82 : decode cX3_weighNoises 82 = .ok (.istore_n 3, 1) := by decide +kernel
theorem dX3_weighNoises_83 : decode cX3_weighNoises 83 = .ok (.iinc 6 1, 3) := by decide +kernel
theorem dX3_weighNoises_86 : decode cX3_weighNoises 86 = .ok (.goto (-66), 3) := by decide +kernel
theorem dX3_weighNoises_89 : decode cX3_weighNoises 89 = .ok (.aload_n 0, 1) := by decide +kernel
theorem dX3_weighNoises_90 : decode cX3_weighNoises 90 = .ok (.getfield 28, 3) := by decide +kernel
theorem dX3_weighNoises_93 : decode cX3_weighNoises 93 = .ok (.iload_n 1, 1) := by decide +kernel
theorem dX3_weighNoises_94 : decode cX3_weighNoises 94 = .ok (.iload_n 3, 1) := by decide +kernel
theorem dX3_weighNoises_95 : decode cX3_weighNoises 95 = .ok (.invokestatic 75, 3) := by decide +kernel
theorem dX3_weighNoises_98 : decode cX3_weighNoises 98 = .ok (.aload_n 0, 1) := by decide +kernel
theorem dX3_weighNoises_99 : decode cX3_weighNoises 99 = .ok (.getfield 31, 3) := by decide +kernel
theorem dX3_weighNoises_102 : decode cX3_weighNoises 102 = .ok (.iload_n 1, 1) := by decide +kernel
theorem dX3_weighNoises_103 : decode cX3_weighNoises 103 = .ok (.iload 4, 2) := by decide +kernel
theorem dX3_weighNoises_105 : decode cX3_weighNoises 105 = .ok (.invokestatic 75, 3) := by decide +kernel
theorem dX3_weighNoises_108 : decode cX3_weighNoises 108 = .ok (.aload_n 0, 1) := by decide +kernel
theorem dX3_weighNoises_109 : decode cX3_weighNoises 109 = .ok (.getfield 34, 3) := by decide +kernel
theorem dX3_weighNoises_112 : decode cX3_weighNoises 112 = .ok (.iload_n 1, 1) := by decide +kernel
theorem dX3_weighNoises_113 : decode cX3_weighNoises 113 = .ok (.iload 5, 2) := by decide +kernel
theorem dX3_weighNoises_115 : decode cX3_weighNoises 115 = .ok (.invokestatic 75, 3) := by decide +kernel
theorem dX3_weighNoises_118 : decode cX3_weighNoises 118 = .ok (.return_, 1) := by decide +kernel
set_option maxRecDepth 20000 in
theorem ggX3_markMasked_X6_entry : GoodIn wsX3_markMasked wsX6_entry := goodIn_r _ [6] (by decide +kernel) (by decide +kernel)
set_option maxRecDepth 20000 in
theorem gX3_markMasked_X6_entry_n61 : GoodIn wsX3_markMasked (wsX6_entry) := ggX3_markMasked_X6_entry
set_option maxRecDepth 20000 in
theorem ggX3_markMasked_X1_size : GoodIn wsX3_markMasked wsX1_size := goodIn_r _ [10, 11, 51, 52, 53] (by decide +kernel) (by decide +kernel)
set_option maxRecDepth 20000 in
theorem gX3_markMasked_X1_size_n86 : GoodIn wsX3_markMasked (wsX1_size) := ggX3_markMasked_X1_size
set_option maxRecDepth 20000 in
theorem ggX3_markMasked_X6_hasBit : GoodIn wsX3_markMasked wsX6_hasBit := goodIn_r _ [13] (by decide +kernel) (by decide +kernel)
set_option maxRecDepth 20000 in
theorem gX3_markMasked_X6_hasBit_n90 : GoodIn wsX3_markMasked (wsX6_hasBit) := ggX3_markMasked_X6_hasBit
set_option maxRecDepth 20000 in
theorem ggX3_markMasked_X1_numberOf : GoodIn wsX3_markMasked wsX1_numberOf := goodIn_r _ [16, 17, 51, 52, 53] (by decide +kernel) (by decide +kernel)
set_option maxRecDepth 20000 in
theorem gX3_markMasked_X1_numberOf_n79 : GoodIn wsX3_markMasked (wsX1_numberOf) := ggX3_markMasked_X1_numberOf
set_option maxRecDepth 20000 in
theorem ggX3_markMasked_X3_coverOf : GoodIn wsX3_markMasked wsX3_coverOf := goodIn_r _ [22, 23, 24, 1, 2, 25, 26, 27, 28, 4, 5, 6, 7, 8, 9, 10, 11, 12, 13, 14, 15, 16, 17, 29, 30, 31, 21, 32, 33, 34, 35, 36, 37, 40, 41, 42, 43, 44, 45, 46, 47, 48, 49, 50, 51, 52, 53] (by decide +kernel) (by decide +kernel)
set_option maxRecDepth 20000 in
theorem gX3_markMasked_X3_coverOf : GoodIn wsX3_markMasked (wsV RX3 97 RX3 yX3_coverOf wsX3_coverOf) := goodIn_app (goodIn_of _ (by decide +kernel)) ggX3_markMasked_X3_coverOf
set_option maxRecDepth 20000 in
theorem ggX3_markMasked_X4_settingOf : GoodIn wsX3_markMasked wsX4_settingOf := goodIn_r _ [36, 37, 48, 49, 50] (by decide +kernel) (by decide +kernel)
set_option maxRecDepth 20000 in
theorem gX3_markMasked_X4_settingOf_n65 : GoodIn wsX3_markMasked (wsX4_settingOf) := ggX3_markMasked_X4_settingOf
set_option maxRecDepth 20000 in
theorem ggX3_markMasked_X6_put : GoodIn wsX3_markMasked wsX6_put := goodIn_r _ [39] (by decide +kernel) (by decide +kernel)
set_option maxRecDepth 20000 in
theorem gX3_markMasked_X6_put_n75 : GoodIn wsX3_markMasked (wsX6_put) := ggX3_markMasked_X6_put
theorem dX3_markMasked_0 : decode cX3_markMasked 0 = .ok (.iconst 0, 1) := by decide +kernel
theorem dX3_markMasked_1 : decode cX3_markMasked 1 = .ok (.istore_n 2, 1) := by decide +kernel
theorem dX3_markMasked_2 : decode cX3_markMasked 2 = .ok (.aload_n 0, 1) := by decide +kernel
theorem dX3_markMasked_3 : decode cX3_markMasked 3 = .ok (.getfield 18, 3) := by decide +kernel
theorem dX3_markMasked_6 : decode cX3_markMasked 6 = .ok (.iload_n 1, 1) := by decide +kernel
theorem dX3_markMasked_7 : decode cX3_markMasked 7 = .ok (.invokestatic 61, 3) := by decide +kernel
theorem dX3_markMasked_10 : decode cX3_markMasked 10 = .ok (.istore_n 3, 1) := by decide +kernel
theorem dX3_markMasked_11 : decode cX3_markMasked 11 = .ok (.iconst 0, 1) := by decide +kernel
theorem dX3_markMasked_12 : decode cX3_markMasked 12 = .ok (.istore 4, 2) := by decide +kernel
theorem dX3_markMasked_14 : decode cX3_markMasked 14 = .ok (.iload 4, 2) := by decide +kernel
theorem dX3_markMasked_16 : decode cX3_markMasked 16 = .ok (.aload_n 0, 1) := by decide +kernel
theorem dX3_markMasked_17 : decode cX3_markMasked 17 = .ok (.getfield 12, 3) := by decide +kernel
theorem dX3_markMasked_20 : decode cX3_markMasked 20 = .ok (.getfield 40, 3) := by decide +kernel
theorem dX3_markMasked_23 : decode cX3_markMasked 23 = .ok (.invokevirtual 86, 3) := by decide +kernel
theorem dX3_markMasked_26 : decode cX3_markMasked 26 = .ok (.if_icmp .ge 61, 3) := by decide +kernel
theorem dX3_markMasked_29 : decode cX3_markMasked 29 = .ok (.iload_n 3, 1) := by decide +kernel
theorem dX3_markMasked_30 : decode cX3_markMasked 30 = .ok (.ifCond .eq 57, 3) := by decide +kernel
theorem dX3_markMasked_33 : decode cX3_markMasked 33 = .ok (.iload_n 3, 1) := by decide +kernel
theorem dX3_markMasked_34 : decode cX3_markMasked 34 = .ok (.iload 4, 2) := by decide +kernel
theorem dX3_markMasked_36 : decode cX3_markMasked 36 = .ok (.invokestatic 90, 3) := by decide +kernel
theorem dX3_markMasked_39 : decode cX3_markMasked 39 = .ok (.ifCond .eq 42, 3) := by decide +kernel
theorem dX3_markMasked_42 : decode cX3_markMasked 42 = .ok (.aload_n 0, 1) := by decide +kernel
theorem dX3_markMasked_43 : decode cX3_markMasked 43 = .ok (.getfield 12, 3) := by decide +kernel
theorem dX3_markMasked_46 : decode cX3_markMasked 46 = .ok (.getfield 40, 3) := by decide +kernel
theorem dX3_markMasked_49 : decode cX3_markMasked 49 = .ok (.iload 4, 2) := by decide +kernel
theorem dX3_markMasked_51 : decode cX3_markMasked 51 = .ok (.iconst 2, 1) := by decide +kernel
theorem dX3_markMasked_52 : decode cX3_markMasked 52 = .ok (.invokevirtual 79, 3) := by decide +kernel
theorem dX3_markMasked_55 : decode cX3_markMasked 55 = .ok (.aload_n 0, 1) := by decide +kernel
theorem dX3_markMasked_56 : decode cX3_markMasked 56 = .ok (.iload 4, 2) := by decide +kernel
theorem dX3_markMasked_58 : decode cX3_markMasked 58 = .ok (.iload_n 1, 1) := by decide +kernel
theorem dX3_markMasked_59 : decode cX3_markMasked 59 = .ok (.invokevirtual 97, 3) := by decide +kernel
theorem dX3_markMasked_62 : decode cX3_markMasked 62 = .ok (.aload_n 0, 1) := by decide +kernel
theorem dX3_markMasked_63 : decode cX3_markMasked 63 = .ok (.getfield 12, 3) := by decide +kernel
theorem dX3_markMasked_66 : decode cX3_markMasked 66 = .ok (.iconst 3, 1) := by decide +kernel
theorem dX3_markMasked_67 : decode cX3_markMasked 67 = .ok (.invokevirtual 65, 3) := by decide +kernel
theorem dX3_markMasked_70 : decode cX3_markMasked 70 = .ok (.iadd, 1) := by decide +kernel
theorem dX3_markMasked_71 : decode cX3_markMasked 71 = .ok (.if_icmp .ge 10, 3) := by decide +kernel
theorem dX3_markMasked_74 : decode cX3_markMasked 74 = .ok (.iload_n 2, 1) := by decide +kernel
theorem dX3_markMasked_75 : decode cX3_markMasked 75 = .ok (.iconst 1, 1) := by decide +kernel
theorem dX3_markMasked_76 : decode cX3_markMasked 76 = .ok (.iload 4, 2) := by decide +kernel
theorem dX3_markMasked_78 : decode cX3_markMasked 78 = .ok (.ishl, 1) := by decide +kernel
theorem dX3_markMasked_79 : decode cX3_markMasked 79 = .ok (.ior, 1) := by decide +kernel
theorem dX3_markMasked_80 : decode cX3_markMasked 80 = .ok (.istore_n 2, 1) := by decide +kernel
theorem dX3_markMasked_81 : decode cX3_markMasked 81 = .ok (.iinc 4 1, 3) := by decide +kernel
theorem dX3_markMasked_84 : decode cX3_markMasked 84 = .ok (.goto (-70), 3) := by decide +kernel
theorem dX3_markMasked_87 : decode cX3_markMasked 87 = .ok (.aload_n 0, 1) := by decide +kernel
theorem dX3_markMasked_88 : decode cX3_markMasked 88 = .ok (.getfield 37, 3) := by decide +kernel
theorem dX3_markMasked_91 : decode cX3_markMasked 91 = .ok (.iload_n 1, 1) := by decide +kernel
theorem dX3_markMasked_92 : decode cX3_markMasked 92 = .ok (.iload_n 2, 1) := by decide +kernel
theorem dX3_markMasked_93 : decode cX3_markMasked 93 = .ok (.invokestatic 75, 3) := by decide +kernel
theorem dX3_markMasked_96 : decode cX3_markMasked 96 = .ok (.return_, 1) := by decide +kernel
set_option maxRecDepth 20000 in
theorem ggX3_coverOf_X6_entry : GoodIn wsX3_coverOf wsX6_entry := goodIn_r _ [11] (by decide +kernel) (by decide +kernel)
set_option maxRecDepth 20000 in
theorem gX3_coverOf_X6_entry_n61 : GoodIn wsX3_coverOf (wsX6_entry) := ggX3_coverOf_X6_entry
set_option maxRecDepth 20000 in
theorem ggX3_coverOf_X1_size : GoodIn wsX3_coverOf wsX1_size := goodIn_r _ [15, 16, 44, 45, 46] (by decide +kernel) (by decide +kernel)
set_option maxRecDepth 20000 in
theorem gX3_coverOf_X1_size_n86 : GoodIn wsX3_coverOf (wsX1_size) := ggX3_coverOf_X1_size
set_option maxRecDepth 20000 in
theorem ggX3_coverOf_X6_hasBit : GoodIn wsX3_coverOf wsX6_hasBit := goodIn_r _ [18] (by decide +kernel) (by decide +kernel)
set_option maxRecDepth 20000 in
theorem gX3_coverOf_X6_hasBit_n90 : GoodIn wsX3_coverOf (wsX6_hasBit) := ggX3_coverOf_X6_hasBit
set_option maxRecDepth 20000 in
theorem ggX3_coverOf_X1_numberOf : GoodIn wsX3_coverOf wsX1_numberOf := goodIn_r _ [21, 22, 44, 45, 46] (by decide +kernel) (by decide +kernel)
set_option maxRecDepth 20000 in
theorem gX3_coverOf_X1_numberOf_n79 : GoodIn wsX3_coverOf (wsX1_numberOf) := ggX3_coverOf_X1_numberOf
set_option maxRecDepth 20000 in
theorem ggX3_coverOf_X3_level : GoodIn wsX3_coverOf wsX3_level := goodIn_r _ [27, 4, 28, 29, 30, 31, 32, 33, 34, 35, 36, 37, 38, 39, 40, 41, 42, 43] (by decide +kernel) (by decide +kernel)
set_option maxRecDepth 20000 in
theorem gX3_coverOf_X3_level : GoodIn wsX3_coverOf (wsV RX3 100 RX3 yX3_level wsX3_level) := goodIn_app (goodIn_of _ (by decide +kernel)) ggX3_coverOf_X3_level
theorem dX3_coverOf_0 : decode cX3_coverOf 0 = .ok (.aload_n 0, 1) := by decide +kernel
theorem dX3_coverOf_1 : decode cX3_coverOf 1 = .ok (.getfield 31, 3) := by decide +kernel
theorem dX3_coverOf_4 : decode cX3_coverOf 4 = .ok (.iload_n 2, 1) := by decide +kernel
theorem dX3_coverOf_5 : decode cX3_coverOf 5 = .ok (.invokestatic 61, 3) := by decide +kernel
theorem dX3_coverOf_8 : decode cX3_coverOf 8 = .ok (.istore_n 3, 1) := by decide +kernel
theorem dX3_coverOf_9 : decode cX3_coverOf 9 = .ok (.aload_n 0, 1) := by decide +kernel
theorem dX3_coverOf_10 : decode cX3_coverOf 10 = .ok (.getfield 34, 3) := by decide +kernel
theorem dX3_coverOf_13 : decode cX3_coverOf 13 = .ok (.iload_n 2, 1) := by decide +kernel
theorem dX3_coverOf_14 : decode cX3_coverOf 14 = .ok (.invokestatic 61, 3) := by decide +kernel
theorem dX3_coverOf_17 : decode cX3_coverOf 17 = .ok (.istore 4, 2) := by decide +kernel
theorem dX3_coverOf_19 : decode cX3_coverOf 19 = .ok (.aload_n 0, 1) := by decide +kernel
theorem dX3_coverOf_20 : decode cX3_coverOf 20 = .ok (.getfield 18, 3) := by decide +kernel
theorem dX3_coverOf_23 : decode cX3_coverOf 23 = .ok (.iload_n 2, 1) := by decide +kernel
theorem dX3_coverOf_24 : decode cX3_coverOf 24 = .ok (.invokestatic 61, 3) := by decide +kernel
theorem dX3_coverOf_27 : decode cX3_coverOf 27 = .ok (.istore 5, 2) := by decide +kernel
theorem dX3_coverOf_29 : decode cX3_coverOf 29 = .ok (.iconst 0, 1) := by decide +kernel
theorem dX3_coverOf_30 : decode cX3_coverOf 30 = .ok (.istore 6, 2) := by decide +kernel
theorem dX3_coverOf_32 : decode cX3_coverOf 32 = .ok (.iload 6, 2) := by decide +kernel
theorem dX3_coverOf_34 : decode cX3_coverOf 34 = .ok (.aload_n 0, 1) := by decide +kernel
theorem dX3_coverOf_35 : decode cX3_coverOf 35 = .ok (.getfield 12, 3) := by decide +kernel
theorem dX3_coverOf_38 : decode cX3_coverOf 38 = .ok (.getfield 40, 3) := by decide +kernel
theorem dX3_coverOf_41 : decode cX3_coverOf 41 = .ok (.invokevirtual 86, 3) := by decide +kernel
theorem dX3_coverOf_44 : decode cX3_coverOf 44 = .ok (.if_icmp .ge 46, 3) := by decide +kernel
theorem dX3_coverOf_47 : decode cX3_coverOf 47 = .ok (.iload 6, 2) := by decide +kernel
theorem dX3_coverOf_49 : decode cX3_coverOf 49 = .ok (.iload_n 1, 1) := by decide +kernel
theorem dX3_coverOf_50 : decode cX3_coverOf 50 = .ok (.if_icmp .eq 34, 3) := by decide +kernel
theorem dX3_coverOf_53 : decode cX3_coverOf 53 = .ok (.iload 5, 2) := by decide +kernel
theorem dX3_coverOf_55 : decode cX3_coverOf 55 = .ok (.iload 6, 2) := by decide +kernel
theorem dX3_coverOf_57 : decode cX3_coverOf 57 = .ok (.invokestatic 90, 3) := by decide +kernel
theorem dX3_coverOf_60 : decode cX3_coverOf 60 = .ok (.ifCond .eq 24, 3) := by decide +kernel
theorem dX3_coverOf_63 : decode cX3_coverOf 63 = .ok (.iload_n 3, 1) := by decide +kernel
theorem dX3_coverOf_64 : decode cX3_coverOf 64 = .ok (.aload_n 0, 1) := by decide +kernel
theorem dX3_coverOf_65 : decode cX3_coverOf 65 = .ok (.getfield 12, 3) := by decide +kernel
theorem dX3_coverOf_68 : decode cX3_coverOf 68 = .ok (.getfield 40, 3) := by decide +kernel
theorem dX3_coverOf_71 : decode cX3_coverOf 71 = .ok (.iload 6, 2) := by decide +kernel
theorem dX3_coverOf_73 : decode cX3_coverOf 73 = .ok (.iconst 2, 1) := by decide +kernel
theorem dX3_coverOf_74 : decode cX3_coverOf 74 = .ok (.invokevirtual 79, 3) := by decide +kernel
theorem dX3_coverOf_77 : decode cX3_coverOf 77 = .ok (.invokestatic 69, 3) := by decide +kernel
theorem dX3_coverOf_80 : decode cX3_coverOf 80 = .ok (.istore_n 3, 1) := by decide +kernel
theorem dX3_coverOf_81 : decode cX3_coverOf 81 = .ok (.iinc 4 1, 3) := by decide +kernel
theorem dX3_coverOf_84 : decode cX3_coverOf 84 = .ok (.iinc 6 1, 3) := by decide +kernel
theorem dX3_coverOf_87 : decode cX3_coverOf 87 = .ok (.goto (-55), 3) := by decide +kernel
theorem dX3_coverOf_90 : decode cX3_coverOf 90 = .ok (.aload_n 0, 1) := by decide +kernel
theorem dX3_coverOf_91 : decode cX3_coverOf 91 = .ok (.iload_n 3, 1) := by decide +kernel
theorem dX3_coverOf_92 : decode cX3_coverOf 92 = .ok (.iload 4, 2) := by decide +kernel
theorem dX3_coverOf_94 : decode cX3_coverOf 94 = .ok (.invokevirtual 100, 3) := by decide +kernel
theorem dX3_coverOf_97 : decode cX3_coverOf 97 = .ok (.ireturn, 1) := by decide +kernel
set_option maxRecDepth 20000 in
theorem ggX3_level_X4_settingOf : GoodIn wsX3_level wsX4_settingOf := goodIn_r _ [5, 6, 15, 16, 17] (by decide +kernel) (by decide +kernel)
set_option maxRecDepth 20000 in
theorem gX3_level_X4_settingOf_n65 : GoodIn wsX3_level (wsX4_settingOf) := ggX3_level_X4_settingOf
theorem dX3_level_0 : decode cX3_level 0 = .ok (.iload_n 2, 1) := by decide +kernel
theorem dX3_level_1 : decode cX3_level 1 = .ok (.ifCond .le 20, 3) := by decide +kernel
theorem dX3_level_4 : decode cX3_level 4 = .ok (.iload_n 1, 1) := by decide +kernel
theorem dX3_level_5 : decode cX3_level 5 = .ok (.aload_n 0, 1) := by decide +kernel
theorem dX3_level_6 : decode cX3_level 6 = .ok (.getfield 12, 3) := by decide +kernel
theorem dX3_level_9 : decode cX3_level 9 = .ok (.iconst 2, 1) := by decide +kernel
theorem dX3_level_10 : decode cX3_level 10 = .ok (.invokevirtual 65, 3) := by decide +kernel
theorem dX3_level_13 : decode cX3_level 13 = .ok (.iload_n 2, 1) := by decide +kernel
theorem dX3_level_14 : decode cX3_level 14 = .ok (.iconst 1, 1) := by decide +kernel
theorem dX3_level_15 : decode cX3_level 15 = .ok (.isub, 1) := by decide +kernel
theorem dX3_level_16 : decode cX3_level 16 = .ok (.imul, 1) := by decide +kernel
theorem dX3_level_17 : decode cX3_level 17 = .ok (.iadd, 1) := by decide +kernel
theorem dX3_level_18 : decode cX3_level 18 = .ok (.goto 4, 3) := by decide +kernel
theorem dX3_level_21 : decode cX3_level 21 = .ok (.iconst 0, 1) := by decide +kernel
theorem dX3_level_22 : decode cX3_level 22 = .ok (.ireturn, 1) := by decide +kernel
set_option maxRecDepth 20000 in
theorem ggX3_noiseLevel_X6_entry : GoodIn wsX3_noiseLevel wsX6_entry := goodIn_r _ [5] (by decide +kernel) (by decide +kernel)
set_option maxRecDepth 20000 in
theorem gX3_noiseLevel_X6_entry_n61 : GoodIn wsX3_noiseLevel (wsX6_entry) := ggX3_noiseLevel_X6_entry
set_option maxRecDepth 20000 in
theorem ggX3_noiseLevel_X3_level : GoodIn wsX3_noiseLevel wsX3_level := goodIn_r _ [10, 11, 12, 13, 14, 15, 16, 17, 18, 19, 20, 21, 22, 23, 24, 25, 26, 27] (by decide +kernel) (by decide +kernel)
set_option maxRecDepth 20000 in
theorem gX3_noiseLevel_X3_level : GoodIn wsX3_noiseLevel (wsV RX3 100 RX3 yX3_level wsX3_level) := goodIn_app (goodIn_of _ (by decide +kernel)) ggX3_noiseLevel_X3_level
theorem dX3_noiseLevel_0 : decode cX3_noiseLevel 0 = .ok (.aload_n 0, 1) := by decide +kernel
theorem dX3_noiseLevel_1 : decode cX3_noiseLevel 1 = .ok (.aload_n 0, 1) := by decide +kernel
theorem dX3_noiseLevel_2 : decode cX3_noiseLevel 2 = .ok (.getfield 31, 3) := by decide +kernel
theorem dX3_noiseLevel_5 : decode cX3_noiseLevel 5 = .ok (.iload_n 1, 1) := by decide +kernel
theorem dX3_noiseLevel_6 : decode cX3_noiseLevel 6 = .ok (.invokestatic 61, 3) := by decide +kernel
theorem dX3_noiseLevel_9 : decode cX3_noiseLevel 9 = .ok (.aload_n 0, 1) := by decide +kernel
theorem dX3_noiseLevel_10 : decode cX3_noiseLevel 10 = .ok (.getfield 34, 3) := by decide +kernel
theorem dX3_noiseLevel_13 : decode cX3_noiseLevel 13 = .ok (.iload_n 1, 1) := by decide +kernel
theorem dX3_noiseLevel_14 : decode cX3_noiseLevel 14 = .ok (.invokestatic 61, 3) := by decide +kernel
theorem dX3_noiseLevel_17 : decode cX3_noiseLevel 17 = .ok (.invokevirtual 100, 3) := by decide +kernel
theorem dX3_noiseLevel_20 : decode cX3_noiseLevel 20 = .ok (.ireturn, 1) := by decide +kernel
set_option maxRecDepth 20000 in
theorem ggX3_maskedSecondsOf_X6_entry : GoodIn wsX3_maskedSecondsOf wsX6_entry := goodIn_r _ [4] (by decide +kernel) (by decide +kernel)
set_option maxRecDepth 20000 in
theorem gX3_maskedSecondsOf_X6_entry_n61 : GoodIn wsX3_maskedSecondsOf (wsX6_entry) := ggX3_maskedSecondsOf_X6_entry
set_option maxRecDepth 20000 in
theorem ggX3_maskedSecondsOf_X6_hasBit : GoodIn wsX3_maskedSecondsOf wsX6_hasBit := goodIn_r _ [6] (by decide +kernel) (by decide +kernel)
set_option maxRecDepth 20000 in
theorem gX3_maskedSecondsOf_X6_hasBit_n90 : GoodIn wsX3_maskedSecondsOf (wsX6_hasBit) := ggX3_maskedSecondsOf_X6_hasBit
theorem dX3_maskedSecondsOf_0 : decode cX3_maskedSecondsOf 0 = .ok (.iconst 0, 1) := by decide +kernel
theorem dX3_maskedSecondsOf_1 : decode cX3_maskedSecondsOf 1 = .ok (.istore_n 2, 1) := by decide +kernel
theorem dX3_maskedSecondsOf_2 : decode cX3_maskedSecondsOf 2 = .ok (.iconst 0, 1) := by decide +kernel
theorem dX3_maskedSecondsOf_3 : decode cX3_maskedSecondsOf 3 = .ok (.istore_n 3, 1) := by decide +kernel
theorem dX3_maskedSecondsOf_4 : decode cX3_maskedSecondsOf 4 = .ok (.iload_n 3, 1) := by decide +kernel
theorem dX3_maskedSecondsOf_5 : decode cX3_maskedSecondsOf 5 = .ok (.bipush 120, 2) := by decide +kernel
theorem dX3_maskedSecondsOf_7 : decode cX3_maskedSecondsOf 7 = .ok (.if_icmp .ge 27, 3) := by decide +kernel
theorem dX3_maskedSecondsOf_10 : decode cX3_maskedSecondsOf 10 = .ok (.aload_n 0, 1) := by decide +kernel
theorem dX3_maskedSecondsOf_11 : decode cX3_maskedSecondsOf 11 = .ok (.getfield 37, 3) := by decide +kernel
theorem dX3_maskedSecondsOf_14 : decode cX3_maskedSecondsOf 14 = .ok (.iload_n 3, 1) := by decide +kernel
theorem dX3_maskedSecondsOf_15 : decode cX3_maskedSecondsOf 15 = .ok (.invokestatic 61, 3) := by decide +kernel
theorem dX3_maskedSecondsOf_18 : decode cX3_maskedSecondsOf 18 = .ok (.iload_n 1, 1) := by decide +kernel
theorem dX3_maskedSecondsOf_19 : decode cX3_maskedSecondsOf 19 = .ok (.invokestatic 90, 3) := by decide +kernel
theorem dX3_maskedSecondsOf_22 : decode cX3_maskedSecondsOf 22 = .ok (.ifCond .eq 6, 3) := by decide +kernel
theorem dX3_maskedSecondsOf_25 : decode cX3_maskedSecondsOf 25 = .ok (.iinc 2 1, 3) := by decide +kernel
theorem dX3_maskedSecondsOf_28 : decode cX3_maskedSecondsOf 28 = .ok (.iinc 3 1, 3) := by decide +kernel
theorem dX3_maskedSecondsOf_31 : decode cX3_maskedSecondsOf 31 = .ok (.goto (-27), 3) := by decide +kernel
theorem dX3_maskedSecondsOf_34 : decode cX3_maskedSecondsOf 34 = .ok (.iload_n 2, 1) := by decide +kernel
theorem dX3_maskedSecondsOf_35 : decode cX3_maskedSecondsOf 35 = .ok (.ireturn, 1) := by decide +kernel
set_option maxRecDepth 20000 in
theorem ggX3_maskedSeconds_X6_entry : GoodIn wsX3_maskedSeconds wsX6_entry := goodIn_r _ [4] (by decide +kernel) (by decide +kernel)
set_option maxRecDepth 20000 in
theorem gX3_maskedSeconds_X6_entry_n61 : GoodIn wsX3_maskedSeconds (wsX6_entry) := ggX3_maskedSeconds_X6_entry
set_option maxRecDepth 20000 in
theorem ggX3_maskedSeconds_J6_bitCount_0f7a4 : GoodIn wsX3_maskedSeconds wsJ6_bitCount_0f7a4 := goodIn_r _ [8, 9, 10, 11] (by decide +kernel) (by decide +kernel)
set_option maxRecDepth 20000 in
theorem gX3_maskedSeconds_J6_bitCount_0f7a4 : GoodIn wsX3_maskedSeconds (va_wsS RX3 103 yJ6_bitCount_0f7a4 wsJ6_bitCount_0f7a4) := goodIn_app (goodIn_of _ (by decide +kernel)) ggX3_maskedSeconds_J6_bitCount_0f7a4
theorem dX3_maskedSeconds_0 : decode cX3_maskedSeconds 0 = .ok (.iconst 0, 1) := by decide +kernel
theorem dX3_maskedSeconds_1 : decode cX3_maskedSeconds 1 = .ok (.istore_n 1, 1) := by decide +kernel
theorem dX3_maskedSeconds_2 : decode cX3_maskedSeconds 2 = .ok (.iconst 0, 1) := by decide +kernel
theorem dX3_maskedSeconds_3 : decode cX3_maskedSeconds 3 = .ok (.istore_n 2, 1) := by decide +kernel
theorem dX3_maskedSeconds_4 : decode cX3_maskedSeconds 4 = .ok (.iload_n 2, 1) := by decide +kernel
theorem dX3_maskedSeconds_5 : decode cX3_maskedSeconds 5 = .ok (.bipush 120, 2) := by decide +kernel
theorem dX3_maskedSeconds_7 : decode cX3_maskedSeconds 7 = .ok (.if_icmp .ge 23, 3) := by decide +kernel
theorem dX3_maskedSeconds_10 : decode cX3_maskedSeconds 10 = .ok (.iload_n 1, 1) := by decide +kernel
theorem dX3_maskedSeconds_11 : decode cX3_maskedSeconds 11 = .ok (.aload_n 0, 1) := by decide +kernel
theorem dX3_maskedSeconds_12 : decode cX3_maskedSeconds 12 = .ok (.getfield 37, 3) := by decide +kernel
theorem dX3_maskedSeconds_15 : decode cX3_maskedSeconds 15 = .ok (.iload_n 2, 1) := by decide +kernel
theorem dX3_maskedSeconds_16 : decode cX3_maskedSeconds 16 = .ok (.invokestatic 61, 3) := by decide +kernel
theorem dX3_maskedSeconds_19 : decode cX3_maskedSeconds 19 = .ok (.invokestatic 103, 3) := by decide +kernel
theorem dX3_maskedSeconds_22 : decode cX3_maskedSeconds 22 = .ok (.iadd, 1) := by decide +kernel
theorem dX3_maskedSeconds_23 : decode cX3_maskedSeconds 23 = .ok (.istore_n 1, 1) := by decide +kernel
theorem dX3_maskedSeconds_24 : decode cX3_maskedSeconds 24 = .ok (.iinc 2 1, 3) := by decide +kernel
theorem dX3_maskedSeconds_27 : decode cX3_maskedSeconds 27 = .ok (.goto (-23), 3) := by decide +kernel
theorem dX3_maskedSeconds_30 : decode cX3_maskedSeconds 30 = .ok (.iload_n 1, 1) := by decide +kernel
theorem dX3_maskedSeconds_31 : decode cX3_maskedSeconds 31 = .ok (.ireturn, 1) := by decide +kernel
set_option maxRecDepth 20000 in
theorem ggX3_firstMaskedOf_X6_entry : GoodIn wsX3_firstMaskedOf wsX6_entry := goodIn_r _ [4] (by decide +kernel) (by decide +kernel)
set_option maxRecDepth 20000 in
theorem gX3_firstMaskedOf_X6_entry_n61 : GoodIn wsX3_firstMaskedOf (wsX6_entry) := ggX3_firstMaskedOf_X6_entry
set_option maxRecDepth 20000 in
theorem ggX3_firstMaskedOf_X6_hasBit : GoodIn wsX3_firstMaskedOf wsX6_hasBit := goodIn_r _ [6] (by decide +kernel) (by decide +kernel)
set_option maxRecDepth 20000 in
theorem gX3_firstMaskedOf_X6_hasBit_n90 : GoodIn wsX3_firstMaskedOf (wsX6_hasBit) := ggX3_firstMaskedOf_X6_hasBit
theorem dX3_firstMaskedOf_0 : decode cX3_firstMaskedOf 0 = .ok (.iconst 0, 1) := by decide +kernel
theorem dX3_firstMaskedOf_1 : decode cX3_firstMaskedOf 1 = .ok (.istore_n 2, 1) := by decide +kernel
theorem dX3_firstMaskedOf_2 : decode cX3_firstMaskedOf 2 = .ok (.iload_n 2, 1) := by decide +kernel
theorem dX3_firstMaskedOf_3 : decode cX3_firstMaskedOf 3 = .ok (.bipush 120, 2) := by decide +kernel
theorem dX3_firstMaskedOf_5 : decode cX3_firstMaskedOf 5 = .ok (.if_icmp .ge 26, 3) := by decide +kernel
theorem dX3_firstMaskedOf_8 : decode cX3_firstMaskedOf 8 = .ok (.aload_n 0, 1) := by decide +kernel
theorem dX3_firstMaskedOf_9 : decode cX3_firstMaskedOf 9 = .ok (.getfield 37, 3) := by decide +kernel
theorem dX3_firstMaskedOf_12 : decode cX3_firstMaskedOf 12 = .ok (.iload_n 2, 1) := by decide +kernel
theorem dX3_firstMaskedOf_13 : decode cX3_firstMaskedOf 13 = .ok (.invokestatic 61, 3) := by decide +kernel
theorem dX3_firstMaskedOf_16 : decode cX3_firstMaskedOf 16 = .ok (.iload_n 1, 1) := by decide +kernel
theorem dX3_firstMaskedOf_17 : decode cX3_firstMaskedOf 17 = .ok (.invokestatic 90, 3) := by decide +kernel
theorem dX3_firstMaskedOf_20 : decode cX3_firstMaskedOf 20 = .ok (.ifCond .eq 5, 3) := by decide +kernel
theorem dX3_firstMaskedOf_23 : decode cX3_firstMaskedOf 23 = .ok (.iload_n 2, 1) := by decide +kernel
theorem dX3_firstMaskedOf_24 : decode cX3_firstMaskedOf 24 = .ok (.ireturn, 1) := by decide +kernel
theorem dX3_firstMaskedOf_25 : decode cX3_firstMaskedOf 25 = .ok (.iinc 2 1, 3) := by decide +kernel
theorem dX3_firstMaskedOf_28 : decode cX3_firstMaskedOf 28 = .ok (.goto (-26), 3) := by decide +kernel
theorem dX3_firstMaskedOf_31 : decode cX3_firstMaskedOf 31 = .ok (.iconst (-1), 1) := by decide +kernel
theorem dX3_firstMaskedOf_32 : decode cX3_firstMaskedOf 32 = .ok (.ireturn, 1) := by decide +kernel
set_option maxRecDepth 20000 in
theorem ggX3_isUnderstood_X3_maskedSecondsOf : GoodIn wsX3_isUnderstood wsX3_maskedSecondsOf := goodIn_r _ [6, 7, 8, 9, 10, 11, 12, 18, 19, 20, 21, 22, 23, 24, 25] (by decide +kernel) (by decide +kernel)
set_option maxRecDepth 20000 in
theorem gX3_isUnderstood_X3_maskedSecondsOf : GoodIn wsX3_isUnderstood (wsV RX3 108 RX3 yX3_maskedSecondsOf wsX3_maskedSecondsOf) := goodIn_app (goodIn_of _ (by decide +kernel)) ggX3_isUnderstood_X3_maskedSecondsOf
set_option maxRecDepth 20000 in
theorem ggX3_isUnderstood_X4_settingOf : GoodIn wsX3_isUnderstood wsX4_settingOf := goodIn_r _ [16, 17, 26, 27, 28] (by decide +kernel) (by decide +kernel)
set_option maxRecDepth 20000 in
theorem gX3_isUnderstood_X4_settingOf_n65 : GoodIn wsX3_isUnderstood (wsX4_settingOf) := ggX3_isUnderstood_X4_settingOf
theorem dX3_isUnderstood_0 : decode cX3_isUnderstood 0 = .ok (.aload_n 0, 1) := by decide +kernel
theorem dX3_isUnderstood_1 : decode cX3_isUnderstood 1 = .ok (.iload_n 1, 1) := by decide +kernel
theorem dX3_isUnderstood_2 : decode cX3_isUnderstood 2 = .ok (.invokevirtual 108, 3) := by decide +kernel
theorem dX3_isUnderstood_5 : decode cX3_isUnderstood 5 = .ok (.aload_n 0, 1) := by decide +kernel
theorem dX3_isUnderstood_6 : decode cX3_isUnderstood 6 = .ok (.getfield 12, 3) := by decide +kernel
theorem dX3_isUnderstood_9 : decode cX3_isUnderstood 9 = .ok (.iconst 4, 1) := by decide +kernel
theorem dX3_isUnderstood_10 : decode cX3_isUnderstood 10 = .ok (.invokevirtual 65, 3) := by decide +kernel
theorem dX3_isUnderstood_13 : decode cX3_isUnderstood 13 = .ok (.if_icmp .gt 7, 3) := by decide +kernel
theorem dX3_isUnderstood_16 : decode cX3_isUnderstood 16 = .ok (.iconst 1, 1) := by decide +kernel
theorem dX3_isUnderstood_17 : decode cX3_isUnderstood 17 = .ok (.goto 4, 3) := by decide +kernel
theorem dX3_isUnderstood_20 : decode cX3_isUnderstood 20 = .ok (.iconst 0, 1) := by decide +kernel
theorem dX3_isUnderstood_21 : decode cX3_isUnderstood 21 = .ok (.ireturn, 1) := by decide +kernel
set_option maxRecDepth 20000 in
theorem ggX3_understood_X1_size : GoodIn wsX3_understood wsX1_size := goodIn_r _ [5, 6, 38, 39, 40] (by decide +kernel) (by decide +kernel)
set_option maxRecDepth 20000 in
theorem gX3_understood_X1_size_n86 : GoodIn wsX3_understood (wsX1_size) := ggX3_understood_X1_size
set_option maxRecDepth 20000 in
theorem ggX3_understood_X3_isUnderstood : GoodIn wsX3_understood wsX3_isUnderstood := goodIn_r _ [11, 1, 12, 13, 14, 10, 15, 16, 17, 18, 19, 20, 21, 22, 23, 24, 25, 26, 27, 28, 29, 30, 31, 32, 33, 34, 35, 36, 37] (by decide +kernel) (by decide +kernel)
set_option maxRecDepth 20000 in
theorem gX3_understood_X3_isUnderstood : GoodIn wsX3_understood (wsV RX3 111 RX3 yX3_isUnderstood wsX3_isUnderstood) := goodIn_app (goodIn_of _ (by decide +kernel)) ggX3_understood_X3_isUnderstood
theorem dX3_understood_0 : decode cX3_understood 0 = .ok (.iconst 0, 1) := by decide +kernel
theorem dX3_understood_1 : decode cX3_understood 1 = .ok (.istore_n 1, 1) := by decide +kernel
theorem dX3_understood_2 : decode cX3_understood 2 = .ok (.iconst 0, 1) := by decide +kernel
theorem dX3_understood_3 : decode cX3_understood 3 = .ok (.istore_n 2, 1) := by decide +kernel
theorem dX3_understood_4 : decode cX3_understood 4 = .ok (.iload_n 2, 1) := by decide +kernel
theorem dX3_understood_5 : decode cX3_understood 5 = .ok (.aload_n 0, 1) := by decide +kernel
theorem dX3_understood_6 : decode cX3_understood 6 = .ok (.getfield 12, 3) := by decide +kernel
theorem dX3_understood_9 : decode cX3_understood 9 = .ok (.getfield 40, 3) := by decide +kernel
theorem dX3_understood_12 : decode cX3_understood 12 = .ok (.invokevirtual 86, 3) := by decide +kernel
theorem dX3_understood_15 : decode cX3_understood 15 = .ok (.if_icmp .ge 23, 3) := by decide +kernel
theorem dX3_understood_18 : decode cX3_understood 18 = .ok (.aload_n 0, 1) := by decide +kernel
theorem dX3_understood_19 : decode cX3_understood 19 = .ok (.iload_n 2, 1) := by decide +kernel
theorem dX3_understood_20 : decode cX3_understood 20 = .ok (.invokevirtual 111, 3) := by decide +kernel
theorem dX3_understood_23 : decode cX3_understood 23 = .ok (.ifCond .eq 9, 3) := by decide +kernel
theorem dX3_understood_26 : decode cX3_understood 26 = .ok (.iload_n 1, 1) := by decide +kernel
theorem dX3_understood_27 : decode cX3_understood 27 = .ok (.iconst 1, 1) := by decide +kernel
theorem dX3_understood_28 : decode cX3_understood 28 = .ok (.iload_n 2, 1) := by decide +kernel
theorem dX3_understood_29 : decode cX3_understood 29 = .ok (.ishl, 1) := by decide +kernel
theorem dX3_understood_30 : decode cX3_understood 30 = .ok (.ior, 1) := by decide +kernel
theorem dX3_understood_31 : decode cX3_understood 31 = .ok (.istore_n 1, 1) := by decide +kernel
theorem dX3_understood_32 : decode cX3_understood 32 = .ok (.iinc 2 1, 3) := by decide +kernel
theorem dX3_understood_35 : decode cX3_understood 35 = .ok (.goto (-31), 3) := by decide +kernel
theorem dX3_understood_38 : decode cX3_understood 38 = .ok (.iload_n 1, 1) := by decide +kernel
theorem dX3_understood_39 : decode cX3_understood 39 = .ok (.ireturn, 1) := by decide +kernel
set_option maxRecDepth 20000 in
theorem ggX3_greatestCoverOf_X1_endOf : GoodIn wsX3_greatestCoverOf wsX1_endOf := goodIn_r _ [9, 10, 11, 12, 7, 13, 14, 52, 53, 54] (by decide +kernel) (by decide +kernel)
set_option maxRecDepth 20000 in
theorem gX3_greatestCoverOf_X1_endOf_n114 : GoodIn wsX3_greatestCoverOf (wsX1_endOf) := ggX3_greatestCoverOf_X1_endOf
set_option maxRecDepth 20000 in
theorem ggX3_greatestCoverOf_X1_numberOf : GoodIn wsX3_greatestCoverOf wsX1_numberOf := goodIn_r _ [13, 14, 52, 53, 54] (by decide +kernel) (by decide +kernel)
set_option maxRecDepth 20000 in
theorem gX3_greatestCoverOf_X1_numberOf_n79 : GoodIn wsX3_greatestCoverOf (wsX1_numberOf) := ggX3_greatestCoverOf_X1_numberOf
set_option maxRecDepth 20000 in
theorem ggX3_greatestCoverOf_X3_coverOf : GoodIn wsX3_greatestCoverOf wsX3_coverOf := goodIn_r _ [19, 20, 21, 22, 1, 2, 3, 4, 5, 23, 24, 25, 26, 7, 27, 28, 29, 30, 31, 11, 12, 13, 14, 32, 33, 34, 18, 35, 36, 37, 38, 39, 40, 41, 42, 43, 44, 45, 46, 47, 48, 49, 50, 51, 52, 53, 54] (by decide +kernel) (by decide +kernel)
set_option maxRecDepth 20000 in
theorem gX3_greatestCoverOf_X3_coverOf : GoodIn wsX3_greatestCoverOf (wsV RX3 97 RX3 yX3_coverOf wsX3_coverOf) := goodIn_app (goodIn_of _ (by decide +kernel)) ggX3_greatestCoverOf_X3_coverOf
theorem dX3_greatestCoverOf_0 : decode cX3_greatestCoverOf 0 = .ok (.iconst 0, 1) := by decide +kernel
theorem dX3_greatestCoverOf_1 : decode cX3_greatestCoverOf 1 = .ok (.istore_n 2, 1) := by decide +kernel
theorem dX3_greatestCoverOf_2 : decode cX3_greatestCoverOf 2 = .ok (.aload_n 0, 1) := by decide +kernel
theorem dX3_greatestCoverOf_3 : decode cX3_greatestCoverOf 3 = .ok (.getfield 12, 3) := by decide +kernel
theorem dX3_greatestCoverOf_6 : decode cX3_greatestCoverOf 6 = .ok (.getfield 40, 3) := by decide +kernel
theorem dX3_greatestCoverOf_9 : decode cX3_greatestCoverOf 9 = .ok (.iload_n 1, 1) := by decide +kernel
theorem dX3_greatestCoverOf_10 : decode cX3_greatestCoverOf 10 = .ok (.invokevirtual 114, 3) := by decide +kernel
theorem dX3_greatestCoverOf_13 : decode cX3_greatestCoverOf 13 = .ok (.istore_n 3, 1) := by decide +kernel
theorem dX3_greatestCoverOf_14 : decode cX3_greatestCoverOf 14 = .ok (.aload_n 0, 1) := by decide +kernel
theorem dX3_greatestCoverOf_15 : decode cX3_greatestCoverOf 15 = .ok (.getfield 12, 3) := by decide +kernel
theorem dX3_greatestCoverOf_18 : decode cX3_greatestCoverOf 18 = .ok (.getfield 40, 3) := by decide +kernel
theorem dX3_greatestCoverOf_21 : decode cX3_greatestCoverOf 21 = .ok (.iload_n 1, 1) := by decide +kernel
theorem dX3_greatestCoverOf_22 : decode cX3_greatestCoverOf 22 = .ok (.iconst 0, 1) := by decide +kernel
theorem dX3_greatestCoverOf_23 : decode cX3_greatestCoverOf 23 = .ok (.invokevirtual 79, 3) := by decide +kernel
theorem dX3_greatestCoverOf_26 : decode cX3_greatestCoverOf 26 = .ok (.istore 4, 2) := by decide +kernel
theorem dX3_greatestCoverOf_28 : decode cX3_greatestCoverOf 28 = .ok (.iload 4, 2) := by decide +kernel
theorem dX3_greatestCoverOf_30 : decode cX3_greatestCoverOf 30 = .ok (.iload_n 3, 1) := by decide +kernel
theorem dX3_greatestCoverOf_31 : decode cX3_greatestCoverOf 31 = .ok (.if_icmp .ge 21, 3) := by decide +kernel
theorem dX3_greatestCoverOf_34 : decode cX3_greatestCoverOf 34 = .ok (.iload_n 2, 1) := by decide +kernel
theorem dX3_greatestCoverOf_35 : decode cX3_greatestCoverOf 35 = .ok (.aload_n 0, 1) := by decide +kernel
theorem dX3_greatestCoverOf_36 : decode cX3_greatestCoverOf 36 = .ok (.iload_n 1, 1) := by decide +kernel
theorem dX3_greatestCoverOf_37 : decode cX3_greatestCoverOf 37 = .ok (.iload 4, 2) := by decide +kernel
theorem dX3_greatestCoverOf_39 : decode cX3_greatestCoverOf 39 = .ok (.invokevirtual 97, 3) := by decide +kernel
theorem dX3_greatestCoverOf_42 : decode cX3_greatestCoverOf 42 = .ok (.invokestatic 69, 3) := by decide +kernel
theorem dX3_greatestCoverOf_45 : decode cX3_greatestCoverOf 45 = .ok (.istore_n 2, 1) := by decide +kernel
theorem dX3_greatestCoverOf_46 : decode cX3_greatestCoverOf 46 = .ok (.iinc 4 1, 3) := by decide +kernel
theorem dX3_greatestCoverOf_49 : decode cX3_greatestCoverOf 49 = .ok (.goto (-21), 3) := by decide +kernel
theorem dX3_greatestCoverOf_52 : decode cX3_greatestCoverOf 52 = .ok (.iload_n 2, 1) := by decide +kernel
theorem dX3_greatestCoverOf_53 : decode cX3_greatestCoverOf 53 = .ok (.ireturn, 1) := by decide +kernel
set_option maxRecDepth 20000 in
theorem ggX3_strengthSumOf_X1_endOf : GoodIn wsX3_strengthSumOf wsX1_endOf := goodIn_r _ [5, 6, 7, 8, 3, 9, 10, 38, 39, 40] (by decide +kernel) (by decide +kernel)
set_option maxRecDepth 20000 in
theorem gX3_strengthSumOf_X1_endOf_n114 : GoodIn wsX3_strengthSumOf (wsX1_endOf) := ggX3_strengthSumOf_X1_endOf
set_option maxRecDepth 20000 in
theorem ggX3_strengthSumOf_X1_numberOf : GoodIn wsX3_strengthSumOf wsX1_numberOf := goodIn_r _ [9, 10, 38, 39, 40] (by decide +kernel) (by decide +kernel)
set_option maxRecDepth 20000 in
theorem gX3_strengthSumOf_X1_numberOf_n79 : GoodIn wsX3_strengthSumOf (wsX1_numberOf) := ggX3_strengthSumOf_X1_numberOf
set_option maxRecDepth 20000 in
theorem ggX3_strengthSumOf_X3_strengthOf : GoodIn wsX3_strengthSumOf wsX3_strengthOf := goodIn_r _ [15, 1, 16, 17, 18, 19, 20, 7, 3, 8, 9, 10, 21, 22, 23, 6, 24, 25, 26, 27, 28, 29, 30, 31, 32, 33, 34, 35, 36, 37, 38, 39, 40] (by decide +kernel) (by decide +kernel)
set_option maxRecDepth 20000 in
theorem gX3_strengthSumOf_X3_strengthOf : GoodIn wsX3_strengthSumOf (wsV RX3 94 RX3 yX3_strengthOf wsX3_strengthOf) := goodIn_app (goodIn_of _ (by decide +kernel)) ggX3_strengthSumOf_X3_strengthOf
theorem dX3_strengthSumOf_0 : decode cX3_strengthSumOf 0 = .ok (.iconst 0, 1) := by decide +kernel
theorem dX3_strengthSumOf_1 : decode cX3_strengthSumOf 1 = .ok (.istore_n 2, 1) := by decide +kernel
theorem dX3_strengthSumOf_2 : decode cX3_strengthSumOf 2 = .ok (.aload_n 0, 1) := by decide +kernel
theorem dX3_strengthSumOf_3 : decode cX3_strengthSumOf 3 = .ok (.getfield 12, 3) := by decide +kernel
theorem dX3_strengthSumOf_6 : decode cX3_strengthSumOf 6 = .ok (.getfield 49, 3) := by decide +kernel
theorem dX3_strengthSumOf_9 : decode cX3_strengthSumOf 9 = .ok (.iload_n 1, 1) := by decide +kernel
theorem dX3_strengthSumOf_10 : decode cX3_strengthSumOf 10 = .ok (.invokevirtual 114, 3) := by decide +kernel
theorem dX3_strengthSumOf_13 : decode cX3_strengthSumOf 13 = .ok (.istore_n 3, 1) := by decide +kernel
theorem dX3_strengthSumOf_14 : decode cX3_strengthSumOf 14 = .ok (.aload_n 0, 1) := by decide +kernel
theorem dX3_strengthSumOf_15 : decode cX3_strengthSumOf 15 = .ok (.getfield 12, 3) := by decide +kernel
theorem dX3_strengthSumOf_18 : decode cX3_strengthSumOf 18 = .ok (.getfield 49, 3) := by decide +kernel
theorem dX3_strengthSumOf_21 : decode cX3_strengthSumOf 21 = .ok (.iload_n 1, 1) := by decide +kernel
