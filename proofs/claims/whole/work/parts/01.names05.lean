theorem dX2_hasMessage_19 : decode cX2_hasMessage 19 = .ok (.iconst 1, 1) := by decide +kernel
theorem dX2_hasMessage_20 : decode cX2_hasMessage 20 = .ok (.goto 4, 3) := by decide +kernel
theorem dX2_hasMessage_23 : decode cX2_hasMessage 23 = .ok (.iconst 0, 1) := by decide +kernel
theorem dX2_hasMessage_24 : decode cX2_hasMessage 24 = .ok (.ireturn, 1) := by decide +kernel
set_option maxRecDepth 20000 in
theorem ggX2_kindOf_X2_hasMessage : GoodIn wsX2_kindOf wsX2_hasMessage := goodIn_r _ [6, 7, 8, 9, 10, 11, 12, 13, 14, 15, 16, 17, 18, 19, 20] (by decide +kernel) (by decide +kernel)
set_option maxRecDepth 20000 in
theorem gX2_kindOf_X2_hasMessage : GoodIn wsX2_kindOf (wsV RX2 57 RX2 yX2_hasMessage wsX2_hasMessage) := goodIn_app (goodIn_of _ (by decide +kernel)) ggX2_kindOf_X2_hasMessage
theorem dX2_kindOf_0 : decode cX2_kindOf 0 = .ok (.aload_n 0, 1) := by decide +kernel
theorem dX2_kindOf_1 : decode cX2_kindOf 1 = .ok (.iload_n 1, 1) := by decide +kernel
theorem dX2_kindOf_2 : decode cX2_kindOf 2 = .ok (.invokevirtual 57, 3) := by decide +kernel
theorem dX2_kindOf_5 : decode cX2_kindOf 5 = .ok (.ifCond .eq 12, 3) := by decide +kernel
theorem dX2_kindOf_8 : decode cX2_kindOf 8 = .ok (.aload_n 0, 1) := by decide +kernel
theorem dX2_kindOf_9 : decode cX2_kindOf 9 = .ok (.getfield 31, 3) := by decide +kernel
theorem dX2_kindOf_12 : decode cX2_kindOf 12 = .ok (.iload_n 1, 1) := by decide +kernel
theorem dX2_kindOf_13 : decode cX2_kindOf 13 = .ok (.iaload, 1) := by decide +kernel
theorem dX2_kindOf_14 : decode cX2_kindOf 14 = .ok (.goto 4, 3) := by decide +kernel
theorem dX2_kindOf_17 : decode cX2_kindOf 17 = .ok (.iconst (-1), 1) := by decide +kernel
theorem dX2_kindOf_18 : decode cX2_kindOf 18 = .ok (.ireturn, 1) := by decide +kernel
set_option maxRecDepth 20000 in
theorem ggX2_makerOf_X2_hasMessage : GoodIn wsX2_makerOf wsX2_hasMessage := goodIn_r _ [6, 7, 8, 9, 10, 11, 12, 13, 14, 15, 16, 17, 18, 19, 20] (by decide +kernel) (by decide +kernel)
set_option maxRecDepth 20000 in
theorem gX2_makerOf_X2_hasMessage : GoodIn wsX2_makerOf (wsV RX2 57 RX2 yX2_hasMessage wsX2_hasMessage) := goodIn_app (goodIn_of _ (by decide +kernel)) ggX2_makerOf_X2_hasMessage
theorem dX2_makerOf_0 : decode cX2_makerOf 0 = .ok (.aload_n 0, 1) := by decide +kernel
theorem dX2_makerOf_1 : decode cX2_makerOf 1 = .ok (.iload_n 1, 1) := by decide +kernel
theorem dX2_makerOf_2 : decode cX2_makerOf 2 = .ok (.invokevirtual 57, 3) := by decide +kernel
theorem dX2_makerOf_5 : decode cX2_makerOf 5 = .ok (.ifCond .eq 12, 3) := by decide +kernel
theorem dX2_makerOf_8 : decode cX2_makerOf 8 = .ok (.aload_n 0, 1) := by decide +kernel
theorem dX2_makerOf_9 : decode cX2_makerOf 9 = .ok (.getfield 34, 3) := by decide +kernel
theorem dX2_makerOf_12 : decode cX2_makerOf 12 = .ok (.iload_n 1, 1) := by decide +kernel
theorem dX2_makerOf_13 : decode cX2_makerOf 13 = .ok (.iaload, 1) := by decide +kernel
theorem dX2_makerOf_14 : decode cX2_makerOf 14 = .ok (.goto 4, 3) := by decide +kernel
theorem dX2_makerOf_17 : decode cX2_makerOf 17 = .ok (.iconst (-1), 1) := by decide +kernel
theorem dX2_makerOf_18 : decode cX2_makerOf 18 = .ok (.ireturn, 1) := by decide +kernel
set_option maxRecDepth 20000 in
theorem ggX2_subjectOf_X2_hasMessage : GoodIn wsX2_subjectOf wsX2_hasMessage := goodIn_r _ [6, 7, 8, 9, 10, 11, 12, 13, 14, 15, 16, 17, 18, 19, 20] (by decide +kernel) (by decide +kernel)
set_option maxRecDepth 20000 in
theorem gX2_subjectOf_X2_hasMessage : GoodIn wsX2_subjectOf (wsV RX2 57 RX2 yX2_hasMessage wsX2_hasMessage) := goodIn_app (goodIn_of _ (by decide +kernel)) ggX2_subjectOf_X2_hasMessage
theorem dX2_subjectOf_0 : decode cX2_subjectOf 0 = .ok (.aload_n 0, 1) := by decide +kernel
theorem dX2_subjectOf_1 : decode cX2_subjectOf 1 = .ok (.iload_n 1, 1) := by decide +kernel
theorem dX2_subjectOf_2 : decode cX2_subjectOf 2 = .ok (.invokevirtual 57, 3) := by decide +kernel
theorem dX2_subjectOf_5 : decode cX2_subjectOf 5 = .ok (.ifCond .eq 12, 3) := by decide +kernel
theorem dX2_subjectOf_8 : decode cX2_subjectOf 8 = .ok (.aload_n 0, 1) := by decide +kernel
theorem dX2_subjectOf_9 : decode cX2_subjectOf 9 = .ok (.getfield 37, 3) := by decide +kernel
theorem dX2_subjectOf_12 : decode cX2_subjectOf 12 = .ok (.iload_n 1, 1) := by decide +kernel
theorem dX2_subjectOf_13 : decode cX2_subjectOf 13 = .ok (.iaload, 1) := by decide +kernel
theorem dX2_subjectOf_14 : decode cX2_subjectOf 14 = .ok (.goto 4, 3) := by decide +kernel
theorem dX2_subjectOf_17 : decode cX2_subjectOf 17 = .ok (.iconst (-1), 1) := by decide +kernel
theorem dX2_subjectOf_18 : decode cX2_subjectOf 18 = .ok (.ireturn, 1) := by decide +kernel
theorem dX2_hasCharacter_0 : decode cX2_hasCharacter 0 = .ok (.iload_n 1, 1) := by decide +kernel
theorem dX2_hasCharacter_1 : decode cX2_hasCharacter 1 = .ok (.ifCond .lt 21, 3) := by decide +kernel
theorem dX2_hasCharacter_4 : decode cX2_hasCharacter 4 = .ok (.iload_n 1, 1) := by decide +kernel
theorem dX2_hasCharacter_5 : decode cX2_hasCharacter 5 = .ok (.aload_n 0, 1) := by decide +kernel
theorem dX2_hasCharacter_6 : decode cX2_hasCharacter 6 = .ok (.getfield 43, 3) := by decide +kernel
theorem dX2_hasCharacter_9 : decode cX2_hasCharacter 9 = .ok (.if_icmp .ge 13, 3) := by decide +kernel
theorem dX2_hasCharacter_12 : decode cX2_hasCharacter 12 = .ok (.iload_n 1, 1) := by decide +kernel
theorem dX2_hasCharacter_13 : decode cX2_hasCharacter 13 = .ok (.bipush 60, 2) := by decide +kernel
theorem dX2_hasCharacter_15 : decode cX2_hasCharacter 15 = .ok (.if_icmp .ge 7, 3) := by decide +kernel
theorem dX2_hasCharacter_18 : decode cX2_hasCharacter 18 = .ok (.iconst 1, 1) := by decide +kernel
theorem dX2_hasCharacter_19 : decode cX2_hasCharacter 19 = .ok (.goto 4, 3) := by decide +kernel
theorem dX2_hasCharacter_22 : decode cX2_hasCharacter 22 = .ok (.iconst 0, 1) := by decide +kernel
theorem dX2_hasCharacter_23 : decode cX2_hasCharacter 23 = .ok (.ireturn, 1) := by decide +kernel
set_option maxRecDepth 20000 in
theorem ggX2_markOf_X2_hasCharacter : GoodIn wsX2_markOf wsX2_hasCharacter := goodIn_r _ [6, 7, 8, 9, 10, 11, 12, 13, 14, 15, 16, 17, 18, 19, 20] (by decide +kernel) (by decide +kernel)
set_option maxRecDepth 20000 in
theorem gX2_markOf_X2_hasCharacter : GoodIn wsX2_markOf (wsV RX2 61 RX2 yX2_hasCharacter wsX2_hasCharacter) := goodIn_app (goodIn_of _ (by decide +kernel)) ggX2_markOf_X2_hasCharacter
theorem dX2_markOf_0 : decode cX2_markOf 0 = .ok (.aload_n 0, 1) := by decide +kernel
theorem dX2_markOf_1 : decode cX2_markOf 1 = .ok (.iload_n 1, 1) := by decide +kernel
theorem dX2_markOf_2 : decode cX2_markOf 2 = .ok (.invokevirtual 61, 3) := by decide +kernel
theorem dX2_markOf_5 : decode cX2_markOf 5 = .ok (.ifCond .eq 10, 3) := by decide +kernel
theorem dX2_markOf_8 : decode cX2_markOf 8 = .ok (.aload_n 0, 1) := by decide +kernel
theorem dX2_markOf_9 : decode cX2_markOf 9 = .ok (.getfield 19, 3) := by decide +kernel
theorem dX2_markOf_12 : decode cX2_markOf 12 = .ok (.iload_n 1, 1) := by decide +kernel
theorem dX2_markOf_13 : decode cX2_markOf 13 = .ok (.iaload, 1) := by decide +kernel
theorem dX2_markOf_14 : decode cX2_markOf 14 = .ok (.ireturn, 1) := by decide +kernel
theorem dX2_markOf_15 : decode cX2_markOf 15 = .ok (.iload_n 1, 1) := by decide +kernel
theorem dX2_markOf_16 : decode cX2_markOf 16 = .ok (.iconst (-1), 1) := by decide +kernel
theorem dX2_markOf_17 : decode cX2_markOf 17 = .ok (.if_icmp .ne 7, 3) := by decide +kernel
theorem dX2_markOf_20 : decode cX2_markOf 20 = .ok (.iconst (-1), 1) := by decide +kernel
theorem dX2_markOf_21 : decode cX2_markOf 21 = .ok (.goto 6, 3) := by decide +kernel
theorem dX2_markOf_24 : decode cX2_markOf 24 = .ok (.sipush 9999, 3) := by decide +kernel
theorem dX2_markOf_27 : decode cX2_markOf 27 = .ok (.ireturn, 1) := by decide +kernel
set_option maxRecDepth 20000 in
theorem ggX2_siteOf_X2_hasCharacter : GoodIn wsX2_siteOf wsX2_hasCharacter := goodIn_r _ [6, 7, 8, 9, 10, 11, 12, 13, 14, 15, 16, 17, 18, 19, 20] (by decide +kernel) (by decide +kernel)
set_option maxRecDepth 20000 in
theorem gX2_siteOf_X2_hasCharacter : GoodIn wsX2_siteOf (wsV RX2 61 RX2 yX2_hasCharacter wsX2_hasCharacter) := goodIn_app (goodIn_of _ (by decide +kernel)) ggX2_siteOf_X2_hasCharacter
theorem dX2_siteOf_0 : decode cX2_siteOf 0 = .ok (.aload_n 0, 1) := by decide +kernel
theorem dX2_siteOf_1 : decode cX2_siteOf 1 = .ok (.iload_n 1, 1) := by decide +kernel
theorem dX2_siteOf_2 : decode cX2_siteOf 2 = .ok (.invokevirtual 61, 3) := by decide +kernel
theorem dX2_siteOf_5 : decode cX2_siteOf 5 = .ok (.ifCond .eq 12, 3) := by decide +kernel
theorem dX2_siteOf_8 : decode cX2_siteOf 8 = .ok (.aload_n 0, 1) := by decide +kernel
theorem dX2_siteOf_9 : decode cX2_siteOf 9 = .ok (.getfield 15, 3) := by decide +kernel
theorem dX2_siteOf_12 : decode cX2_siteOf 12 = .ok (.iload_n 1, 1) := by decide +kernel
theorem dX2_siteOf_13 : decode cX2_siteOf 13 = .ok (.iaload, 1) := by decide +kernel
theorem dX2_siteOf_14 : decode cX2_siteOf 14 = .ok (.goto 4, 3) := by decide +kernel
theorem dX2_siteOf_17 : decode cX2_siteOf 17 = .ok (.iconst (-1), 1) := by decide +kernel
theorem dX2_siteOf_18 : decode cX2_siteOf 18 = .ok (.ireturn, 1) := by decide +kernel
set_option maxRecDepth 20000 in
theorem ggX2_letterOf_X2_hasCharacter : GoodIn wsX2_letterOf wsX2_hasCharacter := goodIn_r _ [6, 7, 8, 9, 10, 11, 12, 13, 14, 15, 16, 17, 18, 19, 20] (by decide +kernel) (by decide +kernel)
set_option maxRecDepth 20000 in
theorem gX2_letterOf_X2_hasCharacter : GoodIn wsX2_letterOf (wsV RX2 61 RX2 yX2_hasCharacter wsX2_hasCharacter) := goodIn_app (goodIn_of _ (by decide +kernel)) ggX2_letterOf_X2_hasCharacter
theorem dX2_letterOf_0 : decode cX2_letterOf 0 = .ok (.aload_n 0, 1) := by decide +kernel
theorem dX2_letterOf_1 : decode cX2_letterOf 1 = .ok (.iload_n 1, 1) := by decide +kernel
theorem dX2_letterOf_2 : decode cX2_letterOf 2 = .ok (.invokevirtual 61, 3) := by decide +kernel
theorem dX2_letterOf_5 : decode cX2_letterOf 5 = .ok (.ifCond .eq 12, 3) := by decide +kernel
theorem dX2_letterOf_8 : decode cX2_letterOf 8 = .ok (.aload_n 0, 1) := by decide +kernel
theorem dX2_letterOf_9 : decode cX2_letterOf 9 = .ok (.getfield 22, 3) := by decide +kernel
theorem dX2_letterOf_12 : decode cX2_letterOf 12 = .ok (.iload_n 1, 1) := by decide +kernel
theorem dX2_letterOf_13 : decode cX2_letterOf 13 = .ok (.iaload, 1) := by decide +kernel
theorem dX2_letterOf_14 : decode cX2_letterOf 14 = .ok (.goto 4, 3) := by decide +kernel
theorem dX2_letterOf_17 : decode cX2_letterOf 17 = .ok (.iconst (-1), 1) := by decide +kernel
theorem dX2_letterOf_18 : decode cX2_letterOf 18 = .ok (.ireturn, 1) := by decide +kernel
set_option maxRecDepth 20000 in
theorem ggX2_leftOf_X2_hasCharacter : GoodIn wsX2_leftOf wsX2_hasCharacter := goodIn_r _ [6, 7, 8, 9, 10, 11, 12, 13, 14, 15, 16, 17, 18, 19, 20] (by decide +kernel) (by decide +kernel)
set_option maxRecDepth 20000 in
theorem gX2_leftOf_X2_hasCharacter : GoodIn wsX2_leftOf (wsV RX2 61 RX2 yX2_hasCharacter wsX2_hasCharacter) := goodIn_app (goodIn_of _ (by decide +kernel)) ggX2_leftOf_X2_hasCharacter
theorem dX2_leftOf_0 : decode cX2_leftOf 0 = .ok (.aload_n 0, 1) := by decide +kernel
theorem dX2_leftOf_1 : decode cX2_leftOf 1 = .ok (.iload_n 1, 1) := by decide +kernel
theorem dX2_leftOf_2 : decode cX2_leftOf 2 = .ok (.invokevirtual 61, 3) := by decide +kernel
theorem dX2_leftOf_5 : decode cX2_leftOf 5 = .ok (.ifCond .eq 12, 3) := by decide +kernel
theorem dX2_leftOf_8 : decode cX2_leftOf 8 = .ok (.aload_n 0, 1) := by decide +kernel
theorem dX2_leftOf_9 : decode cX2_leftOf 9 = .ok (.getfield 25, 3) := by decide +kernel
theorem dX2_leftOf_12 : decode cX2_leftOf 12 = .ok (.iload_n 1, 1) := by decide +kernel
theorem dX2_leftOf_13 : decode cX2_leftOf 13 = .ok (.iaload, 1) := by decide +kernel
theorem dX2_leftOf_14 : decode cX2_leftOf 14 = .ok (.goto 4, 3) := by decide +kernel
theorem dX2_leftOf_17 : decode cX2_leftOf 17 = .ok (.iconst (-1), 1) := by decide +kernel
theorem dX2_leftOf_18 : decode cX2_leftOf 18 = .ok (.ireturn, 1) := by decide +kernel
set_option maxRecDepth 20000 in
theorem ggX2_rightOf_X2_hasCharacter : GoodIn wsX2_rightOf wsX2_hasCharacter := goodIn_r _ [6, 7, 8, 9, 10, 11, 12, 13, 14, 15, 16, 17, 18, 19, 20] (by decide +kernel) (by decide +kernel)
set_option maxRecDepth 20000 in
theorem gX2_rightOf_X2_hasCharacter : GoodIn wsX2_rightOf (wsV RX2 61 RX2 yX2_hasCharacter wsX2_hasCharacter) := goodIn_app (goodIn_of _ (by decide +kernel)) ggX2_rightOf_X2_hasCharacter
theorem dX2_rightOf_0 : decode cX2_rightOf 0 = .ok (.aload_n 0, 1) := by decide +kernel
theorem dX2_rightOf_1 : decode cX2_rightOf 1 = .ok (.iload_n 1, 1) := by decide +kernel
theorem dX2_rightOf_2 : decode cX2_rightOf 2 = .ok (.invokevirtual 61, 3) := by decide +kernel
theorem dX2_rightOf_5 : decode cX2_rightOf 5 = .ok (.ifCond .eq 12, 3) := by decide +kernel
theorem dX2_rightOf_8 : decode cX2_rightOf 8 = .ok (.aload_n 0, 1) := by decide +kernel
theorem dX2_rightOf_9 : decode cX2_rightOf 9 = .ok (.getfield 28, 3) := by decide +kernel
theorem dX2_rightOf_12 : decode cX2_rightOf 12 = .ok (.iload_n 1, 1) := by decide +kernel
theorem dX2_rightOf_13 : decode cX2_rightOf 13 = .ok (.iaload, 1) := by decide +kernel
theorem dX2_rightOf_14 : decode cX2_rightOf 14 = .ok (.goto 5, 3) := by decide +kernel
theorem dX2_rightOf_17 : decode cX2_rightOf 17 = .ok (.bipush 60, 2) := by decide +kernel
theorem dX2_rightOf_19 : decode cX2_rightOf 19 = .ok (.ireturn, 1) := by decide +kernel
set_option maxRecDepth 20000 in
theorem ggX3_init_X2_init : GoodIn wsX3_init wsX2_init := goodIn_r _ [23, 24, 2, 3, 25, 17, 26, 27, 28, 29, 30, 31, 32, 33, 34, 35, 36, 37, 73, 74, 75, 76, 77, 78, 79, 80, 81, 82, 83, 84, 85] (by decide +kernel) (by decide +kernel)
set_option maxRecDepth 20000 in
theorem gX3_init_X2_init : GoodIn wsX3_init (wsX2_init) := ggX3_init_X2_init
set_option maxRecDepth 20000 in
theorem ggX3_init_X0_init : GoodIn wsX3_init wsX0_init := goodIn_r _ [40, 41, 2, 3, 42, 17, 43, 44, 45, 46, 47, 48, 49, 50, 12, 51, 52, 53, 54, 55, 56, 57, 58, 86, 87, 88, 89, 90, 91, 92, 93, 94, 95, 96, 97] (by decide +kernel) (by decide +kernel)
set_option maxRecDepth 20000 in
theorem gX3_init_X0_init : GoodIn wsX3_init (wsX0_init) := ggX3_init_X0_init
set_option maxRecDepth 20000 in
theorem ggX3_init_X1_init : GoodIn wsX3_init wsX1_init := goodIn_r _ [61, 62, 2, 3, 63, 64, 17, 65, 98, 99] (by decide +kernel) (by decide +kernel)
set_option maxRecDepth 20000 in
theorem gX3_init_X1_init : GoodIn wsX3_init (wsX1_init) := ggX3_init_X1_init
theorem dX3_init_0 : decode cX3_init 0 = .ok (.aload_n 0, 1) := by decide +kernel
theorem dX3_init_1 : decode cX3_init 1 = .ok (.invokespecial 3, 3) := by decide +kernel
theorem dX3_init_4 : decode cX3_init 4 = .ok (.aload_n 0, 1) := by decide +kernel
theorem dX3_init_5 : decode cX3_init 5 = .ok (.iconst 2, 1) := by decide +kernel
theorem dX3_init_6 : decode cX3_init 6 = .ok (.anewarray 9, 3) := by decide +kernel
theorem dX3_init_9 : decode cX3_init 9 = .ok (.putfield 11, 3) := by decide +kernel
theorem dX3_init_12 : decode cX3_init 12 = .ok (.aload_n 0, 1) := by decide +kernel
theorem dX3_init_13 : decode cX3_init 13 = .ok (.bipush 10, 2) := by decide +kernel
theorem dX3_init_15 : decode cX3_init 15 = .ok (.anewarray 15, 3) := by decide +kernel
theorem dX3_init_18 : decode cX3_init 18 = .ok (.putfield 17, 3) := by decide +kernel
theorem dX3_init_21 : decode cX3_init 21 = .ok (.aload_n 0, 1) := by decide +kernel
theorem dX3_init_22 : decode cX3_init 22 = .ok (.iconst 2, 1) := by decide +kernel
theorem dX3_init_23 : decode cX3_init 23 = .ok (.anewarray 15, 3) := by decide +kernel
theorem dX3_init_26 : decode cX3_init 26 = .ok (.putfield 21, 3) := by decide +kernel
theorem dX3_init_29 : decode cX3_init 29 = .ok (.iconst 0, 1) := by decide +kernel
theorem dX3_init_30 : decode cX3_init 30 = .ok (.istore_n 1, 1) := by decide +kernel
theorem dX3_init_31 : decode cX3_init 31 = .ok (.iload_n 1, 1) := by decide +kernel
theorem dX3_init_32 : decode cX3_init 32 = .ok (.iconst 2, 1) := by decide +kernel
theorem dX3_init_33 : decode cX3_init 33 = .ok (.if_icmp .ge 78, 3) := by decide +kernel
theorem dX3_init_36 : decode cX3_init 36 = .ok (.new 9, 3) := by decide +kernel
theorem dX3_init_39 : decode cX3_init 39 = .ok (.dup, 1) := by decide +kernel
theorem dX3_init_40 : decode cX3_init 40 = .ok (.iload_n 1, 1) := by decide +kernel
theorem dX3_init_41 : decode cX3_init 41 = .ok (.ifCond .ne 7, 3) := by decide +kernel
theorem dX3_init_44 : decode cX3_init 44 = .ok (.iconst 1, 1) := by decide +kernel
theorem dX3_init_45 : decode cX3_init 45 = .ok (.goto 4, 3) := by decide +kernel
theorem dX3_init_48 : decode cX3_init 48 = .ok (.iconst 0, 1) := by decide +kernel
theorem dX3_init_49 : decode cX3_init 49 = .ok (.invokespecial 24, 3) := by decide +kernel
theorem dX3_init_52 : decode cX3_init 52 = .ok (.astore_n 2, 1) := by decide +kernel
theorem dX3_init_53 : decode cX3_init 53 = .ok (.aload_n 0, 1) := by decide +kernel
theorem dX3_init_54 : decode cX3_init 54 = .ok (.getfield 11, 3) := by decide +kernel
theorem dX3_init_57 : decode cX3_init 57 = .ok (.iload_n 1, 1) := by decide +kernel
theorem dX3_init_58 : decode cX3_init 58 = .ok (.aload_n 2, 1) := by decide +kernel
theorem dX3_init_59 : decode cX3_init 59 = .ok (.aastore, 1) := by decide +kernel
theorem dX3_init_60 : decode cX3_init 60 = .ok (.aload_n 0, 1) := by decide +kernel
theorem dX3_init_61 : decode cX3_init 61 = .ok (.getfield 21, 3) := by decide +kernel
theorem dX3_init_64 : decode cX3_init 64 = .ok (.iload_n 1, 1) := by decide +kernel
theorem dX3_init_65 : decode cX3_init 65 = .ok (.new 15, 3) := by decide +kernel
theorem dX3_init_68 : decode cX3_init 68 = .ok (.dup, 1) := by decide +kernel
theorem dX3_init_69 : decode cX3_init 69 = .ok (.aload_n 2, 1) := by decide +kernel
theorem dX3_init_70 : decode cX3_init 70 = .ok (.invokespecial 27, 3) := by decide +kernel
theorem dX3_init_73 : decode cX3_init 73 = .ok (.aastore, 1) := by decide +kernel
theorem dX3_init_74 : decode cX3_init 74 = .ok (.iconst 0, 1) := by decide +kernel
theorem dX3_init_75 : decode cX3_init 75 = .ok (.istore_n 3, 1) := by decide +kernel
theorem dX3_init_76 : decode cX3_init 76 = .ok (.iload_n 3, 1) := by decide +kernel
theorem dX3_init_77 : decode cX3_init 77 = .ok (.iconst 5, 1) := by decide +kernel
theorem dX3_init_78 : decode cX3_init 78 = .ok (.if_icmp .ge 27, 3) := by decide +kernel
theorem dX3_init_81 : decode cX3_init 81 = .ok (.aload_n 0, 1) := by decide +kernel
theorem dX3_init_82 : decode cX3_init 82 = .ok (.getfield 17, 3) := by decide +kernel
theorem dX3_init_85 : decode cX3_init 85 = .ok (.iload_n 1, 1) := by decide +kernel
theorem dX3_init_86 : decode cX3_init 86 = .ok (.iconst 5, 1) := by decide +kernel
theorem dX3_init_87 : decode cX3_init 87 = .ok (.imul, 1) := by decide +kernel
theorem dX3_init_88 : decode cX3_init 88 = .ok (.iload_n 3, 1) := by decide +kernel
theorem dX3_init_89 : decode cX3_init 89 = .ok (.iadd, 1) := by decide +kernel
theorem dX3_init_90 : decode cX3_init 90 = .ok (.new 15, 3) := by decide +kernel
theorem dX3_init_93 : decode cX3_init 93 = .ok (.dup, 1) := by decide +kernel
theorem dX3_init_94 : decode cX3_init 94 = .ok (.aload_n 2, 1) := by decide +kernel
theorem dX3_init_95 : decode cX3_init 95 = .ok (.invokespecial 27, 3) := by decide +kernel
theorem dX3_init_98 : decode cX3_init 98 = .ok (.aastore, 1) := by decide +kernel
theorem dX3_init_99 : decode cX3_init 99 = .ok (.iinc 3 1, 3) := by decide +kernel
theorem dX3_init_102 : decode cX3_init 102 = .ok (.goto (-26), 3) := by decide +kernel
theorem dX3_init_105 : decode cX3_init 105 = .ok (.iinc 1 1, 3) := by decide +kernel
theorem dX3_init_108 : decode cX3_init 108 = .ok (.goto (-77), 3) := by decide +kernel
theorem dX3_init_111 : decode cX3_init 111 = .ok (.aload_n 0, 1) := by decide +kernel
theorem dX3_init_112 : decode cX3_init 112 = .ok (.new 30, 3) := by decide +kernel
theorem dX3_init_115 : decode cX3_init 115 = .ok (.dup, 1) := by decide +kernel
theorem dX3_init_116 : decode cX3_init 116 = .ok (.invokespecial 32, 3) := by decide +kernel
theorem dX3_init_119 : decode cX3_init 119 = .ok (.putfield 33, 3) := by decide +kernel
theorem dX3_init_122 : decode cX3_init 122 = .ok (.aload_n 0, 1) := by decide +kernel
theorem dX3_init_123 : decode cX3_init 123 = .ok (.sipush 160, 3) := by decide +kernel
theorem dX3_init_126 : decode cX3_init 126 = .ok (.newarray .int, 2) := by decide +kernel
theorem dX3_init_128 : decode cX3_init 128 = .ok (.putfield 37, 3) := by decide +kernel
theorem dX3_init_131 : decode cX3_init 131 = .ok (.aload_n 0, 1) := by decide +kernel
theorem dX3_init_132 : decode cX3_init 132 = .ok (.bipush 60, 2) := by decide +kernel
theorem dX3_init_134 : decode cX3_init 134 = .ok (.newarray .int, 2) := by decide +kernel
theorem dX3_init_136 : decode cX3_init 136 = .ok (.putfield 41, 3) := by decide +kernel
theorem dX3_init_139 : decode cX3_init 139 = .ok (.aload_n 0, 1) := by decide +kernel
theorem dX3_init_140 : decode cX3_init 140 = .ok (.iconst 0, 1) := by decide +kernel
theorem dX3_init_141 : decode cX3_init 141 = .ok (.putfield 44, 3) := by decide +kernel
theorem dX3_init_144 : decode cX3_init 144 = .ok (.return_, 1) := by decide +kernel
set_option maxRecDepth 20000 in
theorem ggX3_insert_X3_copyAt : GoodIn wsX3_insert wsX3_copyAt := goodIn_r _ [7, 8, 156, 157, 158, 159, 160, 161, 162] (by decide +kernel) (by decide +kernel)
set_option maxRecDepth 20000 in
theorem gX3_insert_X3_copyAt : GoodIn wsX3_insert (wsV RX3 48 RX3 yX3_copyAt wsX3_copyAt) := goodIn_app (goodIn_of _ (by decide +kernel)) ggX3_insert_X3_copyAt
set_option maxRecDepth 20000 in
theorem ggX3_insert_X0_leftForPlace : GoodIn wsX3_insert wsX0_leftForPlace := goodIn_r _ [13, 14, 15, 16, 12, 17, 18, 19, 20, 21, 22, 23, 24, 25, 26, 27, 28, 29, 144, 145, 146, 147, 148, 149, 150, 151, 152, 153, 154, 155] (by decide +kernel) (by decide +kernel)
set_option maxRecDepth 20000 in
theorem gX3_insert_X0_leftForPlace : GoodIn wsX3_insert (wsV RX3 55 RX0 yX0_leftForPlace wsX0_leftForPlace) := goodIn_app (goodIn_of _ (by decide +kernel)) ggX3_insert_X0_leftForPlace
set_option maxRecDepth 20000 in
theorem ggX3_insert_X0_rightForPlace : GoodIn wsX3_insert wsX0_rightForPlace := goodIn_r _ [33, 34, 35, 14, 15, 16, 12, 17, 18, 19, 20, 21, 22, 23, 24, 25, 26, 27, 28, 29, 36, 10, 11, 13, 37, 38, 39, 40, 144, 145, 146, 147, 148, 149, 150, 151, 152, 153, 154, 155, 163, 164, 165, 166, 167, 168, 169, 170, 171, 172, 173, 174, 175] (by decide +kernel) (by decide +kernel)
set_option maxRecDepth 20000 in
theorem gX3_insert_X0_rightForPlace : GoodIn wsX3_insert (wsV RX3 59 RX0 yX0_rightForPlace wsX0_rightForPlace) := goodIn_app (goodIn_of _ (by decide +kernel)) ggX3_insert_X0_rightForPlace
set_option maxRecDepth 20000 in
theorem ggX3_insert_X2_addInsert : GoodIn wsX3_insert wsX2_addInsert := goodIn_r _ [45, 46, 47, 48, 49, 50, 51, 52, 53, 54, 55, 44, 56, 57, 58, 59, 60, 163, 164, 165, 166, 167, 168, 169, 170, 171, 172, 173, 174, 175] (by decide +kernel) (by decide +kernel)
set_option maxRecDepth 20000 in
theorem gX3_insert_X2_addInsert : GoodIn wsX3_insert (wsV RX3 66 RX2 yX2_addInsert wsX2_addInsert) := goodIn_app (goodIn_of _ (by decide +kernel)) ggX3_insert_X2_addInsert
set_option maxRecDepth 20000 in
theorem ggX3_insert_X0_doOwn : GoodIn wsX3_insert wsX0_doOwn := goodIn_r _ [64, 34, 65, 66, 67, 44, 68, 57, 69, 70, 71, 12, 72, 73, 74, 75, 76, 77, 78, 79, 35, 80, 81, 82, 83, 60, 84, 85, 86, 87, 88, 89, 90, 91, 92, 93, 58, 94, 95, 96, 97, 29, 98, 24, 25, 26, 27, 28, 99, 100, 101, 102, 103, 104, 105, 106, 51, 107, 108, 109, 110, 46, 37, 38, 39, 40, 18, 111, 112, 113, 114, 52, 115, 116, 117, 118, 48, 19, 20, 21, 22, 23, 119, 120, 121, 122, 123, 124, 125, 126, 127, 128, 129, 130, 47, 131, 132, 133, 134, 135, 136, 137, 138, 139, 140, 141, 142, 143, 144, 145, 146, 147, 148, 149, 150, 151, 152, 153, 154, 155, 163, 164, 165, 166, 167, 168, 169, 170, 171, 172, 173, 174, 175] (by decide +kernel) (by decide +kernel)
set_option maxRecDepth 20000 in
theorem gX3_insert_X0_doOwn : GoodIn wsX3_insert (wsV RX3 70 RX0 yX0_doOwn wsX0_doOwn) := goodIn_app (goodIn_of _ (by decide +kernel)) ggX3_insert_X0_doOwn
theorem dX3_insert_0 : decode cX3_insert 0 = .ok (.aload_n 0, 1) := by decide +kernel
theorem dX3_insert_1 : decode cX3_insert 1 = .ok (.iload_n 1, 1) := by decide +kernel
theorem dX3_insert_2 : decode cX3_insert 2 = .ok (.iload_n 2, 1) := by decide +kernel
theorem dX3_insert_3 : decode cX3_insert 3 = .ok (.invokevirtual 48, 3) := by decide +kernel
theorem dX3_insert_6 : decode cX3_insert 6 = .ok (.astore 5, 2) := by decide +kernel
theorem dX3_insert_8 : decode cX3_insert 8 = .ok (.aload 5, 2) := by decide +kernel
theorem dX3_insert_10 : decode cX3_insert 10 = .ok (.ifnull 16, 3) := by decide +kernel
theorem dX3_insert_13 : decode cX3_insert 13 = .ok (.iload_n 3, 1) := by decide +kernel
theorem dX3_insert_14 : decode cX3_insert 14 = .ok (.ifCond .lt 12, 3) := by decide +kernel
theorem dX3_insert_17 : decode cX3_insert 17 = .ok (.iload_n 3, 1) := by decide +kernel
theorem dX3_insert_18 : decode cX3_insert 18 = .ok (.aload 5, 2) := by decide +kernel
theorem dX3_insert_20 : decode cX3_insert 20 = .ok (.getfield 52, 3) := by decide +kernel
theorem dX3_insert_23 : decode cX3_insert 23 = .ok (.if_icmp .le 5, 3) := by decide +kernel
theorem dX3_insert_26 : decode cX3_insert 26 = .ok (.iconst (-1), 1) := by decide +kernel
theorem dX3_insert_27 : decode cX3_insert 27 = .ok (.ireturn, 1) := by decide +kernel
theorem dX3_insert_28 : decode cX3_insert 28 = .ok (.iload 4, 2) := by decide +kernel
theorem dX3_insert_30 : decode cX3_insert 30 = .ok (.bipush 32, 2) := by decide +kernel
theorem dX3_insert_32 : decode cX3_insert 32 = .ok (.if_icmp .lt 10, 3) := by decide +kernel
theorem dX3_insert_35 : decode cX3_insert 35 = .ok (.iload 4, 2) := by decide +kernel
theorem dX3_insert_37 : decode cX3_insert 37 = .ok (.bipush 126, 2) := by decide +kernel
theorem dX3_insert_39 : decode cX3_insert 39 = .ok (.if_icmp .le 5, 3) := by decide +kernel
theorem dX3_insert_42 : decode cX3_insert 42 = .ok (.iconst (-1), 1) := by decide +kernel
theorem dX3_insert_43 : decode cX3_insert 43 = .ok (.ireturn, 1) := by decide +kernel
theorem dX3_insert_44 : decode cX3_insert 44 = .ok (.aload 5, 2) := by decide +kernel
theorem dX3_insert_46 : decode cX3_insert 46 = .ok (.iload_n 3, 1) := by decide +kernel
theorem dX3_insert_47 : decode cX3_insert 47 = .ok (.invokevirtual 55, 3) := by decide +kernel
theorem dX3_insert_50 : decode cX3_insert 50 = .ok (.istore 6, 2) := by decide +kernel
theorem dX3_insert_52 : decode cX3_insert 52 = .ok (.aload 5, 2) := by decide +kernel
theorem dX3_insert_54 : decode cX3_insert 54 = .ok (.iload_n 3, 1) := by decide +kernel
theorem dX3_insert_55 : decode cX3_insert 55 = .ok (.invokevirtual 59, 3) := by decide +kernel
theorem dX3_insert_58 : decode cX3_insert 58 = .ok (.istore 7, 2) := by decide +kernel
theorem dX3_insert_60 : decode cX3_insert 60 = .ok (.aload 5, 2) := by decide +kernel
theorem dX3_insert_62 : decode cX3_insert 62 = .ok (.getfield 62, 3) := by decide +kernel
theorem dX3_insert_65 : decode cX3_insert 65 = .ok (.iload_n 2, 1) := by decide +kernel
theorem dX3_insert_66 : decode cX3_insert 66 = .ok (.iload 6, 2) := by decide +kernel
theorem dX3_insert_68 : decode cX3_insert 68 = .ok (.iload 7, 2) := by decide +kernel
theorem dX3_insert_70 : decode cX3_insert 70 = .ok (.iload 4, 2) := by decide +kernel
theorem dX3_insert_72 : decode cX3_insert 72 = .ok (.invokevirtual 66, 3) := by decide +kernel
theorem dX3_insert_75 : decode cX3_insert 75 = .ok (.istore 8, 2) := by decide +kernel
theorem dX3_insert_77 : decode cX3_insert 77 = .ok (.aload 5, 2) := by decide +kernel
theorem dX3_insert_79 : decode cX3_insert 79 = .ok (.iload 8, 2) := by decide +kernel
theorem dX3_insert_81 : decode cX3_insert 81 = .ok (.invokevirtual 70, 3) := by decide +kernel
theorem dX3_insert_84 : decode cX3_insert 84 = .ok (.iload 8, 2) := by decide +kernel
theorem dX3_insert_86 : decode cX3_insert 86 = .ok (.ireturn, 1) := by decide +kernel
set_option maxRecDepth 20000 in
theorem ggX3_erase_X3_copyAt : GoodIn wsX3_erase wsX3_copyAt := goodIn_r _ [7, 8, 146, 147, 148, 149, 150, 151, 152] (by decide +kernel) (by decide +kernel)
set_option maxRecDepth 20000 in
theorem gX3_erase_X3_copyAt : GoodIn wsX3_erase (wsV RX3 48 RX3 yX3_copyAt wsX3_copyAt) := goodIn_app (goodIn_of _ (by decide +kernel)) ggX3_erase_X3_copyAt
set_option maxRecDepth 20000 in
theorem ggX3_erase_X0_seenAt : GoodIn wsX3_erase wsX0_seenAt := goodIn_r _ [13, 14, 15, 16, 17, 12, 18, 19, 20, 21, 22, 23, 24, 25, 134, 135, 136, 137, 138, 139, 140, 141, 142, 143, 144, 145] (by decide +kernel) (by decide +kernel)
set_option maxRecDepth 20000 in
theorem gX3_erase_X0_seenAt : GoodIn wsX3_erase (wsV RX3 74 RX0 yX0_seenAt wsX0_seenAt) := goodIn_app (goodIn_of _ (by decide +kernel)) ggX3_erase_X0_seenAt
set_option maxRecDepth 20000 in
theorem ggX3_erase_X2_addErase : GoodIn wsX3_erase wsX2_addErase := goodIn_r _ [30, 31, 32, 33, 34, 29, 35, 36, 37, 38, 39, 153, 154, 155, 156, 157, 158, 159, 160, 161, 162, 163, 164, 165] (by decide +kernel) (by decide +kernel)
set_option maxRecDepth 20000 in
theorem gX3_erase_X2_addErase : GoodIn wsX3_erase (wsV RX3 77 RX2 yX2_addErase wsX2_addErase) := goodIn_app (goodIn_of _ (by decide +kernel)) ggX3_erase_X2_addErase
set_option maxRecDepth 20000 in
theorem ggX3_erase_X0_doOwn : GoodIn wsX3_erase wsX0_doOwn := goodIn_r _ [43, 44, 45, 46, 47, 29, 48, 36, 49, 50, 51, 12, 52, 53, 54, 55, 56, 57, 58, 59, 60, 61, 62, 63, 64, 39, 65, 66, 67, 68, 69, 70, 71, 72, 73, 74, 37, 75, 76, 77, 78, 25, 79, 20, 21, 22, 23, 24, 80, 81, 82, 83, 84, 85, 86, 87, 88, 89, 90, 91, 92, 93, 94, 95, 96, 97, 14, 98, 99, 100, 101, 102, 103, 104, 105, 106, 107, 15, 16, 17, 18, 19, 108, 109, 110, 111, 112, 113, 114, 115, 116, 117, 118, 119, 120, 121, 122, 123, 124, 125, 126, 127, 128, 129, 130, 131, 132, 133, 134, 135, 136, 137, 138, 139, 140, 141, 142, 143, 144, 145, 153, 154, 155, 156, 157, 158, 159, 160, 161, 162, 163, 164, 165] (by decide +kernel) (by decide +kernel)
set_option maxRecDepth 20000 in
theorem gX3_erase_X0_doOwn : GoodIn wsX3_erase (wsV RX3 70 RX0 yX0_doOwn wsX0_doOwn) := goodIn_app (goodIn_of _ (by decide +kernel)) ggX3_erase_X0_doOwn
theorem dX3_erase_0 : decode cX3_erase 0 = .ok (.aload_n 0, 1) := by decide +kernel
theorem dX3_erase_1 : decode cX3_erase 1 = .ok (.iload_n 1, 1) := by decide +kernel
theorem dX3_erase_2 : decode cX3_erase 2 = .ok (.iload_n 2, 1) := by decide +kernel
theorem dX3_erase_3 : decode cX3_erase 3 = .ok (.invokevirtual 48, 3) := by decide +kernel
theorem dX3_erase_6 : decode cX3_erase 6 = .ok (.astore 4, 2) := by decide +kernel
theorem dX3_erase_8 : decode cX3_erase 8 = .ok (.aload 4, 2) := by decide +kernel
theorem dX3_erase_10 : decode cX3_erase 10 = .ok (.ifnull 16, 3) := by decide +kernel
theorem dX3_erase_13 : decode cX3_erase 13 = .ok (.iload_n 3, 1) := by decide +kernel
theorem dX3_erase_14 : decode cX3_erase 14 = .ok (.ifCond .lt 12, 3) := by decide +kernel
theorem dX3_erase_17 : decode cX3_erase 17 = .ok (.iload_n 3, 1) := by decide +kernel
theorem dX3_erase_18 : decode cX3_erase 18 = .ok (.aload 4, 2) := by decide +kernel
theorem dX3_erase_20 : decode cX3_erase 20 = .ok (.getfield 52, 3) := by decide +kernel
theorem dX3_erase_23 : decode cX3_erase 23 = .ok (.if_icmp .lt 5, 3) := by decide +kernel
theorem dX3_erase_26 : decode cX3_erase 26 = .ok (.iconst (-1), 1) := by decide +kernel
theorem dX3_erase_27 : decode cX3_erase 27 = .ok (.ireturn, 1) := by decide +kernel
theorem dX3_erase_28 : decode cX3_erase 28 = .ok (.aload 4, 2) := by decide +kernel
theorem dX3_erase_30 : decode cX3_erase 30 = .ok (.getfield 62, 3) := by decide +kernel
theorem dX3_erase_33 : decode cX3_erase 33 = .ok (.iload_n 2, 1) := by decide +kernel
theorem dX3_erase_34 : decode cX3_erase 34 = .ok (.aload 4, 2) := by decide +kernel
theorem dX3_erase_36 : decode cX3_erase 36 = .ok (.iload_n 3, 1) := by decide +kernel
theorem dX3_erase_37 : decode cX3_erase 37 = .ok (.invokevirtual 74, 3) := by decide +kernel
theorem dX3_erase_40 : decode cX3_erase 40 = .ok (.invokevirtual 77, 3) := by decide +kernel
theorem dX3_erase_43 : decode cX3_erase 43 = .ok (.istore 5, 2) := by decide +kernel
theorem dX3_erase_45 : decode cX3_erase 45 = .ok (.aload 4, 2) := by decide +kernel
theorem dX3_erase_47 : decode cX3_erase 47 = .ok (.iload 5, 2) := by decide +kernel
theorem dX3_erase_49 : decode cX3_erase 49 = .ok (.invokevirtual 70, 3) := by decide +kernel
theorem dX3_erase_52 : decode cX3_erase 52 = .ok (.iload 5, 2) := by decide +kernel
theorem dX3_erase_54 : decode cX3_erase 54 = .ok (.ireturn, 1) := by decide +kernel
set_option maxRecDepth 20000 in
theorem ggX3_tell_X3_copyAt : GoodIn wsX3_tell wsX3_copyAt := goodIn_r _ [6, 7, 146, 147, 148, 149, 150, 151, 152] (by decide +kernel) (by decide +kernel)
set_option maxRecDepth 20000 in
theorem gX3_tell_X3_copyAt : GoodIn wsX3_tell (wsV RX3 48 RX3 yX3_copyAt wsX3_copyAt) := goodIn_app (goodIn_of _ (by decide +kernel)) ggX3_tell_X3_copyAt
set_option maxRecDepth 20000 in
theorem ggX3_tell_X2_hasMessage : GoodIn wsX3_tell wsX2_hasMessage := goodIn_r _ [12, 13, 153, 154, 155, 156, 157, 158, 159, 160, 161, 162, 163, 164, 165] (by decide +kernel) (by decide +kernel)
set_option maxRecDepth 20000 in
theorem gX3_tell_X2_hasMessage : GoodIn wsX3_tell (wsV RX3 81 RX2 yX2_hasMessage wsX2_hasMessage) := goodIn_app (goodIn_of _ (by decide +kernel)) ggX3_tell_X2_hasMessage
set_option maxRecDepth 20000 in
theorem ggX3_tell_X0_startCall : GoodIn wsX3_tell wsX0_startCall := goodIn_r _ [18, 19, 20, 134, 135, 136, 137, 138, 139, 140, 141, 142, 143, 144, 145] (by decide +kernel) (by decide +kernel)
set_option maxRecDepth 20000 in
theorem gX3_tell_X0_startCall : GoodIn wsX3_tell (wsV RX3 85 RX0 yX0_startCall wsX0_startCall) := goodIn_app (goodIn_of _ (by decide +kernel)) ggX3_tell_X0_startCall
set_option maxRecDepth 20000 in
theorem ggX3_tell_X0_hear : GoodIn wsX3_tell wsX0_hear := goodIn_r _ [24, 25, 26, 27, 9, 10, 11, 12, 13, 28, 29, 30, 17, 31, 32, 33, 34, 35, 36, 37, 38, 39, 40, 41, 42, 43, 44, 45, 46, 47, 48, 49, 50, 51, 52, 53, 54, 55, 56, 57, 58, 59, 60, 61, 62, 63, 64, 65, 66, 67, 68, 69, 70, 71, 72, 73, 74, 75, 76, 77, 78, 79, 80, 81, 82, 83, 84, 85, 86, 87, 88, 89, 90, 91, 92, 19, 93, 94, 95, 96, 97, 98, 99, 100, 101, 102, 103, 104, 105, 106, 107, 108, 109, 110, 111, 112, 113, 114, 115, 116, 117, 118, 119, 20, 120, 121, 122, 123, 124, 125, 126, 127, 128, 134, 135, 136, 137, 138, 139, 140, 141, 142, 143, 144, 145, 153, 154, 155, 156, 157, 158, 159, 160, 161, 162, 163, 164, 165] (by decide +kernel) (by decide +kernel)
set_option maxRecDepth 20000 in
theorem gX3_tell_X0_hear : GoodIn wsX3_tell (wsV RX3 88 RX0 yX0_hear wsX0_hear) := goodIn_app (goodIn_of _ (by decide +kernel)) ggX3_tell_X0_hear
set_option maxRecDepth 20000 in
theorem ggX3_tell_X0_endCall : GoodIn wsX3_tell wsX0_endCall := goodIn_r _ [132, 20, 19, 133, 134, 135, 136, 137, 138, 139, 140, 141, 142, 143, 144, 145] (by decide +kernel) (by decide +kernel)
set_option maxRecDepth 20000 in
theorem gX3_tell_X0_endCall : GoodIn wsX3_tell (wsV RX3 91 RX0 yX0_endCall wsX0_endCall) := goodIn_app (goodIn_of _ (by decide +kernel)) ggX3_tell_X0_endCall
theorem dX3_tell_0 : decode cX3_tell 0 = .ok (.aload_n 0, 1) := by decide +kernel
theorem dX3_tell_1 : decode cX3_tell 1 = .ok (.iload_n 1, 1) := by decide +kernel
theorem dX3_tell_2 : decode cX3_tell 2 = .ok (.iload_n 2, 1) := by decide +kernel
theorem dX3_tell_3 : decode cX3_tell 3 = .ok (.invokevirtual 48, 3) := by decide +kernel
theorem dX3_tell_6 : decode cX3_tell 6 = .ok (.astore 4, 2) := by decide +kernel
theorem dX3_tell_8 : decode cX3_tell 8 = .ok (.aload 4, 2) := by decide +kernel
theorem dX3_tell_10 : decode cX3_tell 10 = .ok (.ifnull 15, 3) := by decide +kernel
theorem dX3_tell_13 : decode cX3_tell 13 = .ok (.aload 4, 2) := by decide +kernel
theorem dX3_tell_15 : decode cX3_tell 15 = .ok (.getfield 62, 3) := by decide +kernel
theorem dX3_tell_18 : decode cX3_tell 18 = .ok (.iload_n 3, 1) := by decide +kernel
theorem dX3_tell_19 : decode cX3_tell 19 = .ok (.invokevirtual 81, 3) := by decide +kernel
theorem dX3_tell_22 : decode cX3_tell 22 = .ok (.ifCond .ne 5, 3) := by decide +kernel
theorem dX3_tell_25 : decode cX3_tell 25 = .ok (.iconst (-1), 1) := by decide +kernel
theorem dX3_tell_26 : decode cX3_tell 26 = .ok (.ireturn, 1) := by decide +kernel
theorem dX3_tell_27 : decode cX3_tell 27 = .ok (.aload 4, 2) := by decide +kernel
theorem dX3_tell_29 : decode cX3_tell 29 = .ok (.invokevirtual 85, 3) := by decide +kernel
theorem dX3_tell_32 : decode cX3_tell 32 = .ok (.aload 4, 2) := by decide +kernel
theorem dX3_tell_34 : decode cX3_tell 34 = .ok (.iload_n 3, 1) := by decide +kernel
theorem dX3_tell_35 : decode cX3_tell 35 = .ok (.invokevirtual 88, 3) := by decide +kernel
theorem dX3_tell_38 : decode cX3_tell 38 = .ok (.istore 5, 2) := by decide +kernel
theorem dX3_tell_40 : decode cX3_tell 40 = .ok (.aload 4, 2) := by decide +kernel
theorem dX3_tell_42 : decode cX3_tell 42 = .ok (.invokevirtual 91, 3) := by decide +kernel
theorem dX3_tell_45 : decode cX3_tell 45 = .ok (.iload 5, 2) := by decide +kernel
theorem dX3_tell_47 : decode cX3_tell 47 = .ok (.ireturn, 1) := by decide +kernel
set_option maxRecDepth 20000 in
theorem ggX3_share_X3_copyAt : GoodIn wsX3_share wsX3_copyAt := goodIn_r _ [7, 8, 160, 161, 162, 163, 164, 165, 166] (by decide +kernel) (by decide +kernel)
set_option maxRecDepth 20000 in
theorem gX3_share_X3_copyAt : GoodIn wsX3_share (wsV RX3 48 RX3 yX3_copyAt wsX3_copyAt) := goodIn_app (goodIn_of _ (by decide +kernel)) ggX3_share_X3_copyAt
set_option maxRecDepth 20000 in
theorem ggX3_share_X0_startCall : GoodIn wsX3_share wsX0_startCall := goodIn_r _ [13, 14, 15, 135, 136, 137, 138, 139, 140, 141, 142, 143, 144, 145, 146] (by decide +kernel) (by decide +kernel)
set_option maxRecDepth 20000 in
theorem gX3_share_X0_startCall : GoodIn wsX3_share (wsV RX3 85 RX0 yX0_startCall wsX0_startCall) := goodIn_app (goodIn_of _ (by decide +kernel)) ggX3_share_X0_startCall
set_option maxRecDepth 20000 in
theorem ggX3_share_X0_stateOf : GoodIn wsX3_share wsX0_stateOf := goodIn_r _ [19, 20, 135, 136, 137, 138, 139, 140, 141, 142, 143, 144, 145, 146] (by decide +kernel) (by decide +kernel)
set_option maxRecDepth 20000 in
theorem gX3_share_X0_stateOf : GoodIn wsX3_share (wsV RX3 97 RX0 yX0_stateOf wsX0_stateOf) := goodIn_app (goodIn_of _ (by decide +kernel)) ggX3_share_X0_stateOf
set_option maxRecDepth 20000 in
theorem ggX3_share_X0_hear : GoodIn wsX3_share wsX0_hear := goodIn_r _ [24, 25, 26, 27, 28, 29, 30, 31, 32, 33, 17, 18, 12, 19, 20, 34, 35, 36, 37, 38, 39, 40, 41, 42, 43, 44, 45, 46, 47, 48, 49, 50, 51, 52, 53, 54, 55, 56, 57, 58, 59, 60, 61, 62, 63, 64, 65, 66, 67, 68, 69, 70, 71, 72, 73, 74, 75, 76, 77, 78, 79, 80, 81, 82, 83, 84, 85, 86, 87, 88, 89, 90, 91, 92, 93, 14, 94, 95, 96, 97, 98, 99, 100, 101, 102, 103, 104, 105, 106, 107, 108, 109, 110, 111, 112, 113, 114, 115, 116, 117, 118, 119, 120, 15, 121, 122, 123, 124, 125, 126, 127, 128, 129, 135, 136, 137, 138, 139, 140, 141, 142, 143, 144, 145, 146, 147, 148, 149, 150, 151, 152, 153, 154, 155, 156, 157, 158, 159] (by decide +kernel) (by decide +kernel)
set_option maxRecDepth 20000 in
theorem gX3_share_X0_hear : GoodIn wsX3_share (wsV RX3 88 RX0 yX0_hear wsX0_hear) := goodIn_app (goodIn_of _ (by decide +kernel)) ggX3_share_X0_hear
set_option maxRecDepth 20000 in
theorem ggX3_share_X0_endCall : GoodIn wsX3_share wsX0_endCall := goodIn_r _ [133, 15, 14, 134, 135, 136, 137, 138, 139, 140, 141, 142, 143, 144, 145, 146] (by decide +kernel) (by decide +kernel)
set_option maxRecDepth 20000 in
theorem gX3_share_X0_endCall : GoodIn wsX3_share (wsV RX3 91 RX0 yX0_endCall wsX0_endCall) := goodIn_app (goodIn_of _ (by decide +kernel)) ggX3_share_X0_endCall
theorem dX3_share_0 : decode cX3_share 0 = .ok (.aload_n 0, 1) := by decide +kernel
theorem dX3_share_1 : decode cX3_share 1 = .ok (.iload_n 1, 1) := by decide +kernel
theorem dX3_share_2 : decode cX3_share 2 = .ok (.iload_n 2, 1) := by decide +kernel
theorem dX3_share_3 : decode cX3_share 3 = .ok (.invokevirtual 48, 3) := by decide +kernel
theorem dX3_share_6 : decode cX3_share 6 = .ok (.astore 5, 2) := by decide +kernel
theorem dX3_share_8 : decode cX3_share 8 = .ok (.aload_n 0, 1) := by decide +kernel
theorem dX3_share_9 : decode cX3_share 9 = .ok (.iload_n 1, 1) := by decide +kernel
theorem dX3_share_10 : decode cX3_share 10 = .ok (.iload_n 3, 1) := by decide +kernel
theorem dX3_share_11 : decode cX3_share 11 = .ok (.invokevirtual 48, 3) := by decide +kernel
theorem dX3_share_14 : decode cX3_share 14 = .ok (.astore 6, 2) := by decide +kernel
theorem dX3_share_16 : decode cX3_share 16 = .ok (.aload 5, 2) := by decide +kernel
theorem dX3_share_18 : decode cX3_share 18 = .ok (.ifnull 8, 3) := by decide +kernel
theorem dX3_share_21 : decode cX3_share 21 = .ok (.aload 6, 2) := by decide +kernel
theorem dX3_share_23 : decode cX3_share 23 = .ok (.ifnonnull 5, 3) := by decide +kernel
theorem dX3_share_26 : decode cX3_share 26 = .ok (.iconst (-1), 1) := by decide +kernel
theorem dX3_share_27 : decode cX3_share 27 = .ok (.ireturn, 1) := by decide +kernel
theorem dX3_share_28 : decode cX3_share 28 = .ok (.aload 6, 2) := by decide +kernel
theorem dX3_share_30 : decode cX3_share 30 = .ok (.invokevirtual 85, 3) := by decide +kernel
theorem dX3_share_33 : decode cX3_share 33 = .ok (.iconst 0, 1) := by decide +kernel
theorem dX3_share_34 : decode cX3_share 34 = .ok (.istore 7, 2) := by decide +kernel
theorem dX3_share_36 : decode cX3_share 36 = .ok (.aload 5, 2) := by decide +kernel
theorem dX3_share_38 : decode cX3_share 38 = .ok (.getfield 62, 3) := by decide +kernel
theorem dX3_share_41 : decode cX3_share 41 = .ok (.getfield 94, 3) := by decide +kernel
theorem dX3_share_44 : decode cX3_share 44 = .ok (.istore 8, 2) := by decide +kernel
theorem dX3_share_46 : decode cX3_share 46 = .ok (.iconst 0, 1) := by decide +kernel
theorem dX3_share_47 : decode cX3_share 47 = .ok (.istore 9, 2) := by decide +kernel
theorem dX3_share_49 : decode cX3_share 49 = .ok (.iload 9, 2) := by decide +kernel
theorem dX3_share_51 : decode cX3_share 51 = .ok (.iload 8, 2) := by decide +kernel
theorem dX3_share_53 : decode cX3_share 53 = .ok (.if_icmp .ge 51, 3) := by decide +kernel
theorem dX3_share_56 : decode cX3_share 56 = .ok (.iload 4, 2) := by decide +kernel
theorem dX3_share_58 : decode cX3_share 58 = .ok (.ifCond .eq 13, 3) := by decide +kernel
theorem dX3_share_61 : decode cX3_share 61 = .ok (.iload 8, 2) := by decide +kernel
theorem dX3_share_63 : decode cX3_share 63 = .ok (.iconst 1, 1) := by decide +kernel
theorem dX3_share_64 : decode cX3_share 64 = .ok (.isub, 1) := by decide +kernel
theorem dX3_share_65 : decode cX3_share 65 = .ok (.iload 9, 2) := by decide +kernel
theorem dX3_share_67 : decode cX3_share 67 = .ok (.isub, 1) := by decide +kernel
theorem dX3_share_68 : decode cX3_share 68 = .ok (.goto 5, 3) := by decide +kernel
theorem dX3_share_71 : decode cX3_share 71 = .ok (.iload 9, 2) := by decide +kernel
theorem dX3_share_73 : decode cX3_share 73 = .ok (.istore 10, 2) := by decide +kernel
theorem dX3_share_75 : decode cX3_share 75 = .ok (.aload 5, 2) := by decide +kernel
theorem dX3_share_77 : decode cX3_share 77 = .ok (.iload 10, 2) := by decide +kernel
theorem dX3_share_79 : decode cX3_share 79 = .ok (.invokevirtual 97, 3) := by decide +kernel
theorem dX3_share_82 : decode cX3_share 82 = .ok (.iconst 2, 1) := by decide +kernel
theorem dX3_share_83 : decode cX3_share 83 = .ok (.if_icmp .ne 15, 3) := by decide +kernel
theorem dX3_share_86 : decode cX3_share 86 = .ok (.iload 7, 2) := by decide +kernel
theorem dX3_share_88 : decode cX3_share 88 = .ok (.aload 6, 2) := by decide +kernel
theorem dX3_share_90 : decode cX3_share 90 = .ok (.iload 10, 2) := by decide +kernel
theorem dX3_share_92 : decode cX3_share 92 = .ok (.invokevirtual 88, 3) := by decide +kernel
theorem dX3_share_95 : decode cX3_share 95 = .ok (.iadd, 1) := by decide +kernel
theorem dX3_share_96 : decode cX3_share 96 = .ok (.istore 7, 2) := by decide +kernel
theorem dX3_share_98 : decode cX3_share 98 = .ok (.iinc 9 1, 3) := by decide +kernel
theorem dX3_share_101 : decode cX3_share 101 = .ok (.goto (-52), 3) := by decide +kernel
theorem dX3_share_104 : decode cX3_share 104 = .ok (.aload 6, 2) := by decide +kernel
theorem dX3_share_106 : decode cX3_share 106 = .ok (.invokevirtual 91, 3) := by decide +kernel
theorem dX3_share_109 : decode cX3_share 109 = .ok (.iload 7, 2) := by decide +kernel
theorem dX3_share_111 : decode cX3_share 111 = .ok (.ireturn, 1) := by decide +kernel
set_option maxRecDepth 20000 in
theorem ggX3_look_X3_copyAt : GoodIn wsX3_look wsX3_copyAt := goodIn_r _ [13, 14, 40, 41, 42, 43, 44, 45, 46] (by decide +kernel) (by decide +kernel)
set_option maxRecDepth 20000 in
theorem gX3_look_X3_copyAt : GoodIn wsX3_look (wsV RX3 48 RX3 yX3_copyAt wsX3_copyAt) := goodIn_app (goodIn_of _ (by decide +kernel)) ggX3_look_X3_copyAt
theorem dX3_look_0 : decode cX3_look 0 = .ok (.aload_n 0, 1) := by decide +kernel
theorem dX3_look_1 : decode cX3_look 1 = .ok (.iload_n 1, 1) := by decide +kernel
theorem dX3_look_2 : decode cX3_look 2 = .ok (.iload_n 2, 1) := by decide +kernel
theorem dX3_look_3 : decode cX3_look 3 = .ok (.invokevirtual 48, 3) := by decide +kernel
theorem dX3_look_6 : decode cX3_look 6 = .ok (.astore 4, 2) := by decide +kernel
theorem dX3_look_8 : decode cX3_look 8 = .ok (.aload 4, 2) := by decide +kernel
theorem dX3_look_10 : decode cX3_look 10 = .ok (.ifnonnull 5, 3) := by decide +kernel
theorem dX3_look_13 : decode cX3_look 13 = .ok (.iconst (-1), 1) := by decide +kernel
theorem dX3_look_14 : decode cX3_look 14 = .ok (.ireturn, 1) := by decide +kernel
theorem dX3_look_15 : decode cX3_look 15 = .ok (.iload_n 3, 1) := by decide +kernel
theorem dX3_look_16 : decode cX3_look 16 = .ok (.tableswitch 92 0 6 #[44, 53, 62, 68, 74, 80, 86], 44) := by decide +kernel
theorem dX3_look_60 : decode cX3_look 60 = .ok (.aload 4, 2) := by decide +kernel
theorem dX3_look_62 : decode cX3_look 62 = .ok (.getfield 62, 3) := by decide +kernel
theorem dX3_look_65 : decode cX3_look 65 = .ok (.getfield 94, 3) := by decide +kernel
theorem dX3_look_68 : decode cX3_look 68 = .ok (.ireturn, 1) := by decide +kernel
theorem dX3_look_69 : decode cX3_look 69 = .ok (.aload 4, 2) := by decide +kernel
theorem dX3_look_71 : decode cX3_look 71 = .ok (.getfield 62, 3) := by decide +kernel
theorem dX3_look_74 : decode cX3_look 74 = .ok (.getfield 100, 3) := by decide +kernel
theorem dX3_look_77 : decode cX3_look 77 = .ok (.ireturn, 1) := by decide +kernel
theorem dX3_look_78 : decode cX3_look 78 = .ok (.aload 4, 2) := by decide +kernel
theorem dX3_look_80 : decode cX3_look 80 = .ok (.getfield 103, 3) := by decide +kernel
theorem dX3_look_83 : decode cX3_look 83 = .ok (.ireturn, 1) := by decide +kernel
theorem dX3_look_84 : decode cX3_look 84 = .ok (.aload 4, 2) := by decide +kernel
theorem dX3_look_86 : decode cX3_look 86 = .ok (.getfield 52, 3) := by decide +kernel
theorem dX3_look_89 : decode cX3_look 89 = .ok (.ireturn, 1) := by decide +kernel
theorem dX3_look_90 : decode cX3_look 90 = .ok (.aload 4, 2) := by decide +kernel
theorem dX3_look_92 : decode cX3_look 92 = .ok (.getfield 106, 3) := by decide +kernel
theorem dX3_look_95 : decode cX3_look 95 = .ok (.ireturn, 1) := by decide +kernel
theorem dX3_look_96 : decode cX3_look 96 = .ok (.aload 4, 2) := by decide +kernel
theorem dX3_look_98 : decode cX3_look 98 = .ok (.getfield 109, 3) := by decide +kernel
theorem dX3_look_101 : decode cX3_look 101 = .ok (.ireturn, 1) := by decide +kernel
theorem dX3_look_102 : decode cX3_look 102 = .ok (.aload 4, 2) := by decide +kernel
theorem dX3_look_104 : decode cX3_look 104 = .ok (.getfield 112, 3) := by decide +kernel
theorem dX3_look_107 : decode cX3_look 107 = .ok (.ireturn, 1) := by decide +kernel
theorem dX3_look_108 : decode cX3_look 108 = .ok (.iconst (-1), 1) := by decide +kernel
theorem dX3_look_109 : decode cX3_look 109 = .ok (.ireturn, 1) := by decide +kernel
set_option maxRecDepth 20000 in
theorem ggX3_message_X3_textAt : GoodIn wsX3_message wsX3_textAt := goodIn_r _ [5, 6, 54, 55, 56, 57, 58, 59, 60] (by decide +kernel) (by decide +kernel)
set_option maxRecDepth 20000 in
theorem gX3_message_X3_textAt : GoodIn wsX3_message (wsV RX3 115 RX3 yX3_textAt wsX3_textAt) := goodIn_app (goodIn_of _ (by decide +kernel)) ggX3_message_X3_textAt
set_option maxRecDepth 20000 in
theorem ggX3_message_X2_hasMessage : GoodIn wsX3_message wsX2_hasMessage := goodIn_r _ [11, 12, 61, 62, 63, 64, 65, 66, 67, 68, 69, 70, 71, 72, 73] (by decide +kernel) (by decide +kernel)
set_option maxRecDepth 20000 in
theorem gX3_message_X2_hasMessage : GoodIn wsX3_message (wsV RX3 81 RX2 yX2_hasMessage wsX2_hasMessage) := goodIn_app (goodIn_of _ (by decide +kernel)) ggX3_message_X2_hasMessage
set_option maxRecDepth 20000 in
theorem ggX3_message_X2_subjectOf : GoodIn wsX3_message wsX2_subjectOf := goodIn_r _ [16, 17, 18, 8, 9, 10, 11, 12, 61, 62, 63, 64, 65, 66, 67, 68, 69, 70, 71, 72, 73] (by decide +kernel) (by decide +kernel)
set_option maxRecDepth 20000 in
theorem gX3_message_X2_subjectOf : GoodIn wsX3_message (wsV RX3 119 RX2 yX2_subjectOf wsX2_subjectOf) := goodIn_app (goodIn_of _ (by decide +kernel)) ggX3_message_X2_subjectOf
set_option maxRecDepth 20000 in
theorem ggX3_message_X2_kindOf : GoodIn wsX3_message wsX2_kindOf := goodIn_r _ [22, 23, 18, 8, 9, 10, 11, 12, 61, 62, 63, 64, 65, 66, 67, 68, 69, 70, 71, 72, 73] (by decide +kernel) (by decide +kernel)
set_option maxRecDepth 20000 in
theorem gX3_message_X2_kindOf : GoodIn wsX3_message (wsV RX3 122 RX2 yX2_kindOf wsX2_kindOf) := goodIn_app (goodIn_of _ (by decide +kernel)) ggX3_message_X2_kindOf
set_option maxRecDepth 20000 in
theorem ggX3_message_X2_makerOf : GoodIn wsX3_message wsX2_makerOf := goodIn_r _ [27, 28, 18, 8, 9, 10, 11, 12, 61, 62, 63, 64, 65, 66, 67, 68, 69, 70, 71, 72, 73] (by decide +kernel) (by decide +kernel)
set_option maxRecDepth 20000 in
theorem gX3_message_X2_makerOf : GoodIn wsX3_message (wsV RX3 125 RX2 yX2_makerOf wsX2_makerOf) := goodIn_app (goodIn_of _ (by decide +kernel)) ggX3_message_X2_makerOf
set_option maxRecDepth 20000 in
theorem ggX3_message_X2_markOf : GoodIn wsX3_message wsX2_markOf := goodIn_r _ [32, 33, 34, 35, 36, 10, 37, 38, 61, 62, 63, 64, 65, 66, 67, 68, 69, 70, 71, 72, 73] (by decide +kernel) (by decide +kernel)
set_option maxRecDepth 20000 in
theorem gX3_message_X2_markOf : GoodIn wsX3_message (wsV RX3 128 RX2 yX2_markOf wsX2_markOf) := goodIn_app (goodIn_of _ (by decide +kernel)) ggX3_message_X2_markOf
set_option maxRecDepth 20000 in
theorem ggX3_message_X2_leftOf : GoodIn wsX3_message wsX2_leftOf := goodIn_r _ [42, 43, 34, 35, 36, 10, 37, 38, 61, 62, 63, 64, 65, 66, 67, 68, 69, 70, 71, 72, 73] (by decide +kernel) (by decide +kernel)
set_option maxRecDepth 20000 in
theorem gX3_message_X2_leftOf : GoodIn wsX3_message (wsV RX3 131 RX2 yX2_leftOf wsX2_leftOf) := goodIn_app (goodIn_of _ (by decide +kernel)) ggX3_message_X2_leftOf
set_option maxRecDepth 20000 in
theorem ggX3_message_X2_rightOf : GoodIn wsX3_message wsX2_rightOf := goodIn_r _ [47, 48, 34, 35, 36, 10, 37, 38, 61, 62, 63, 64, 65, 66, 67, 68, 69, 70, 71, 72, 73] (by decide +kernel) (by decide +kernel)
set_option maxRecDepth 20000 in
theorem gX3_message_X2_rightOf : GoodIn wsX3_message (wsV RX3 134 RX2 yX2_rightOf wsX2_rightOf) := goodIn_app (goodIn_of _ (by decide +kernel)) ggX3_message_X2_rightOf
set_option maxRecDepth 20000 in
theorem ggX3_message_X2_letterOf : GoodIn wsX3_message wsX2_letterOf := goodIn_r _ [52, 53, 34, 35, 36, 10, 37, 38, 61, 62, 63, 64, 65, 66, 67, 68, 69, 70, 71, 72, 73] (by decide +kernel) (by decide +kernel)
set_option maxRecDepth 20000 in
theorem gX3_message_X2_letterOf : GoodIn wsX3_message (wsV RX3 137 RX2 yX2_letterOf wsX2_letterOf) := goodIn_app (goodIn_of _ (by decide +kernel)) ggX3_message_X2_letterOf
theorem dX3_message_0 : decode cX3_message 0 = .ok (.aload_n 0, 1) := by decide +kernel
theorem dX3_message_1 : decode cX3_message 1 = .ok (.iload_n 1, 1) := by decide +kernel
theorem dX3_message_2 : decode cX3_message 2 = .ok (.invokevirtual 115, 3) := by decide +kernel
theorem dX3_message_5 : decode cX3_message 5 = .ok (.astore 4, 2) := by decide +kernel
theorem dX3_message_7 : decode cX3_message 7 = .ok (.aload 4, 2) := by decide +kernel
theorem dX3_message_9 : decode cX3_message 9 = .ok (.ifnull 12, 3) := by decide +kernel
theorem dX3_message_12 : decode cX3_message 12 = .ok (.aload 4, 2) := by decide +kernel
theorem dX3_message_14 : decode cX3_message 14 = .ok (.iload_n 2, 1) := by decide +kernel
theorem dX3_message_15 : decode cX3_message 15 = .ok (.invokevirtual 81, 3) := by decide +kernel
theorem dX3_message_18 : decode cX3_message 18 = .ok (.ifCond .ne 5, 3) := by decide +kernel
theorem dX3_message_21 : decode cX3_message 21 = .ok (.iconst (-1), 1) := by decide +kernel
theorem dX3_message_22 : decode cX3_message 22 = .ok (.ireturn, 1) := by decide +kernel
theorem dX3_message_23 : decode cX3_message 23 = .ok (.aload 4, 2) := by decide +kernel
theorem dX3_message_25 : decode cX3_message 25 = .ok (.iload_n 2, 1) := by decide +kernel
theorem dX3_message_26 : decode cX3_message 26 = .ok (.invokevirtual 119, 3) := by decide +kernel
theorem dX3_message_29 : decode cX3_message 29 = .ok (.istore 5, 2) := by decide +kernel
theorem dX3_message_31 : decode cX3_message 31 = .ok (.iload_n 3, 1) := by decide +kernel
theorem dX3_message_32 : decode cX3_message 32 = .ok (.tableswitch 96 0 5 #[40, 47, 54, 62, 75, 88], 40) := by decide +kernel
theorem dX3_message_72 : decode cX3_message 72 = .ok (.aload 4, 2) := by decide +kernel
theorem dX3_message_74 : decode cX3_message 74 = .ok (.iload_n 2, 1) := by decide +kernel
theorem dX3_message_75 : decode cX3_message 75 = .ok (.invokevirtual 122, 3) := by decide +kernel
theorem dX3_message_78 : decode cX3_message 78 = .ok (.ireturn, 1) := by decide +kernel
theorem dX3_message_79 : decode cX3_message 79 = .ok (.aload 4, 2) := by decide +kernel
theorem dX3_message_81 : decode cX3_message 81 = .ok (.iload_n 2, 1) := by decide +kernel
theorem dX3_message_82 : decode cX3_message 82 = .ok (.invokevirtual 125, 3) := by decide +kernel
theorem dX3_message_85 : decode cX3_message 85 = .ok (.ireturn, 1) := by decide +kernel
theorem dX3_message_86 : decode cX3_message 86 = .ok (.aload 4, 2) := by decide +kernel
theorem dX3_message_88 : decode cX3_message 88 = .ok (.iload 5, 2) := by decide +kernel
theorem dX3_message_90 : decode cX3_message 90 = .ok (.invokevirtual 128, 3) := by decide +kernel
theorem dX3_message_93 : decode cX3_message 93 = .ok (.ireturn, 1) := by decide +kernel
theorem dX3_message_94 : decode cX3_message 94 = .ok (.aload 4, 2) := by decide +kernel
theorem dX3_message_96 : decode cX3_message 96 = .ok (.aload 4, 2) := by decide +kernel
theorem dX3_message_98 : decode cX3_message 98 = .ok (.iload 5, 2) := by decide +kernel
theorem dX3_message_100 : decode cX3_message 100 = .ok (.invokevirtual 131, 3) := by decide +kernel
theorem dX3_message_103 : decode cX3_message 103 = .ok (.invokevirtual 128, 3) := by decide +kernel
theorem dX3_message_106 : decode cX3_message 106 = .ok (.ireturn, 1) := by decide +kernel
theorem dX3_message_107 : decode cX3_message 107 = .ok (.aload 4, 2) := by decide +kernel
theorem dX3_message_109 : decode cX3_message 109 = .ok (.aload 4, 2) := by decide +kernel
theorem dX3_message_111 : decode cX3_message 111 = .ok (.iload 5, 2) := by decide +kernel
theorem dX3_message_113 : decode cX3_message 113 = .ok (.invokevirtual 134, 3) := by decide +kernel
theorem dX3_message_116 : decode cX3_message 116 = .ok (.invokevirtual 128, 3) := by decide +kernel
theorem dX3_message_119 : decode cX3_message 119 = .ok (.ireturn, 1) := by decide +kernel
theorem dX3_message_120 : decode cX3_message 120 = .ok (.aload 4, 2) := by decide +kernel
theorem dX3_message_122 : decode cX3_message 122 = .ok (.iload 5, 2) := by decide +kernel
theorem dX3_message_124 : decode cX3_message 124 = .ok (.invokevirtual 137, 3) := by decide +kernel
theorem dX3_message_127 : decode cX3_message 127 = .ok (.ireturn, 1) := by decide +kernel
theorem dX3_message_128 : decode cX3_message 128 = .ok (.iconst (-1), 1) := by decide +kernel
theorem dX3_message_129 : decode cX3_message 129 = .ok (.ireturn, 1) := by decide +kernel
set_option maxRecDepth 20000 in
theorem ggX3_state_X3_copyAt : GoodIn wsX3_state wsX3_copyAt := goodIn_r _ [6, 7, 32, 33, 34, 35, 36, 37, 38] (by decide +kernel) (by decide +kernel)
set_option maxRecDepth 20000 in
theorem gX3_state_X3_copyAt : GoodIn wsX3_state (wsV RX3 48 RX3 yX3_copyAt wsX3_copyAt) := goodIn_app (goodIn_of _ (by decide +kernel)) ggX3_state_X3_copyAt
set_option maxRecDepth 20000 in
theorem ggX3_state_X2_hasMessage : GoodIn wsX3_state wsX2_hasMessage := goodIn_r _ [12, 13, 39, 40, 41, 42, 43, 44, 45, 46, 47, 48, 49, 50, 51] (by decide +kernel) (by decide +kernel)
set_option maxRecDepth 20000 in
theorem gX3_state_X2_hasMessage : GoodIn wsX3_state (wsV RX3 81 RX2 yX2_hasMessage wsX2_hasMessage) := goodIn_app (goodIn_of _ (by decide +kernel)) ggX3_state_X2_hasMessage
set_option maxRecDepth 20000 in
theorem ggX3_state_X0_stateOf : GoodIn wsX3_state wsX0_stateOf := goodIn_r _ [18, 19, 20, 21, 22, 23, 24, 25, 26, 27, 28, 29, 30, 31] (by decide +kernel) (by decide +kernel)
set_option maxRecDepth 20000 in
theorem gX3_state_X0_stateOf : GoodIn wsX3_state (wsV RX3 97 RX0 yX0_stateOf wsX0_stateOf) := goodIn_app (goodIn_of _ (by decide +kernel)) ggX3_state_X0_stateOf
theorem dX3_state_0 : decode cX3_state 0 = .ok (.aload_n 0, 1) := by decide +kernel
theorem dX3_state_1 : decode cX3_state 1 = .ok (.iload_n 1, 1) := by decide +kernel
theorem dX3_state_2 : decode cX3_state 2 = .ok (.iload_n 2, 1) := by decide +kernel
theorem dX3_state_3 : decode cX3_state 3 = .ok (.invokevirtual 48, 3) := by decide +kernel
theorem dX3_state_6 : decode cX3_state 6 = .ok (.astore 4, 2) := by decide +kernel
theorem dX3_state_8 : decode cX3_state 8 = .ok (.aload 4, 2) := by decide +kernel
theorem dX3_state_10 : decode cX3_state 10 = .ok (.ifnull 15, 3) := by decide +kernel
theorem dX3_state_13 : decode cX3_state 13 = .ok (.aload 4, 2) := by decide +kernel
theorem dX3_state_15 : decode cX3_state 15 = .ok (.getfield 62, 3) := by decide +kernel
theorem dX3_state_18 : decode cX3_state 18 = .ok (.iload_n 3, 1) := by decide +kernel
theorem dX3_state_19 : decode cX3_state 19 = .ok (.invokevirtual 81, 3) := by decide +kernel
theorem dX3_state_22 : decode cX3_state 22 = .ok (.ifCond .ne 5, 3) := by decide +kernel
theorem dX3_state_25 : decode cX3_state 25 = .ok (.iconst (-1), 1) := by decide +kernel
theorem dX3_state_26 : decode cX3_state 26 = .ok (.ireturn, 1) := by decide +kernel
theorem dX3_state_27 : decode cX3_state 27 = .ok (.aload 4, 2) := by decide +kernel
theorem dX3_state_29 : decode cX3_state 29 = .ok (.iload_n 3, 1) := by decide +kernel
theorem dX3_state_30 : decode cX3_state 30 = .ok (.invokevirtual 97, 3) := by decide +kernel
theorem dX3_state_33 : decode cX3_state 33 = .ok (.ireturn, 1) := by decide +kernel
set_option maxRecDepth 20000 in
theorem ggX3_character_X3_copyAt : GoodIn wsX3_character wsX3_copyAt := goodIn_r _ [7, 8, 64, 65, 66, 67, 68, 69, 70] (by decide +kernel) (by decide +kernel)
set_option maxRecDepth 20000 in
theorem gX3_character_X3_copyAt : GoodIn wsX3_character (wsV RX3 48 RX3 yX3_copyAt wsX3_copyAt) := goodIn_app (goodIn_of _ (by decide +kernel)) ggX3_character_X3_copyAt
set_option maxRecDepth 20000 in
theorem ggX3_character_X0_characterAt : GoodIn wsX3_character wsX0_characterAt := goodIn_r _ [13, 14, 15, 52, 53, 54, 55, 56, 57, 58, 59, 60, 61, 62, 63] (by decide +kernel) (by decide +kernel)
set_option maxRecDepth 20000 in
theorem gX3_character_X0_characterAt : GoodIn wsX3_character (wsV RX3 140 RX0 yX0_characterAt wsX0_characterAt) := goodIn_app (goodIn_of _ (by decide +kernel)) ggX3_character_X0_characterAt
set_option maxRecDepth 20000 in
theorem ggX3_character_X2_markOf : GoodIn wsX3_character wsX2_markOf := goodIn_r _ [20, 21, 22, 23, 24, 19, 25, 26, 71, 72, 73, 74, 75, 76, 77, 78, 79, 80, 81, 82, 83] (by decide +kernel) (by decide +kernel)
