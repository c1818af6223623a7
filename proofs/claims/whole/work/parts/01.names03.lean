theorem dX0_makeEmpty_3 : decode cX0_makeEmpty 3 = .ok (.bipush 60, 2) := by decide +kernel
theorem dX0_makeEmpty_5 : decode cX0_makeEmpty 5 = .ok (.if_icmp .ge 24, 3) := by decide +kernel
theorem dX0_makeEmpty_8 : decode cX0_makeEmpty 8 = .ok (.aload_n 0, 1) := by decide +kernel
theorem dX0_makeEmpty_9 : decode cX0_makeEmpty 9 = .ok (.getfield 19, 3) := by decide +kernel
theorem dX0_makeEmpty_12 : decode cX0_makeEmpty 12 = .ok (.iload_n 1, 1) := by decide +kernel
theorem dX0_makeEmpty_13 : decode cX0_makeEmpty 13 = .ok (.bipush (-2), 2) := by decide +kernel
theorem dX0_makeEmpty_15 : decode cX0_makeEmpty 15 = .ok (.iastore, 1) := by decide +kernel
theorem dX0_makeEmpty_16 : decode cX0_makeEmpty 16 = .ok (.aload_n 0, 1) := by decide +kernel
theorem dX0_makeEmpty_17 : decode cX0_makeEmpty 17 = .ok (.getfield 22, 3) := by decide +kernel
theorem dX0_makeEmpty_20 : decode cX0_makeEmpty 20 = .ok (.iload_n 1, 1) := by decide +kernel
theorem dX0_makeEmpty_21 : decode cX0_makeEmpty 21 = .ok (.iconst 0, 1) := by decide +kernel
theorem dX0_makeEmpty_22 : decode cX0_makeEmpty 22 = .ok (.bastore, 1) := by decide +kernel
theorem dX0_makeEmpty_23 : decode cX0_makeEmpty 23 = .ok (.iinc 1 1, 3) := by decide +kernel
theorem dX0_makeEmpty_26 : decode cX0_makeEmpty 26 = .ok (.goto (-24), 3) := by decide +kernel
theorem dX0_makeEmpty_29 : decode cX0_makeEmpty 29 = .ok (.iconst 0, 1) := by decide +kernel
theorem dX0_makeEmpty_30 : decode cX0_makeEmpty 30 = .ok (.istore_n 1, 1) := by decide +kernel
theorem dX0_makeEmpty_31 : decode cX0_makeEmpty 31 = .ok (.iload_n 1, 1) := by decide +kernel
theorem dX0_makeEmpty_32 : decode cX0_makeEmpty 32 = .ok (.sipush 160, 3) := by decide +kernel
theorem dX0_makeEmpty_35 : decode cX0_makeEmpty 35 = .ok (.if_icmp .ge 16, 3) := by decide +kernel
theorem dX0_makeEmpty_38 : decode cX0_makeEmpty 38 = .ok (.aload_n 0, 1) := by decide +kernel
theorem dX0_makeEmpty_39 : decode cX0_makeEmpty 39 = .ok (.getfield 26, 3) := by decide +kernel
theorem dX0_makeEmpty_42 : decode cX0_makeEmpty 42 = .ok (.iload_n 1, 1) := by decide +kernel
theorem dX0_makeEmpty_43 : decode cX0_makeEmpty 43 = .ok (.iconst 0, 1) := by decide +kernel
theorem dX0_makeEmpty_44 : decode cX0_makeEmpty 44 = .ok (.iastore, 1) := by decide +kernel
theorem dX0_makeEmpty_45 : decode cX0_makeEmpty 45 = .ok (.iinc 1 1, 3) := by decide +kernel
theorem dX0_makeEmpty_48 : decode cX0_makeEmpty 48 = .ok (.goto (-17), 3) := by decide +kernel
theorem dX0_makeEmpty_51 : decode cX0_makeEmpty 51 = .ok (.aload_n 0, 1) := by decide +kernel
theorem dX0_makeEmpty_52 : decode cX0_makeEmpty 52 = .ok (.iconst 0, 1) := by decide +kernel
theorem dX0_makeEmpty_53 : decode cX0_makeEmpty 53 = .ok (.putfield 32, 3) := by decide +kernel
theorem dX0_makeEmpty_56 : decode cX0_makeEmpty 56 = .ok (.aload_n 0, 1) := by decide +kernel
theorem dX0_makeEmpty_57 : decode cX0_makeEmpty 57 = .ok (.iconst 0, 1) := by decide +kernel
theorem dX0_makeEmpty_58 : decode cX0_makeEmpty 58 = .ok (.putfield 36, 3) := by decide +kernel
theorem dX0_makeEmpty_61 : decode cX0_makeEmpty 61 = .ok (.aload_n 0, 1) := by decide +kernel
theorem dX0_makeEmpty_62 : decode cX0_makeEmpty 62 = .ok (.iconst 0, 1) := by decide +kernel
theorem dX0_makeEmpty_63 : decode cX0_makeEmpty 63 = .ok (.putfield 39, 3) := by decide +kernel
theorem dX0_makeEmpty_66 : decode cX0_makeEmpty 66 = .ok (.aload_n 0, 1) := by decide +kernel
theorem dX0_makeEmpty_67 : decode cX0_makeEmpty 67 = .ok (.iconst 0, 1) := by decide +kernel
theorem dX0_makeEmpty_68 : decode cX0_makeEmpty 68 = .ok (.putfield 42, 3) := by decide +kernel
theorem dX0_makeEmpty_71 : decode cX0_makeEmpty 71 = .ok (.aload_n 0, 1) := by decide +kernel
theorem dX0_makeEmpty_72 : decode cX0_makeEmpty 72 = .ok (.iconst 0, 1) := by decide +kernel
theorem dX0_makeEmpty_73 : decode cX0_makeEmpty 73 = .ok (.putfield 45, 3) := by decide +kernel
theorem dX0_makeEmpty_76 : decode cX0_makeEmpty 76 = .ok (.aload_n 0, 1) := by decide +kernel
theorem dX0_makeEmpty_77 : decode cX0_makeEmpty 77 = .ok (.iconst 0, 1) := by decide +kernel
theorem dX0_makeEmpty_78 : decode cX0_makeEmpty 78 = .ok (.putfield 48, 3) := by decide +kernel
theorem dX0_makeEmpty_81 : decode cX0_makeEmpty 81 = .ok (.aload_n 0, 1) := by decide +kernel
theorem dX0_makeEmpty_82 : decode cX0_makeEmpty 82 = .ok (.iconst 0, 1) := by decide +kernel
theorem dX0_makeEmpty_83 : decode cX0_makeEmpty 83 = .ok (.putfield 51, 3) := by decide +kernel
theorem dX0_makeEmpty_86 : decode cX0_makeEmpty 86 = .ok (.return_, 1) := by decide +kernel
theorem dX0_startCall_0 : decode cX0_startCall 0 = .ok (.aload_n 0, 1) := by decide +kernel
theorem dX0_startCall_1 : decode cX0_startCall 1 = .ok (.iconst 0, 1) := by decide +kernel
theorem dX0_startCall_2 : decode cX0_startCall 2 = .ok (.putfield 48, 3) := by decide +kernel
theorem dX0_startCall_5 : decode cX0_startCall 5 = .ok (.aload_n 0, 1) := by decide +kernel
theorem dX0_startCall_6 : decode cX0_startCall 6 = .ok (.iconst 0, 1) := by decide +kernel
theorem dX0_startCall_7 : decode cX0_startCall 7 = .ok (.putfield 51, 3) := by decide +kernel
theorem dX0_startCall_10 : decode cX0_startCall 10 = .ok (.return_, 1) := by decide +kernel
theorem dX0_endCall_0 : decode cX0_endCall 0 = .ok (.aload_n 0, 1) := by decide +kernel
theorem dX0_endCall_1 : decode cX0_endCall 1 = .ok (.getfield 51, 3) := by decide +kernel
theorem dX0_endCall_4 : decode cX0_endCall 4 = .ok (.ifCond .le 11, 3) := by decide +kernel
theorem dX0_endCall_7 : decode cX0_endCall 7 = .ok (.aload_n 0, 1) := by decide +kernel
theorem dX0_endCall_8 : decode cX0_endCall 8 = .ok (.aload_n 0, 1) := by decide +kernel
theorem dX0_endCall_9 : decode cX0_endCall 9 = .ok (.getfield 48, 3) := by decide +kernel
theorem dX0_endCall_12 : decode cX0_endCall 12 = .ok (.putfield 45, 3) := by decide +kernel
theorem dX0_endCall_15 : decode cX0_endCall 15 = .ok (.return_, 1) := by decide +kernel
set_option maxRecDepth 20000 in
theorem ggX0_doOwn_X2_hasMessage : GoodIn wsX0_doOwn wsX2_hasMessage := goodIn_r _ [6, 7, 120, 121, 122, 123, 124, 125, 126, 127, 128, 129, 130, 131, 132] (by decide +kernel) (by decide +kernel)
set_option maxRecDepth 20000 in
theorem gX0_doOwn_X2_hasMessage : GoodIn wsX0_doOwn (wsV RX0 54 RX2 yX2_hasMessage wsX2_hasMessage) := goodIn_app (goodIn_of _ (by decide +kernel)) ggX0_doOwn_X2_hasMessage
set_option maxRecDepth 20000 in
theorem ggX0_doOwn_X0_startCall : GoodIn wsX0_doOwn wsX0_startCall := goodIn_r _ [12, 13, 14, 108, 109, 110, 111, 112, 113, 114, 115, 116, 117, 118, 119] (by decide +kernel) (by decide +kernel)
set_option maxRecDepth 20000 in
theorem gX0_doOwn_X0_startCall : GoodIn wsX0_doOwn (wsV RX0 60 RX0 yX0_startCall wsX0_startCall) := goodIn_app (goodIn_of _ (by decide +kernel)) ggX0_doOwn_X0_startCall
set_option maxRecDepth 20000 in
theorem ggX0_doOwn_X0_carryOut : GoodIn wsX0_doOwn wsX0_carryOut := goodIn_r _ [18, 1, 19, 20, 21, 22, 23, 5, 24, 25, 26, 3, 4, 6, 7, 27, 28, 29, 11, 30, 31, 32, 33, 34, 35, 36, 37, 38, 39, 40, 41, 42, 43, 44, 45, 46, 47, 48, 49, 50, 51, 13, 52, 53, 54, 55, 56, 57, 58, 59, 60, 61, 62, 63, 64, 65, 66, 67, 68, 69, 70, 71, 72, 73, 74, 75, 76, 77, 78, 79, 80, 81, 82, 83, 84, 85, 86, 87, 88, 89, 90, 91, 92, 93, 94, 95, 96, 97, 98, 14, 99, 100, 101, 102, 108, 109, 110, 111, 112, 113, 114, 115, 116, 117, 118, 119, 120, 121, 122, 123, 124, 125, 126, 127, 128, 129, 130, 131, 132] (by decide +kernel) (by decide +kernel)
set_option maxRecDepth 20000 in
theorem gX0_doOwn_X0_carryOut : GoodIn wsX0_doOwn (wsV RX0 63 RX0 yX0_carryOut wsX0_carryOut) := goodIn_app (goodIn_of _ (by decide +kernel)) ggX0_doOwn_X0_carryOut
set_option maxRecDepth 20000 in
theorem ggX0_doOwn_X0_endCall : GoodIn wsX0_doOwn wsX0_endCall := goodIn_r _ [106, 14, 13, 107, 108, 109, 110, 111, 112, 113, 114, 115, 116, 117, 118, 119] (by decide +kernel) (by decide +kernel)
set_option maxRecDepth 20000 in
theorem gX0_doOwn_X0_endCall : GoodIn wsX0_doOwn (wsV RX0 67 RX0 yX0_endCall wsX0_endCall) := goodIn_app (goodIn_of _ (by decide +kernel)) ggX0_doOwn_X0_endCall
theorem dX0_doOwn_0 : decode cX0_doOwn 0 = .ok (.aload_n 0, 1) := by decide +kernel
theorem dX0_doOwn_1 : decode cX0_doOwn 1 = .ok (.getfield 9, 3) := by decide +kernel
theorem dX0_doOwn_4 : decode cX0_doOwn 4 = .ok (.iload_n 1, 1) := by decide +kernel
theorem dX0_doOwn_5 : decode cX0_doOwn 5 = .ok (.invokevirtual 54, 3) := by decide +kernel
theorem dX0_doOwn_8 : decode cX0_doOwn 8 = .ok (.ifCond .ne 4, 3) := by decide +kernel
theorem dX0_doOwn_11 : decode cX0_doOwn 11 = .ok (.return_, 1) := by decide +kernel
theorem dX0_doOwn_12 : decode cX0_doOwn 12 = .ok (.aload_n 0, 1) := by decide +kernel
theorem dX0_doOwn_13 : decode cX0_doOwn 13 = .ok (.invokevirtual 60, 3) := by decide +kernel
theorem dX0_doOwn_16 : decode cX0_doOwn 16 = .ok (.aload_n 0, 1) := by decide +kernel
theorem dX0_doOwn_17 : decode cX0_doOwn 17 = .ok (.iload_n 1, 1) := by decide +kernel
theorem dX0_doOwn_18 : decode cX0_doOwn 18 = .ok (.invokevirtual 63, 3) := by decide +kernel
theorem dX0_doOwn_21 : decode cX0_doOwn 21 = .ok (.aload_n 0, 1) := by decide +kernel
theorem dX0_doOwn_22 : decode cX0_doOwn 22 = .ok (.invokevirtual 67, 3) := by decide +kernel
theorem dX0_doOwn_25 : decode cX0_doOwn 25 = .ok (.return_, 1) := by decide +kernel
set_option maxRecDepth 20000 in
theorem ggX0_hear_X2_hasMessage : GoodIn wsX0_hear wsX2_hasMessage := goodIn_r _ [7, 8, 125, 126, 127, 128, 129, 130, 131, 132, 133, 134, 135, 136, 137] (by decide +kernel) (by decide +kernel)
set_option maxRecDepth 20000 in
theorem gX0_hear_X2_hasMessage : GoodIn wsX0_hear (wsV RX0 54 RX2 yX2_hasMessage wsX2_hasMessage) := goodIn_app (goodIn_of _ (by decide +kernel)) ggX0_hear_X2_hasMessage
set_option maxRecDepth 20000 in
theorem ggX0_hear_X0_stateOf : GoodIn wsX0_hear wsX0_stateOf := goodIn_r _ [13, 14, 113, 114, 115, 116, 117, 118, 119, 120, 121, 122, 123, 124] (by decide +kernel) (by decide +kernel)
set_option maxRecDepth 20000 in
theorem gX0_hear_X0_stateOf : GoodIn wsX0_hear (wsV RX0 70 RX0 yX0_stateOf wsX0_stateOf) := goodIn_app (goodIn_of _ (by decide +kernel)) ggX0_hear_X0_stateOf
set_option maxRecDepth 20000 in
theorem ggX0_hear_X0_canBeDone : GoodIn wsX0_hear wsX0_canBeDone := goodIn_r _ [18, 1, 19, 20, 21, 6, 22, 23, 24, 4, 5, 7, 8, 25, 26, 27, 28, 29, 30, 31, 32, 12, 33, 34, 35, 36, 37, 38, 39, 40, 41, 42, 43, 44, 45, 46, 47, 48, 49, 50, 113, 114, 115, 116, 117, 118, 119, 120, 121, 122, 123, 124, 125, 126, 127, 128, 129, 130, 131, 132, 133, 134, 135, 136, 137] (by decide +kernel) (by decide +kernel)
set_option maxRecDepth 20000 in
theorem gX0_hear_X0_canBeDone : GoodIn wsX0_hear (wsV RX0 74 RX0 yX0_canBeDone wsX0_canBeDone) := goodIn_app (goodIn_of _ (by decide +kernel)) ggX0_hear_X0_canBeDone
set_option maxRecDepth 20000 in
theorem ggX0_hear_X0_setState : GoodIn wsX0_hear wsX0_setState := goodIn_r _ [54, 14, 113, 114, 115, 116, 117, 118, 119, 120, 121, 122, 123, 124] (by decide +kernel) (by decide +kernel)
set_option maxRecDepth 20000 in
theorem gX0_hear_X0_setState : GoodIn wsX0_hear (wsV RX0 77 RX0 yX0_setState wsX0_setState) := goodIn_app (goodIn_of _ (by decide +kernel)) ggX0_hear_X0_setState
set_option maxRecDepth 20000 in
theorem ggX0_hear_X0_carryOut : GoodIn wsX0_hear wsX0_carryOut := goodIn_r _ [58, 1, 59, 60, 19, 20, 21, 6, 22, 23, 24, 4, 5, 7, 8, 51, 52, 53, 12, 54, 14, 25, 26, 27, 28, 29, 61, 62, 63, 64, 65, 66, 67, 68, 69, 70, 34, 71, 72, 73, 74, 75, 36, 37, 38, 39, 40, 41, 42, 43, 44, 45, 30, 31, 32, 33, 35, 46, 47, 48, 49, 50, 76, 77, 78, 79, 80, 81, 82, 83, 84, 85, 86, 87, 88, 89, 90, 91, 92, 93, 94, 95, 96, 97, 98, 99, 100, 101, 102, 103, 104, 105, 106, 107, 113, 114, 115, 116, 117, 118, 119, 120, 121, 122, 123, 124, 125, 126, 127, 128, 129, 130, 131, 132, 133, 134, 135, 136, 137] (by decide +kernel) (by decide +kernel)
set_option maxRecDepth 20000 in
theorem gX0_hear_X0_carryOut : GoodIn wsX0_hear (wsV RX0 63 RX0 yX0_carryOut wsX0_carryOut) := goodIn_app (goodIn_of _ (by decide +kernel)) ggX0_hear_X0_carryOut
set_option maxRecDepth 20000 in
theorem ggX0_hear_X0_leastReady : GoodIn wsX0_hear wsX0_leastReady := goodIn_r _ [111, 2, 1, 112, 9, 10, 11, 12, 13, 14, 15, 16, 17, 18, 19, 20, 21, 6, 22, 23, 24, 4, 5, 7, 8, 25, 26, 27, 28, 29, 30, 31, 32, 33, 34, 35, 36, 37, 38, 39, 40, 41, 42, 43, 44, 45, 46, 47, 48, 49, 50, 113, 114, 115, 116, 117, 118, 119, 120, 121, 122, 123, 124, 125, 126, 127, 128, 129, 130, 131, 132, 133, 134, 135, 136, 137] (by decide +kernel) (by decide +kernel)
set_option maxRecDepth 20000 in
theorem gX0_hear_X0_leastReady : GoodIn wsX0_hear (wsV RX0 81 RX0 yX0_leastReady wsX0_leastReady) := goodIn_app (goodIn_of _ (by decide +kernel)) ggX0_hear_X0_leastReady
theorem dX0_hear_0 : decode cX0_hear 0 = .ok (.aload_n 0, 1) := by decide +kernel
theorem dX0_hear_1 : decode cX0_hear 1 = .ok (.getfield 9, 3) := by decide +kernel
theorem dX0_hear_4 : decode cX0_hear 4 = .ok (.iload_n 1, 1) := by decide +kernel
theorem dX0_hear_5 : decode cX0_hear 5 = .ok (.invokevirtual 54, 3) := by decide +kernel
theorem dX0_hear_8 : decode cX0_hear 8 = .ok (.ifCond .eq 11, 3) := by decide +kernel
theorem dX0_hear_11 : decode cX0_hear 11 = .ok (.aload_n 0, 1) := by decide +kernel
theorem dX0_hear_12 : decode cX0_hear 12 = .ok (.iload_n 1, 1) := by decide +kernel
theorem dX0_hear_13 : decode cX0_hear 13 = .ok (.invokevirtual 70, 3) := by decide +kernel
theorem dX0_hear_16 : decode cX0_hear 16 = .ok (.ifCond .eq 5, 3) := by decide +kernel
theorem dX0_hear_19 : decode cX0_hear 19 = .ok (.iconst 0, 1) := by decide +kernel
theorem dX0_hear_20 : decode cX0_hear 20 = .ok (.ireturn, 1) := by decide +kernel
theorem dX0_hear_21 : decode cX0_hear 21 = .ok (.aload_n 0, 1) := by decide +kernel
theorem dX0_hear_22 : decode cX0_hear 22 = .ok (.iload_n 1, 1) := by decide +kernel
theorem dX0_hear_23 : decode cX0_hear 23 = .ok (.invokevirtual 74, 3) := by decide +kernel
theorem dX0_hear_26 : decode cX0_hear 26 = .ok (.ifCond .ne 21, 3) := by decide +kernel
theorem dX0_hear_29 : decode cX0_hear 29 = .ok (.aload_n 0, 1) := by decide +kernel
theorem dX0_hear_30 : decode cX0_hear 30 = .ok (.iload_n 1, 1) := by decide +kernel
theorem dX0_hear_31 : decode cX0_hear 31 = .ok (.iconst 1, 1) := by decide +kernel
theorem dX0_hear_32 : decode cX0_hear 32 = .ok (.invokevirtual 77, 3) := by decide +kernel
theorem dX0_hear_35 : decode cX0_hear 35 = .ok (.aload_n 0, 1) := by decide +kernel
theorem dX0_hear_36 : decode cX0_hear 36 = .ok (.dup, 1) := by decide +kernel
theorem dX0_hear_37 : decode cX0_hear 37 = .ok (.getfield 42, 3) := by decide +kernel
theorem dX0_hear_40 : decode cX0_hear 40 = .ok (.iconst 1, 1) := by decide +kernel
theorem dX0_hear_41 : decode cX0_hear 41 = .ok (.iadd, 1) := by decide +kernel
theorem dX0_hear_42 : decode cX0_hear 42 = .ok (.putfield 42, 3) := by decide +kernel
theorem dX0_hear_45 : decode cX0_hear 45 = .ok (.iconst 0, 1) := by decide +kernel
theorem dX0_hear_46 : decode cX0_hear 46 = .ok (.ireturn, 1) := by decide +kernel
theorem dX0_hear_47 : decode cX0_hear 47 = .ok (.aload_n 0, 1) := by decide +kernel
theorem dX0_hear_48 : decode cX0_hear 48 = .ok (.iload_n 1, 1) := by decide +kernel
theorem dX0_hear_49 : decode cX0_hear 49 = .ok (.invokevirtual 63, 3) := by decide +kernel
theorem dX0_hear_52 : decode cX0_hear 52 = .ok (.iconst 1, 1) := by decide +kernel
theorem dX0_hear_53 : decode cX0_hear 53 = .ok (.istore_n 2, 1) := by decide +kernel
theorem dX0_hear_54 : decode cX0_hear 54 = .ok (.iconst 0, 1) := by decide +kernel
theorem dX0_hear_55 : decode cX0_hear 55 = .ok (.istore_n 3, 1) := by decide +kernel
theorem dX0_hear_56 : decode cX0_hear 56 = .ok (.iload_n 3, 1) := by decide +kernel
theorem dX0_hear_57 : decode cX0_hear 57 = .ok (.sipush 160, 3) := by decide +kernel
theorem dX0_hear_60 : decode cX0_hear 60 = .ok (.if_icmp .ge 43, 3) := by decide +kernel
theorem dX0_hear_63 : decode cX0_hear 63 = .ok (.aload_n 0, 1) := by decide +kernel
theorem dX0_hear_64 : decode cX0_hear 64 = .ok (.invokevirtual 81, 3) := by decide +kernel
theorem dX0_hear_67 : decode cX0_hear 67 = .ok (.istore 4, 2) := by decide +kernel
theorem dX0_hear_69 : decode cX0_hear 69 = .ok (.iload 4, 2) := by decide +kernel
theorem dX0_hear_71 : decode cX0_hear 71 = .ok (.iconst (-1), 1) := by decide +kernel
theorem dX0_hear_72 : decode cX0_hear 72 = .ok (.if_icmp .ne 6, 3) := by decide +kernel
theorem dX0_hear_75 : decode cX0_hear 75 = .ok (.goto 28, 3) := by decide +kernel
theorem dX0_hear_78 : decode cX0_hear 78 = .ok (.aload_n 0, 1) := by decide +kernel
theorem dX0_hear_79 : decode cX0_hear 79 = .ok (.dup, 1) := by decide +kernel
theorem dX0_hear_80 : decode cX0_hear 80 = .ok (.getfield 42, 3) := by decide +kernel
theorem dX0_hear_83 : decode cX0_hear 83 = .ok (.iconst 1, 1) := by decide +kernel
theorem dX0_hear_84 : decode cX0_hear 84 = .ok (.isub, 1) := by decide +kernel
theorem dX0_hear_85 : decode cX0_hear 85 = .ok (.putfield 42, 3) := by decide +kernel
theorem dX0_hear_88 : decode cX0_hear 88 = .ok (.aload_n 0, 1) := by decide +kernel
theorem dX0_hear_89 : decode cX0_hear 89 = .ok (.iload 4, 2) := by decide +kernel
theorem dX0_hear_91 : decode cX0_hear 91 = .ok (.invokevirtual 63, 3) := by decide +kernel
theorem dX0_hear_94 : decode cX0_hear 94 = .ok (.iinc 2 1, 3) := by decide +kernel
theorem dX0_hear_97 : decode cX0_hear 97 = .ok (.iinc 3 1, 3) := by decide +kernel
theorem dX0_hear_100 : decode cX0_hear 100 = .ok (.goto (-44), 3) := by decide +kernel
theorem dX0_hear_103 : decode cX0_hear 103 = .ok (.iload_n 2, 1) := by decide +kernel
theorem dX0_hear_104 : decode cX0_hear 104 = .ok (.ireturn, 1) := by decide +kernel
set_option maxRecDepth 20000 in
theorem ggX0_leastReady_X0_stateOf : GoodIn wsX0_leastReady wsX0_stateOf := goodIn_r _ [8, 9, 51, 52, 53, 54, 55, 56, 57, 58, 59, 60, 61, 62] (by decide +kernel) (by decide +kernel)
set_option maxRecDepth 20000 in
theorem gX0_leastReady_X0_stateOf : GoodIn wsX0_leastReady (wsV RX0 70 RX0 yX0_stateOf wsX0_stateOf) := goodIn_app (goodIn_of _ (by decide +kernel)) ggX0_leastReady_X0_stateOf
set_option maxRecDepth 20000 in
theorem ggX0_leastReady_X0_canBeDone : GoodIn wsX0_leastReady wsX0_canBeDone := goodIn_r _ [13, 2, 14, 15, 16, 17, 18, 19, 20, 21, 22, 23, 24, 25, 26, 27, 28, 29, 30, 31, 32, 7, 33, 34, 35, 36, 37, 38, 39, 40, 41, 42, 43, 44, 45, 46, 47, 48, 49, 50, 51, 52, 53, 54, 55, 56, 57, 58, 59, 60, 61, 62, 63, 64, 65, 66, 67, 68, 69, 70, 71, 72, 73, 74, 75] (by decide +kernel) (by decide +kernel)
set_option maxRecDepth 20000 in
theorem gX0_leastReady_X0_canBeDone : GoodIn wsX0_leastReady (wsV RX0 74 RX0 yX0_canBeDone wsX0_canBeDone) := goodIn_app (goodIn_of _ (by decide +kernel)) ggX0_leastReady_X0_canBeDone
theorem dX0_leastReady_0 : decode cX0_leastReady 0 = .ok (.aload_n 0, 1) := by decide +kernel
theorem dX0_leastReady_1 : decode cX0_leastReady 1 = .ok (.getfield 42, 3) := by decide +kernel
theorem dX0_leastReady_4 : decode cX0_leastReady 4 = .ok (.ifCond .ne 5, 3) := by decide +kernel
theorem dX0_leastReady_7 : decode cX0_leastReady 7 = .ok (.iconst (-1), 1) := by decide +kernel
theorem dX0_leastReady_8 : decode cX0_leastReady 8 = .ok (.ireturn, 1) := by decide +kernel
theorem dX0_leastReady_9 : decode cX0_leastReady 9 = .ok (.iconst 0, 1) := by decide +kernel
theorem dX0_leastReady_10 : decode cX0_leastReady 10 = .ok (.istore_n 1, 1) := by decide +kernel
theorem dX0_leastReady_11 : decode cX0_leastReady 11 = .ok (.iload_n 1, 1) := by decide +kernel
theorem dX0_leastReady_12 : decode cX0_leastReady 12 = .ok (.aload_n 0, 1) := by decide +kernel
theorem dX0_leastReady_13 : decode cX0_leastReady 13 = .ok (.getfield 9, 3) := by decide +kernel
theorem dX0_leastReady_16 : decode cX0_leastReady 16 = .ok (.getfield 85, 3) := by decide +kernel
theorem dX0_leastReady_19 : decode cX0_leastReady 19 = .ok (.if_icmp .ge 28, 3) := by decide +kernel
theorem dX0_leastReady_22 : decode cX0_leastReady 22 = .ok (.aload_n 0, 1) := by decide +kernel
theorem dX0_leastReady_23 : decode cX0_leastReady 23 = .ok (.iload_n 1, 1) := by decide +kernel
theorem dX0_leastReady_24 : decode cX0_leastReady 24 = .ok (.invokevirtual 70, 3) := by decide +kernel
theorem dX0_leastReady_27 : decode cX0_leastReady 27 = .ok (.iconst 1, 1) := by decide +kernel
theorem dX0_leastReady_28 : decode cX0_leastReady 28 = .ok (.if_icmp .ne 13, 3) := by decide +kernel
theorem dX0_leastReady_31 : decode cX0_leastReady 31 = .ok (.aload_n 0, 1) := by decide +kernel
theorem dX0_leastReady_32 : decode cX0_leastReady 32 = .ok (.iload_n 1, 1) := by decide +kernel
theorem dX0_leastReady_33 : decode cX0_leastReady 33 = .ok (.invokevirtual 74, 3) := by decide +kernel
theorem dX0_leastReady_36 : decode cX0_leastReady 36 = .ok (.ifCond .eq 5, 3) := by decide +kernel
theorem dX0_leastReady_39 : decode cX0_leastReady 39 = .ok (.iload_n 1, 1) := by decide +kernel
theorem dX0_leastReady_40 : decode cX0_leastReady 40 = .ok (.ireturn, 1) := by decide +kernel
theorem dX0_leastReady_41 : decode cX0_leastReady 41 = .ok (.iinc 1 1, 3) := by decide +kernel
theorem dX0_leastReady_44 : decode cX0_leastReady 44 = .ok (.goto (-33), 3) := by decide +kernel
theorem dX0_leastReady_47 : decode cX0_leastReady 47 = .ok (.iconst (-1), 1) := by decide +kernel
theorem dX0_leastReady_48 : decode cX0_leastReady 48 = .ok (.ireturn, 1) := by decide +kernel
set_option maxRecDepth 20000 in
theorem ggX0_canBeDone_X2_subjectOf : GoodIn wsX0_canBeDone wsX2_subjectOf := goodIn_r _ [6, 7, 8, 9, 10, 5, 11, 12, 52, 53, 54, 55, 56, 57, 58, 59, 60, 61, 62, 63, 64] (by decide +kernel) (by decide +kernel)
set_option maxRecDepth 20000 in
theorem gX0_canBeDone_X2_subjectOf : GoodIn wsX0_canBeDone (wsV RX0 88 RX2 yX2_subjectOf wsX2_subjectOf) := goodIn_app (goodIn_of _ (by decide +kernel)) ggX0_canBeDone_X2_subjectOf
set_option maxRecDepth 20000 in
theorem ggX0_canBeDone_X2_kindOf : GoodIn wsX0_canBeDone wsX2_kindOf := goodIn_r _ [16, 17, 8, 9, 10, 5, 11, 12, 52, 53, 54, 55, 56, 57, 58, 59, 60, 61, 62, 63, 64] (by decide +kernel) (by decide +kernel)
set_option maxRecDepth 20000 in
theorem gX0_canBeDone_X2_kindOf : GoodIn wsX0_canBeDone (wsV RX0 91 RX2 yX2_kindOf wsX2_kindOf) := goodIn_app (goodIn_of _ (by decide +kernel)) ggX0_canBeDone_X2_kindOf
set_option maxRecDepth 20000 in
theorem ggX0_canBeDone_X0_placeOf : GoodIn wsX0_canBeDone wsX0_placeOf := goodIn_r _ [22, 23, 24, 40, 41, 42, 43, 44, 45, 46, 47, 48, 49, 50, 51] (by decide +kernel) (by decide +kernel)
set_option maxRecDepth 20000 in
theorem gX0_canBeDone_X0_placeOf : GoodIn wsX0_canBeDone (wsV RX0 94 RX0 yX0_placeOf wsX0_placeOf) := goodIn_app (goodIn_of _ (by decide +kernel)) ggX0_canBeDone_X0_placeOf
set_option maxRecDepth 20000 in
theorem ggX0_canBeDone_X2_leftOf : GoodIn wsX0_canBeDone wsX2_leftOf := goodIn_r _ [28, 29, 30, 31, 32, 5, 33, 34, 52, 53, 54, 55, 56, 57, 58, 59, 60, 61, 62, 63, 64] (by decide +kernel) (by decide +kernel)
set_option maxRecDepth 20000 in
theorem gX0_canBeDone_X2_leftOf : GoodIn wsX0_canBeDone (wsV RX0 97 RX2 yX2_leftOf wsX2_leftOf) := goodIn_app (goodIn_of _ (by decide +kernel)) ggX0_canBeDone_X2_leftOf
set_option maxRecDepth 20000 in
theorem ggX0_canBeDone_X2_rightOf : GoodIn wsX0_canBeDone wsX2_rightOf := goodIn_r _ [38, 39, 30, 31, 32, 5, 33, 34, 52, 53, 54, 55, 56, 57, 58, 59, 60, 61, 62, 63, 64] (by decide +kernel) (by decide +kernel)
set_option maxRecDepth 20000 in
theorem gX0_canBeDone_X2_rightOf : GoodIn wsX0_canBeDone (wsV RX0 100 RX2 yX2_rightOf wsX2_rightOf) := goodIn_app (goodIn_of _ (by decide +kernel)) ggX0_canBeDone_X2_rightOf
theorem dX0_canBeDone_0 : decode cX0_canBeDone 0 = .ok (.aload_n 0, 1) := by decide +kernel
theorem dX0_canBeDone_1 : decode cX0_canBeDone 1 = .ok (.getfield 9, 3) := by decide +kernel
theorem dX0_canBeDone_4 : decode cX0_canBeDone 4 = .ok (.iload_n 1, 1) := by decide +kernel
theorem dX0_canBeDone_5 : decode cX0_canBeDone 5 = .ok (.invokevirtual 88, 3) := by decide +kernel
theorem dX0_canBeDone_8 : decode cX0_canBeDone 8 = .ok (.istore_n 2, 1) := by decide +kernel
theorem dX0_canBeDone_9 : decode cX0_canBeDone 9 = .ok (.aload_n 0, 1) := by decide +kernel
theorem dX0_canBeDone_10 : decode cX0_canBeDone 10 = .ok (.getfield 9, 3) := by decide +kernel
theorem dX0_canBeDone_13 : decode cX0_canBeDone 13 = .ok (.iload_n 1, 1) := by decide +kernel
theorem dX0_canBeDone_14 : decode cX0_canBeDone 14 = .ok (.invokevirtual 91, 3) := by decide +kernel
theorem dX0_canBeDone_17 : decode cX0_canBeDone 17 = .ok (.iconst 1, 1) := by decide +kernel
theorem dX0_canBeDone_18 : decode cX0_canBeDone 18 = .ok (.if_icmp .ne 19, 3) := by decide +kernel
theorem dX0_canBeDone_21 : decode cX0_canBeDone 21 = .ok (.aload_n 0, 1) := by decide +kernel
theorem dX0_canBeDone_22 : decode cX0_canBeDone 22 = .ok (.iload_n 2, 1) := by decide +kernel
theorem dX0_canBeDone_23 : decode cX0_canBeDone 23 = .ok (.invokevirtual 94, 3) := by decide +kernel
theorem dX0_canBeDone_26 : decode cX0_canBeDone 26 = .ok (.bipush (-2), 2) := by decide +kernel
theorem dX0_canBeDone_28 : decode cX0_canBeDone 28 = .ok (.if_icmp .eq 7, 3) := by decide +kernel
theorem dX0_canBeDone_31 : decode cX0_canBeDone 31 = .ok (.iconst 1, 1) := by decide +kernel
theorem dX0_canBeDone_32 : decode cX0_canBeDone 32 = .ok (.goto 4, 3) := by decide +kernel
theorem dX0_canBeDone_35 : decode cX0_canBeDone 35 = .ok (.iconst 0, 1) := by decide +kernel
theorem dX0_canBeDone_36 : decode cX0_canBeDone 36 = .ok (.ireturn, 1) := by decide +kernel
theorem dX0_canBeDone_37 : decode cX0_canBeDone 37 = .ok (.aload_n 0, 1) := by decide +kernel
theorem dX0_canBeDone_38 : decode cX0_canBeDone 38 = .ok (.aload_n 0, 1) := by decide +kernel
theorem dX0_canBeDone_39 : decode cX0_canBeDone 39 = .ok (.getfield 9, 3) := by decide +kernel
theorem dX0_canBeDone_42 : decode cX0_canBeDone 42 = .ok (.iload_n 2, 1) := by decide +kernel
theorem dX0_canBeDone_43 : decode cX0_canBeDone 43 = .ok (.invokevirtual 97, 3) := by decide +kernel
theorem dX0_canBeDone_46 : decode cX0_canBeDone 46 = .ok (.invokevirtual 94, 3) := by decide +kernel
theorem dX0_canBeDone_49 : decode cX0_canBeDone 49 = .ok (.bipush (-2), 2) := by decide +kernel
theorem dX0_canBeDone_51 : decode cX0_canBeDone 51 = .ok (.if_icmp .eq 24, 3) := by decide +kernel
theorem dX0_canBeDone_54 : decode cX0_canBeDone 54 = .ok (.aload_n 0, 1) := by decide +kernel
theorem dX0_canBeDone_55 : decode cX0_canBeDone 55 = .ok (.aload_n 0, 1) := by decide +kernel
theorem dX0_canBeDone_56 : decode cX0_canBeDone 56 = .ok (.getfield 9, 3) := by decide +kernel
theorem dX0_canBeDone_59 : decode cX0_canBeDone 59 = .ok (.iload_n 2, 1) := by decide +kernel
theorem dX0_canBeDone_60 : decode cX0_canBeDone 60 = .ok (.invokevirtual 100, 3) := by decide +kernel
theorem dX0_canBeDone_63 : decode cX0_canBeDone 63 = .ok (.invokevirtual 94, 3) := by decide +kernel
theorem dX0_canBeDone_66 : decode cX0_canBeDone 66 = .ok (.bipush (-2), 2) := by decide +kernel
theorem dX0_canBeDone_68 : decode cX0_canBeDone 68 = .ok (.if_icmp .eq 7, 3) := by decide +kernel
theorem dX0_canBeDone_71 : decode cX0_canBeDone 71 = .ok (.iconst 1, 1) := by decide +kernel
theorem dX0_canBeDone_72 : decode cX0_canBeDone 72 = .ok (.goto 4, 3) := by decide +kernel
theorem dX0_canBeDone_75 : decode cX0_canBeDone 75 = .ok (.iconst 0, 1) := by decide +kernel
theorem dX0_canBeDone_76 : decode cX0_canBeDone 76 = .ok (.ireturn, 1) := by decide +kernel
set_option maxRecDepth 20000 in
theorem ggX0_carryOut_X2_subjectOf : GoodIn wsX0_carryOut wsX2_subjectOf := goodIn_r _ [8, 9, 10, 11, 12, 7, 13, 14, 106, 107, 108, 109, 110, 111, 112, 113, 114, 115, 116, 117, 118] (by decide +kernel) (by decide +kernel)
set_option maxRecDepth 20000 in
theorem gX0_carryOut_X2_subjectOf : GoodIn wsX0_carryOut (wsV RX0 88 RX2 yX2_subjectOf wsX2_subjectOf) := goodIn_app (goodIn_of _ (by decide +kernel)) ggX0_carryOut_X2_subjectOf
set_option maxRecDepth 20000 in
theorem ggX0_carryOut_X0_setState : GoodIn wsX0_carryOut wsX0_setState := goodIn_r _ [19, 20, 94, 95, 96, 97, 98, 99, 100, 101, 102, 103, 104, 105] (by decide +kernel) (by decide +kernel)
set_option maxRecDepth 20000 in
theorem gX0_carryOut_X0_setState : GoodIn wsX0_carryOut (wsV RX0 77 RX0 yX0_setState wsX0_setState) := goodIn_app (goodIn_of _ (by decide +kernel)) ggX0_carryOut_X0_setState
set_option maxRecDepth 20000 in
theorem ggX0_carryOut_X2_kindOf : GoodIn wsX0_carryOut wsX2_kindOf := goodIn_r _ [24, 25, 10, 11, 12, 7, 13, 14, 106, 107, 108, 109, 110, 111, 112, 113, 114, 115, 116, 117, 118] (by decide +kernel) (by decide +kernel)
set_option maxRecDepth 20000 in
theorem gX0_carryOut_X2_kindOf : GoodIn wsX0_carryOut (wsV RX0 91 RX2 yX2_kindOf wsX2_kindOf) := goodIn_app (goodIn_of _ (by decide +kernel)) ggX0_carryOut_X2_kindOf
set_option maxRecDepth 20000 in
theorem ggX0_carryOut_X0_strike : GoodIn wsX0_carryOut wsX0_strike := goodIn_r _ [29, 30, 31, 32, 33, 34, 18, 35, 36, 94, 95, 96, 97, 98, 99, 100, 101, 102, 103, 104, 105] (by decide +kernel) (by decide +kernel)
set_option maxRecDepth 20000 in
theorem gX0_carryOut_X0_strike : GoodIn wsX0_carryOut (wsV RX0 103 RX0 yX0_strike wsX0_strike) := goodIn_app (goodIn_of _ (by decide +kernel)) ggX0_carryOut_X0_strike
set_option maxRecDepth 20000 in
theorem ggX0_carryOut_X0_wootPlace : GoodIn wsX0_carryOut wsX0_wootPlace := goodIn_r _ [40, 1, 41, 42, 43, 44, 7, 45, 46, 47, 48, 49, 50, 51, 52, 53, 54, 18, 55, 36, 56, 57, 58, 59, 60, 61, 62, 63, 64, 65, 66, 67, 68, 69, 70, 71, 72, 73, 74, 75, 94, 95, 96, 97, 98, 99, 100, 101, 102, 103, 104, 105, 106, 107, 108, 109, 110, 111, 112, 113, 114, 115, 116, 117, 118] (by decide +kernel) (by decide +kernel)
set_option maxRecDepth 20000 in
theorem gX0_carryOut_X0_wootPlace : GoodIn wsX0_carryOut (wsV RX0 110 RX0 yX0_wootPlace wsX0_wootPlace) := goodIn_app (goodIn_of _ (by decide +kernel)) ggX0_carryOut_X0_wootPlace
set_option maxRecDepth 20000 in
theorem ggX0_carryOut_X0_yataPlace : GoodIn wsX0_carryOut wsX0_yataPlace := goodIn_r _ [79, 1, 41, 42, 43, 44, 7, 45, 46, 47, 48, 49, 50, 51, 52, 53, 54, 18, 55, 36, 56, 57, 58, 59, 60, 61, 67, 68, 69, 70, 71, 80, 81, 82, 83, 84, 94, 95, 96, 97, 98, 99, 100, 101, 102, 103, 104, 105, 106, 107, 108, 109, 110, 111, 112, 113, 114, 115, 116, 117, 118] (by decide +kernel) (by decide +kernel)
set_option maxRecDepth 20000 in
theorem gX0_carryOut_X0_yataPlace : GoodIn wsX0_carryOut (wsV RX0 113 RX0 yX0_yataPlace wsX0_yataPlace) := goodIn_app (goodIn_of _ (by decide +kernel)) ggX0_carryOut_X0_yataPlace
set_option maxRecDepth 20000 in
theorem ggX0_carryOut_X0_putAt : GoodIn wsX0_carryOut wsX0_putAt := goodIn_r _ [88, 56, 71, 31, 89, 90, 91, 92, 18, 93, 36, 94, 95, 96, 97, 98, 99, 100, 101, 102, 103, 104, 105] (by decide +kernel) (by decide +kernel)
set_option maxRecDepth 20000 in
theorem gX0_carryOut_X0_putAt : GoodIn wsX0_carryOut (wsV RX0 116 RX0 yX0_putAt wsX0_putAt) := goodIn_app (goodIn_of _ (by decide +kernel)) ggX0_carryOut_X0_putAt
theorem dX0_carryOut_0 : decode cX0_carryOut 0 = .ok (.aload_n 0, 1) := by decide +kernel
theorem dX0_carryOut_1 : decode cX0_carryOut 1 = .ok (.getfield 9, 3) := by decide +kernel
theorem dX0_carryOut_4 : decode cX0_carryOut 4 = .ok (.iload_n 1, 1) := by decide +kernel
theorem dX0_carryOut_5 : decode cX0_carryOut 5 = .ok (.invokevirtual 88, 3) := by decide +kernel
theorem dX0_carryOut_8 : decode cX0_carryOut 8 = .ok (.istore_n 2, 1) := by decide +kernel
theorem dX0_carryOut_9 : decode cX0_carryOut 9 = .ok (.aload_n 0, 1) := by decide +kernel
theorem dX0_carryOut_10 : decode cX0_carryOut 10 = .ok (.iload_n 1, 1) := by decide +kernel
theorem dX0_carryOut_11 : decode cX0_carryOut 11 = .ok (.iconst 2, 1) := by decide +kernel
theorem dX0_carryOut_12 : decode cX0_carryOut 12 = .ok (.invokevirtual 77, 3) := by decide +kernel
theorem dX0_carryOut_15 : decode cX0_carryOut 15 = .ok (.aload_n 0, 1) := by decide +kernel
theorem dX0_carryOut_16 : decode cX0_carryOut 16 = .ok (.dup, 1) := by decide +kernel
theorem dX0_carryOut_17 : decode cX0_carryOut 17 = .ok (.getfield 39, 3) := by decide +kernel
theorem dX0_carryOut_20 : decode cX0_carryOut 20 = .ok (.iconst 1, 1) := by decide +kernel
theorem dX0_carryOut_21 : decode cX0_carryOut 21 = .ok (.iadd, 1) := by decide +kernel
theorem dX0_carryOut_22 : decode cX0_carryOut 22 = .ok (.putfield 39, 3) := by decide +kernel
theorem dX0_carryOut_25 : decode cX0_carryOut 25 = .ok (.aload_n 0, 1) := by decide +kernel
theorem dX0_carryOut_26 : decode cX0_carryOut 26 = .ok (.getfield 9, 3) := by decide +kernel
theorem dX0_carryOut_29 : decode cX0_carryOut 29 = .ok (.iload_n 1, 1) := by decide +kernel
theorem dX0_carryOut_30 : decode cX0_carryOut 30 = .ok (.invokevirtual 91, 3) := by decide +kernel
theorem dX0_carryOut_33 : decode cX0_carryOut 33 = .ok (.iconst 1, 1) := by decide +kernel
theorem dX0_carryOut_34 : decode cX0_carryOut 34 = .ok (.if_icmp .ne 11, 3) := by decide +kernel
theorem dX0_carryOut_37 : decode cX0_carryOut 37 = .ok (.aload_n 0, 1) := by decide +kernel
theorem dX0_carryOut_38 : decode cX0_carryOut 38 = .ok (.iload_n 2, 1) := by decide +kernel
theorem dX0_carryOut_39 : decode cX0_carryOut 39 = .ok (.invokevirtual 103, 3) := by decide +kernel
theorem dX0_carryOut_42 : decode cX0_carryOut 42 = .ok (.goto 31, 3) := by decide +kernel
theorem dX0_carryOut_45 : decode cX0_carryOut 45 = .ok (.aload_n 0, 1) := by decide +kernel
theorem dX0_carryOut_46 : decode cX0_carryOut 46 = .ok (.aload_n 0, 1) := by decide +kernel
theorem dX0_carryOut_47 : decode cX0_carryOut 47 = .ok (.getfield 9, 3) := by decide +kernel
theorem dX0_carryOut_50 : decode cX0_carryOut 50 = .ok (.getfield 106, 3) := by decide +kernel
theorem dX0_carryOut_53 : decode cX0_carryOut 53 = .ok (.ifCond .eq 11, 3) := by decide +kernel
theorem dX0_carryOut_56 : decode cX0_carryOut 56 = .ok (.aload_n 0, 1) := by decide +kernel
theorem dX0_carryOut_57 : decode cX0_carryOut 57 = .ok (.iload_n 2, 1) := by decide +kernel
theorem dX0_carryOut_58 : decode cX0_carryOut 58 = .ok (.invokevirtual 110, 3) := by decide +kernel
theorem dX0_carryOut_61 : decode cX0_carryOut 61 = .ok (.goto 8, 3) := by decide +kernel
theorem dX0_carryOut_64 : decode cX0_carryOut 64 = .ok (.aload_n 0, 1) := by decide +kernel
theorem dX0_carryOut_65 : decode cX0_carryOut 65 = .ok (.iload_n 2, 1) := by decide +kernel
theorem dX0_carryOut_66 : decode cX0_carryOut 66 = .ok (.invokevirtual 113, 3) := by decide +kernel
theorem dX0_carryOut_69 : decode cX0_carryOut 69 = .ok (.iload_n 2, 1) := by decide +kernel
theorem dX0_carryOut_70 : decode cX0_carryOut 70 = .ok (.invokevirtual 116, 3) := by decide +kernel
theorem dX0_carryOut_73 : decode cX0_carryOut 73 = .ok (.return_, 1) := by decide +kernel
set_option maxRecDepth 20000 in
theorem ggX0_strike_X0_isSeen : GoodIn wsX0_strike wsX0_isSeen := goodIn_r _ [7, 8, 1, 9, 10, 11, 12, 13, 14, 15, 16, 17, 18, 19, 20] (by decide +kernel) (by decide +kernel)
set_option maxRecDepth 20000 in
theorem gX0_strike_X0_isSeen : GoodIn wsX0_strike (wsV RX0 119 RX0 yX0_isSeen wsX0_isSeen) := goodIn_app (goodIn_of _ (by decide +kernel)) ggX0_strike_X0_isSeen
theorem dX0_strike_0 : decode cX0_strike 0 = .ok (.aload_n 0, 1) := by decide +kernel
theorem dX0_strike_1 : decode cX0_strike 1 = .ok (.iload_n 1, 1) := by decide +kernel
theorem dX0_strike_2 : decode cX0_strike 2 = .ok (.invokevirtual 119, 3) := by decide +kernel
theorem dX0_strike_5 : decode cX0_strike 5 = .ok (.ifCond .eq 26, 3) := by decide +kernel
theorem dX0_strike_8 : decode cX0_strike 8 = .ok (.iload_n 1, 1) := by decide +kernel
theorem dX0_strike_9 : decode cX0_strike 9 = .ok (.bipush 60, 2) := by decide +kernel
theorem dX0_strike_11 : decode cX0_strike 11 = .ok (.if_icmp .ge 20, 3) := by decide +kernel
theorem dX0_strike_14 : decode cX0_strike 14 = .ok (.aload_n 0, 1) := by decide +kernel
theorem dX0_strike_15 : decode cX0_strike 15 = .ok (.getfield 22, 3) := by decide +kernel
theorem dX0_strike_18 : decode cX0_strike 18 = .ok (.iload_n 1, 1) := by decide +kernel
theorem dX0_strike_19 : decode cX0_strike 19 = .ok (.iconst 1, 1) := by decide +kernel
theorem dX0_strike_20 : decode cX0_strike 20 = .ok (.bastore, 1) := by decide +kernel
theorem dX0_strike_21 : decode cX0_strike 21 = .ok (.aload_n 0, 1) := by decide +kernel
theorem dX0_strike_22 : decode cX0_strike 22 = .ok (.dup, 1) := by decide +kernel
theorem dX0_strike_23 : decode cX0_strike 23 = .ok (.getfield 36, 3) := by decide +kernel
theorem dX0_strike_26 : decode cX0_strike 26 = .ok (.iconst 1, 1) := by decide +kernel
theorem dX0_strike_27 : decode cX0_strike 27 = .ok (.isub, 1) := by decide +kernel
theorem dX0_strike_28 : decode cX0_strike 28 = .ok (.putfield 36, 3) := by decide +kernel
theorem dX0_strike_31 : decode cX0_strike 31 = .ok (.return_, 1) := by decide +kernel
set_option maxRecDepth 20000 in
theorem ggX0_putAt_X0_setPlace : GoodIn wsX0_putAt wsX0_setPlace := goodIn_r _ [9, 10, 11, 12, 13, 14, 15, 16, 17, 18, 19, 20, 21, 22] (by decide +kernel) (by decide +kernel)
set_option maxRecDepth 20000 in
theorem gX0_putAt_X0_setPlace : GoodIn wsX0_putAt (wsV RX0 122 RX0 yX0_setPlace wsX0_setPlace) := goodIn_app (goodIn_of _ (by decide +kernel)) ggX0_putAt_X0_setPlace
theorem dX0_putAt_0 : decode cX0_putAt 0 = .ok (.iload_n 1, 1) := by decide +kernel
theorem dX0_putAt_1 : decode cX0_putAt 1 = .ok (.ifCond .lt 20, 3) := by decide +kernel
theorem dX0_putAt_4 : decode cX0_putAt 4 = .ok (.iload_n 1, 1) := by decide +kernel
theorem dX0_putAt_5 : decode cX0_putAt 5 = .ok (.aload_n 0, 1) := by decide +kernel
theorem dX0_putAt_6 : decode cX0_putAt 6 = .ok (.getfield 32, 3) := by decide +kernel
theorem dX0_putAt_9 : decode cX0_putAt 9 = .ok (.if_icmp .gt 12, 3) := by decide +kernel
theorem dX0_putAt_12 : decode cX0_putAt 12 = .ok (.aload_n 0, 1) := by decide +kernel
theorem dX0_putAt_13 : decode cX0_putAt 13 = .ok (.getfield 32, 3) := by decide +kernel
theorem dX0_putAt_16 : decode cX0_putAt 16 = .ok (.bipush 60, 2) := by decide +kernel
theorem dX0_putAt_18 : decode cX0_putAt 18 = .ok (.if_icmp .lt 4, 3) := by decide +kernel
theorem dX0_putAt_21 : decode cX0_putAt 21 = .ok (.return_, 1) := by decide +kernel
theorem dX0_putAt_22 : decode cX0_putAt 22 = .ok (.aload_n 0, 1) := by decide +kernel
theorem dX0_putAt_23 : decode cX0_putAt 23 = .ok (.getfield 32, 3) := by decide +kernel
theorem dX0_putAt_26 : decode cX0_putAt 26 = .ok (.istore_n 3, 1) := by decide +kernel
theorem dX0_putAt_27 : decode cX0_putAt 27 = .ok (.iload_n 3, 1) := by decide +kernel
theorem dX0_putAt_28 : decode cX0_putAt 28 = .ok (.iload_n 1, 1) := by decide +kernel
theorem dX0_putAt_29 : decode cX0_putAt 29 = .ok (.if_icmp .le 34, 3) := by decide +kernel
theorem dX0_putAt_32 : decode cX0_putAt 32 = .ok (.aload_n 0, 1) := by decide +kernel
theorem dX0_putAt_33 : decode cX0_putAt 33 = .ok (.getfield 15, 3) := by decide +kernel
theorem dX0_putAt_36 : decode cX0_putAt 36 = .ok (.iload_n 3, 1) := by decide +kernel
theorem dX0_putAt_37 : decode cX0_putAt 37 = .ok (.aload_n 0, 1) := by decide +kernel
theorem dX0_putAt_38 : decode cX0_putAt 38 = .ok (.getfield 15, 3) := by decide +kernel
theorem dX0_putAt_41 : decode cX0_putAt 41 = .ok (.iload_n 3, 1) := by decide +kernel
theorem dX0_putAt_42 : decode cX0_putAt 42 = .ok (.iconst 1, 1) := by decide +kernel
theorem dX0_putAt_43 : decode cX0_putAt 43 = .ok (.isub, 1) := by decide +kernel
theorem dX0_putAt_44 : decode cX0_putAt 44 = .ok (.iaload, 1) := by decide +kernel
theorem dX0_putAt_45 : decode cX0_putAt 45 = .ok (.iastore, 1) := by decide +kernel
theorem dX0_putAt_46 : decode cX0_putAt 46 = .ok (.aload_n 0, 1) := by decide +kernel
theorem dX0_putAt_47 : decode cX0_putAt 47 = .ok (.aload_n 0, 1) := by decide +kernel
theorem dX0_putAt_48 : decode cX0_putAt 48 = .ok (.getfield 15, 3) := by decide +kernel
theorem dX0_putAt_51 : decode cX0_putAt 51 = .ok (.iload_n 3, 1) := by decide +kernel
theorem dX0_putAt_52 : decode cX0_putAt 52 = .ok (.iaload, 1) := by decide +kernel
theorem dX0_putAt_53 : decode cX0_putAt 53 = .ok (.iload_n 3, 1) := by decide +kernel
theorem dX0_putAt_54 : decode cX0_putAt 54 = .ok (.invokevirtual 122, 3) := by decide +kernel
theorem dX0_putAt_57 : decode cX0_putAt 57 = .ok (.iinc 3 (-1), 3) := by decide +kernel
theorem dX0_putAt_60 : decode cX0_putAt 60 = .ok (.goto (-33), 3) := by decide +kernel
theorem dX0_putAt_63 : decode cX0_putAt 63 = .ok (.aload_n 0, 1) := by decide +kernel
theorem dX0_putAt_64 : decode cX0_putAt 64 = .ok (.getfield 15, 3) := by decide +kernel
theorem dX0_putAt_67 : decode cX0_putAt 67 = .ok (.iload_n 1, 1) := by decide +kernel
theorem dX0_putAt_68 : decode cX0_putAt 68 = .ok (.iload_n 2, 1) := by decide +kernel
theorem dX0_putAt_69 : decode cX0_putAt 69 = .ok (.iastore, 1) := by decide +kernel
theorem dX0_putAt_70 : decode cX0_putAt 70 = .ok (.aload_n 0, 1) := by decide +kernel
theorem dX0_putAt_71 : decode cX0_putAt 71 = .ok (.iload_n 2, 1) := by decide +kernel
theorem dX0_putAt_72 : decode cX0_putAt 72 = .ok (.iload_n 1, 1) := by decide +kernel
theorem dX0_putAt_73 : decode cX0_putAt 73 = .ok (.invokevirtual 122, 3) := by decide +kernel
theorem dX0_putAt_76 : decode cX0_putAt 76 = .ok (.aload_n 0, 1) := by decide +kernel
theorem dX0_putAt_77 : decode cX0_putAt 77 = .ok (.dup, 1) := by decide +kernel
theorem dX0_putAt_78 : decode cX0_putAt 78 = .ok (.getfield 32, 3) := by decide +kernel
theorem dX0_putAt_81 : decode cX0_putAt 81 = .ok (.iconst 1, 1) := by decide +kernel
theorem dX0_putAt_82 : decode cX0_putAt 82 = .ok (.iadd, 1) := by decide +kernel
theorem dX0_putAt_83 : decode cX0_putAt 83 = .ok (.putfield 32, 3) := by decide +kernel
theorem dX0_putAt_86 : decode cX0_putAt 86 = .ok (.aload_n 0, 1) := by decide +kernel
theorem dX0_putAt_87 : decode cX0_putAt 87 = .ok (.dup, 1) := by decide +kernel
theorem dX0_putAt_88 : decode cX0_putAt 88 = .ok (.getfield 36, 3) := by decide +kernel
theorem dX0_putAt_91 : decode cX0_putAt 91 = .ok (.iconst 1, 1) := by decide +kernel
theorem dX0_putAt_92 : decode cX0_putAt 92 = .ok (.iadd, 1) := by decide +kernel
theorem dX0_putAt_93 : decode cX0_putAt 93 = .ok (.putfield 36, 3) := by decide +kernel
theorem dX0_putAt_96 : decode cX0_putAt 96 = .ok (.aload_n 0, 1) := by decide +kernel
theorem dX0_putAt_97 : decode cX0_putAt 97 = .ok (.dup, 1) := by decide +kernel
theorem dX0_putAt_98 : decode cX0_putAt 98 = .ok (.getfield 51, 3) := by decide +kernel
theorem dX0_putAt_101 : decode cX0_putAt 101 = .ok (.iconst 1, 1) := by decide +kernel
theorem dX0_putAt_102 : decode cX0_putAt 102 = .ok (.iadd, 1) := by decide +kernel
theorem dX0_putAt_103 : decode cX0_putAt 103 = .ok (.putfield 51, 3) := by decide +kernel
theorem dX0_putAt_106 : decode cX0_putAt 106 = .ok (.return_, 1) := by decide +kernel
set_option maxRecDepth 20000 in
theorem ggX0_wootPlace_X2_leftOf : GoodIn wsX0_wootPlace wsX2_leftOf := goodIn_r _ [7, 8, 9, 10, 11, 6, 12, 13, 52, 53, 54, 55, 56, 57, 58, 59, 60, 61, 62, 63, 64] (by decide +kernel) (by decide +kernel)
set_option maxRecDepth 20000 in
theorem gX0_wootPlace_X2_leftOf : GoodIn wsX0_wootPlace (wsV RX0 97 RX2 yX2_leftOf wsX2_leftOf) := goodIn_app (goodIn_of _ (by decide +kernel)) ggX0_wootPlace_X2_leftOf
set_option maxRecDepth 20000 in
theorem ggX0_wootPlace_X0_placeOf : GoodIn wsX0_wootPlace wsX0_placeOf := goodIn_r _ [18, 19, 20, 40, 41, 42, 43, 44, 45, 46, 47, 48, 49, 50, 51] (by decide +kernel) (by decide +kernel)
set_option maxRecDepth 20000 in
theorem gX0_wootPlace_X0_placeOf : GoodIn wsX0_wootPlace (wsV RX0 94 RX0 yX0_placeOf wsX0_placeOf) := goodIn_app (goodIn_of _ (by decide +kernel)) ggX0_wootPlace_X0_placeOf
set_option maxRecDepth 20000 in
theorem ggX0_wootPlace_X2_rightOf : GoodIn wsX0_wootPlace wsX2_rightOf := goodIn_r _ [24, 25, 9, 10, 11, 6, 12, 13, 52, 53, 54, 55, 56, 57, 58, 59, 60, 61, 62, 63, 64] (by decide +kernel) (by decide +kernel)
set_option maxRecDepth 20000 in
theorem gX0_wootPlace_X2_rightOf : GoodIn wsX0_wootPlace (wsV RX0 100 RX2 yX2_rightOf wsX2_rightOf) := goodIn_app (goodIn_of _ (by decide +kernel)) ggX0_wootPlace_X2_rightOf
set_option maxRecDepth 20000 in
theorem ggX0_wootPlace_X2_markOf : GoodIn wsX0_wootPlace wsX2_markOf := goodIn_r _ [29, 30, 9, 10, 11, 6, 12, 13, 52, 53, 54, 55, 56, 57, 58, 59, 60, 61, 62, 63, 64] (by decide +kernel) (by decide +kernel)
set_option maxRecDepth 20000 in
theorem gX0_wootPlace_X2_markOf : GoodIn wsX0_wootPlace (wsV RX0 125 RX2 yX2_markOf wsX2_markOf) := goodIn_app (goodIn_of _ (by decide +kernel)) ggX0_wootPlace_X2_markOf
set_option maxRecDepth 20000 in
theorem ggX0_wootPlace_X0_characterAt : GoodIn wsX0_wootPlace wsX0_characterAt := goodIn_r _ [34, 20, 35, 40, 41, 42, 43, 44, 45, 46, 47, 48, 49, 50, 51] (by decide +kernel) (by decide +kernel)
set_option maxRecDepth 20000 in
theorem gX0_wootPlace_X0_characterAt : GoodIn wsX0_wootPlace (wsV RX0 128 RX0 yX0_characterAt wsX0_characterAt) := goodIn_app (goodIn_of _ (by decide +kernel)) ggX0_wootPlace_X0_characterAt
set_option maxRecDepth 20000 in
theorem ggX0_wootPlace_X0_spans : GoodIn wsX0_wootPlace wsX0_spans := goodIn_r _ [39, 1, 3, 4, 5, 6, 7, 8, 9, 10, 11, 12, 13, 14, 15, 16, 17, 18, 19, 20, 21, 22, 23, 24, 25, 40, 41, 42, 43, 44, 45, 46, 47, 48, 49, 50, 51, 52, 53, 54, 55, 56, 57, 58, 59, 60, 61, 62, 63, 64] (by decide +kernel) (by decide +kernel)
set_option maxRecDepth 20000 in
theorem gX0_wootPlace_X0_spans : GoodIn wsX0_wootPlace (wsV RX0 131 RX0 yX0_spans wsX0_spans) := goodIn_app (goodIn_of _ (by decide +kernel)) ggX0_wootPlace_X0_spans
theorem dX0_wootPlace_0 : decode cX0_wootPlace 0 = .ok (.aload_n 0, 1) := by decide +kernel
theorem dX0_wootPlace_1 : decode cX0_wootPlace 1 = .ok (.aload_n 0, 1) := by decide +kernel
theorem dX0_wootPlace_2 : decode cX0_wootPlace 2 = .ok (.getfield 9, 3) := by decide +kernel
theorem dX0_wootPlace_5 : decode cX0_wootPlace 5 = .ok (.iload_n 1, 1) := by decide +kernel
theorem dX0_wootPlace_6 : decode cX0_wootPlace 6 = .ok (.invokevirtual 97, 3) := by decide +kernel
theorem dX0_wootPlace_9 : decode cX0_wootPlace 9 = .ok (.invokevirtual 94, 3) := by decide +kernel
theorem dX0_wootPlace_12 : decode cX0_wootPlace 12 = .ok (.istore_n 2, 1) := by decide +kernel
theorem dX0_wootPlace_13 : decode cX0_wootPlace 13 = .ok (.aload_n 0, 1) := by decide +kernel
theorem dX0_wootPlace_14 : decode cX0_wootPlace 14 = .ok (.aload_n 0, 1) := by decide +kernel
theorem dX0_wootPlace_15 : decode cX0_wootPlace 15 = .ok (.getfield 9, 3) := by decide +kernel
theorem dX0_wootPlace_18 : decode cX0_wootPlace 18 = .ok (.iload_n 1, 1) := by decide +kernel
theorem dX0_wootPlace_19 : decode cX0_wootPlace 19 = .ok (.invokevirtual 100, 3) := by decide +kernel
theorem dX0_wootPlace_22 : decode cX0_wootPlace 22 = .ok (.invokevirtual 94, 3) := by decide +kernel
theorem dX0_wootPlace_25 : decode cX0_wootPlace 25 = .ok (.istore_n 3, 1) := by decide +kernel
theorem dX0_wootPlace_26 : decode cX0_wootPlace 26 = .ok (.aload_n 0, 1) := by decide +kernel
theorem dX0_wootPlace_27 : decode cX0_wootPlace 27 = .ok (.getfield 9, 3) := by decide +kernel
theorem dX0_wootPlace_30 : decode cX0_wootPlace 30 = .ok (.iload_n 1, 1) := by decide +kernel
theorem dX0_wootPlace_31 : decode cX0_wootPlace 31 = .ok (.invokevirtual 125, 3) := by decide +kernel
theorem dX0_wootPlace_34 : decode cX0_wootPlace 34 = .ok (.istore 4, 2) := by decide +kernel
theorem dX0_wootPlace_36 : decode cX0_wootPlace 36 = .ok (.iconst 0, 1) := by decide +kernel
theorem dX0_wootPlace_37 : decode cX0_wootPlace 37 = .ok (.istore 5, 2) := by decide +kernel
theorem dX0_wootPlace_39 : decode cX0_wootPlace 39 = .ok (.iload 5, 2) := by decide +kernel
theorem dX0_wootPlace_41 : decode cX0_wootPlace 41 = .ok (.bipush 60, 2) := by decide +kernel
theorem dX0_wootPlace_43 : decode cX0_wootPlace 43 = .ok (.if_icmp .ge 119, 3) := by decide +kernel
theorem dX0_wootPlace_46 : decode cX0_wootPlace 46 = .ok (.iload_n 3, 1) := by decide +kernel
theorem dX0_wootPlace_47 : decode cX0_wootPlace 47 = .ok (.iload_n 2, 1) := by decide +kernel
theorem dX0_wootPlace_48 : decode cX0_wootPlace 48 = .ok (.isub, 1) := by decide +kernel
theorem dX0_wootPlace_49 : decode cX0_wootPlace 49 = .ok (.iconst 1, 1) := by decide +kernel
theorem dX0_wootPlace_50 : decode cX0_wootPlace 50 = .ok (.if_icmp .le 112, 3) := by decide +kernel
theorem dX0_wootPlace_53 : decode cX0_wootPlace 53 = .ok (.aload_n 0, 1) := by decide +kernel
theorem dX0_wootPlace_54 : decode cX0_wootPlace 54 = .ok (.dup, 1) := by decide +kernel
theorem dX0_wootPlace_55 : decode cX0_wootPlace 55 = .ok (.getfield 48, 3) := by decide +kernel
theorem dX0_wootPlace_58 : decode cX0_wootPlace 58 = .ok (.iload_n 3, 1) := by decide +kernel
theorem dX0_wootPlace_59 : decode cX0_wootPlace 59 = .ok (.iload_n 2, 1) := by decide +kernel
theorem dX0_wootPlace_60 : decode cX0_wootPlace 60 = .ok (.isub, 1) := by decide +kernel
theorem dX0_wootPlace_61 : decode cX0_wootPlace 61 = .ok (.iconst 1, 1) := by decide +kernel
theorem dX0_wootPlace_62 : decode cX0_wootPlace 62 = .ok (.isub, 1) := by decide +kernel
theorem dX0_wootPlace_63 : decode cX0_wootPlace 63 = .ok (.iadd, 1) := by decide +kernel
theorem dX0_wootPlace_64 : decode cX0_wootPlace 64 = .ok (.putfield 48, 3) := by decide +kernel
theorem dX0_wootPlace_67 : decode cX0_wootPlace 67 = .ok (.iload_n 2, 1) := by decide +kernel
theorem dX0_wootPlace_68 : decode cX0_wootPlace 68 = .ok (.istore 6, 2) := by decide +kernel
theorem dX0_wootPlace_70 : decode cX0_wootPlace 70 = .ok (.iload_n 3, 1) := by decide +kernel
theorem dX0_wootPlace_71 : decode cX0_wootPlace 71 = .ok (.istore 7, 2) := by decide +kernel
theorem dX0_wootPlace_73 : decode cX0_wootPlace 73 = .ok (.iload_n 2, 1) := by decide +kernel
theorem dX0_wootPlace_74 : decode cX0_wootPlace 74 = .ok (.iconst 1, 1) := by decide +kernel
theorem dX0_wootPlace_75 : decode cX0_wootPlace 75 = .ok (.iadd, 1) := by decide +kernel
theorem dX0_wootPlace_76 : decode cX0_wootPlace 76 = .ok (.istore 8, 2) := by decide +kernel
theorem dX0_wootPlace_78 : decode cX0_wootPlace 78 = .ok (.iload 8, 2) := by decide +kernel
theorem dX0_wootPlace_80 : decode cX0_wootPlace 80 = .ok (.iload_n 3, 1) := by decide +kernel
theorem dX0_wootPlace_81 : decode cX0_wootPlace 81 = .ok (.if_icmp .ge 69, 3) := by decide +kernel
theorem dX0_wootPlace_84 : decode cX0_wootPlace 84 = .ok (.iload 7, 2) := by decide +kernel
theorem dX0_wootPlace_86 : decode cX0_wootPlace 86 = .ok (.iload_n 3, 1) := by decide +kernel
theorem dX0_wootPlace_87 : decode cX0_wootPlace 87 = .ok (.if_icmp .ne 63, 3) := by decide +kernel
theorem dX0_wootPlace_90 : decode cX0_wootPlace 90 = .ok (.aload_n 0, 1) := by decide +kernel
theorem dX0_wootPlace_91 : decode cX0_wootPlace 91 = .ok (.iload 8, 2) := by decide +kernel
theorem dX0_wootPlace_93 : decode cX0_wootPlace 93 = .ok (.invokevirtual 128, 3) := by decide +kernel
theorem dX0_wootPlace_96 : decode cX0_wootPlace 96 = .ok (.istore 9, 2) := by decide +kernel
theorem dX0_wootPlace_98 : decode cX0_wootPlace 98 = .ok (.aload_n 0, 1) := by decide +kernel
theorem dX0_wootPlace_99 : decode cX0_wootPlace 99 = .ok (.iload 9, 2) := by decide +kernel
theorem dX0_wootPlace_101 : decode cX0_wootPlace 101 = .ok (.iload_n 2, 1) := by decide +kernel
theorem dX0_wootPlace_102 : decode cX0_wootPlace 102 = .ok (.iload_n 3, 1) := by decide +kernel
theorem dX0_wootPlace_103 : decode cX0_wootPlace 103 = .ok (.invokevirtual 131, 3) := by decide +kernel
theorem dX0_wootPlace_106 : decode cX0_wootPlace 106 = .ok (.ifCond .eq 38, 3) := by decide +kernel
theorem dX0_wootPlace_109 : decode cX0_wootPlace 109 = .ok (.aload_n 0, 1) := by decide +kernel
theorem dX0_wootPlace_110 : decode cX0_wootPlace 110 = .ok (.dup, 1) := by decide +kernel
theorem dX0_wootPlace_111 : decode cX0_wootPlace 111 = .ok (.getfield 48, 3) := by decide +kernel
theorem dX0_wootPlace_114 : decode cX0_wootPlace 114 = .ok (.iconst 1, 1) := by decide +kernel
theorem dX0_wootPlace_115 : decode cX0_wootPlace 115 = .ok (.iadd, 1) := by decide +kernel
theorem dX0_wootPlace_116 : decode cX0_wootPlace 116 = .ok (.putfield 48, 3) := by decide +kernel
theorem dX0_wootPlace_119 : decode cX0_wootPlace 119 = .ok (.aload_n 0, 1) := by decide +kernel
theorem dX0_wootPlace_120 : decode cX0_wootPlace 120 = .ok (.getfield 9, 3) := by decide +kernel
theorem dX0_wootPlace_123 : decode cX0_wootPlace 123 = .ok (.iload 9, 2) := by decide +kernel
theorem dX0_wootPlace_125 : decode cX0_wootPlace 125 = .ok (.invokevirtual 125, 3) := by decide +kernel
theorem dX0_wootPlace_128 : decode cX0_wootPlace 128 = .ok (.iload 4, 2) := by decide +kernel
theorem dX0_wootPlace_130 : decode cX0_wootPlace 130 = .ok (.if_icmp .ge 10, 3) := by decide +kernel
theorem dX0_wootPlace_133 : decode cX0_wootPlace 133 = .ok (.iload 8, 2) := by decide +kernel
theorem dX0_wootPlace_135 : decode cX0_wootPlace 135 = .ok (.istore 6, 2) := by decide +kernel
theorem dX0_wootPlace_137 : decode cX0_wootPlace 137 = .ok (.goto 7, 3) := by decide +kernel
theorem dX0_wootPlace_140 : decode cX0_wootPlace 140 = .ok (.iload 8, 2) := by decide +kernel
theorem dX0_wootPlace_142 : decode cX0_wootPlace 142 = .ok (.istore 7, 2) := by decide +kernel
theorem dX0_wootPlace_144 : decode cX0_wootPlace 144 = .ok (.iinc 8 1, 3) := by decide +kernel
theorem dX0_wootPlace_147 : decode cX0_wootPlace 147 = .ok (.goto (-69), 3) := by decide +kernel
theorem dX0_wootPlace_150 : decode cX0_wootPlace 150 = .ok (.iload 6, 2) := by decide +kernel
theorem dX0_wootPlace_152 : decode cX0_wootPlace 152 = .ok (.istore_n 2, 1) := by decide +kernel
theorem dX0_wootPlace_153 : decode cX0_wootPlace 153 = .ok (.iload 7, 2) := by decide +kernel
theorem dX0_wootPlace_155 : decode cX0_wootPlace 155 = .ok (.istore_n 3, 1) := by decide +kernel
theorem dX0_wootPlace_156 : decode cX0_wootPlace 156 = .ok (.iinc 5 1, 3) := by decide +kernel
theorem dX0_wootPlace_159 : decode cX0_wootPlace 159 = .ok (.goto (-120), 3) := by decide +kernel
theorem dX0_wootPlace_162 : decode cX0_wootPlace 162 = .ok (.iload_n 3, 1) := by decide +kernel
theorem dX0_wootPlace_163 : decode cX0_wootPlace 163 = .ok (.ireturn, 1) := by decide +kernel
set_option maxRecDepth 20000 in
theorem ggX0_spans_X2_leftOf : GoodIn wsX0_spans wsX2_leftOf := goodIn_r _ [6, 7, 8, 9, 10, 5, 11, 12, 37, 38, 39, 40, 41, 42, 43, 44, 45, 46, 47, 48, 49] (by decide +kernel) (by decide +kernel)
set_option maxRecDepth 20000 in
theorem gX0_spans_X2_leftOf : GoodIn wsX0_spans (wsV RX0 97 RX2 yX2_leftOf wsX2_leftOf) := goodIn_app (goodIn_of _ (by decide +kernel)) ggX0_spans_X2_leftOf
set_option maxRecDepth 20000 in
theorem ggX0_spans_X0_placeOf : GoodIn wsX0_spans wsX0_placeOf := goodIn_r _ [17, 18, 19, 25, 26, 27, 28, 29, 30, 31, 32, 33, 34, 35, 36] (by decide +kernel) (by decide +kernel)
set_option maxRecDepth 20000 in
theorem gX0_spans_X0_placeOf : GoodIn wsX0_spans (wsV RX0 94 RX0 yX0_placeOf wsX0_placeOf) := goodIn_app (goodIn_of _ (by decide +kernel)) ggX0_spans_X0_placeOf
set_option maxRecDepth 20000 in
theorem ggX0_spans_X2_rightOf : GoodIn wsX0_spans wsX2_rightOf := goodIn_r _ [23, 24, 8, 9, 10, 5, 11, 12, 37, 38, 39, 40, 41, 42, 43, 44, 45, 46, 47, 48, 49] (by decide +kernel) (by decide +kernel)
set_option maxRecDepth 20000 in
theorem gX0_spans_X2_rightOf : GoodIn wsX0_spans (wsV RX0 100 RX2 yX2_rightOf wsX2_rightOf) := goodIn_app (goodIn_of _ (by decide +kernel)) ggX0_spans_X2_rightOf
theorem dX0_spans_0 : decode cX0_spans 0 = .ok (.aload_n 0, 1) := by decide +kernel
theorem dX0_spans_1 : decode cX0_spans 1 = .ok (.aload_n 0, 1) := by decide +kernel
theorem dX0_spans_2 : decode cX0_spans 2 = .ok (.getfield 9, 3) := by decide +kernel
theorem dX0_spans_5 : decode cX0_spans 5 = .ok (.iload_n 1, 1) := by decide +kernel
theorem dX0_spans_6 : decode cX0_spans 6 = .ok (.invokevirtual 97, 3) := by decide +kernel
theorem dX0_spans_9 : decode cX0_spans 9 = .ok (.invokevirtual 94, 3) := by decide +kernel
theorem dX0_spans_12 : decode cX0_spans 12 = .ok (.iload_n 2, 1) := by decide +kernel
theorem dX0_spans_13 : decode cX0_spans 13 = .ok (.if_icmp .gt 23, 3) := by decide +kernel
theorem dX0_spans_16 : decode cX0_spans 16 = .ok (.aload_n 0, 1) := by decide +kernel
theorem dX0_spans_17 : decode cX0_spans 17 = .ok (.aload_n 0, 1) := by decide +kernel
theorem dX0_spans_18 : decode cX0_spans 18 = .ok (.getfield 9, 3) := by decide +kernel
theorem dX0_spans_21 : decode cX0_spans 21 = .ok (.iload_n 1, 1) := by decide +kernel
theorem dX0_spans_22 : decode cX0_spans 22 = .ok (.invokevirtual 100, 3) := by decide +kernel
theorem dX0_spans_25 : decode cX0_spans 25 = .ok (.invokevirtual 94, 3) := by decide +kernel
theorem dX0_spans_28 : decode cX0_spans 28 = .ok (.iload_n 3, 1) := by decide +kernel
theorem dX0_spans_29 : decode cX0_spans 29 = .ok (.if_icmp .lt 7, 3) := by decide +kernel
theorem dX0_spans_32 : decode cX0_spans 32 = .ok (.iconst 1, 1) := by decide +kernel
theorem dX0_spans_33 : decode cX0_spans 33 = .ok (.goto 4, 3) := by decide +kernel
theorem dX0_spans_36 : decode cX0_spans 36 = .ok (.iconst 0, 1) := by decide +kernel
theorem dX0_spans_37 : decode cX0_spans 37 = .ok (.ireturn, 1) := by decide +kernel
set_option maxRecDepth 20000 in
theorem ggX0_yataPlace_X2_leftOf : GoodIn wsX0_yataPlace wsX2_leftOf := goodIn_r _ [7, 8, 9, 10, 11, 6, 12, 13, 48, 49, 50, 51, 52, 53, 54, 55, 56, 57, 58, 59, 60] (by decide +kernel) (by decide +kernel)
set_option maxRecDepth 20000 in
theorem gX0_yataPlace_X2_leftOf : GoodIn wsX0_yataPlace (wsV RX0 97 RX2 yX2_leftOf wsX2_leftOf) := goodIn_app (goodIn_of _ (by decide +kernel)) ggX0_yataPlace_X2_leftOf
set_option maxRecDepth 20000 in
theorem ggX0_yataPlace_X0_placeOf : GoodIn wsX0_yataPlace wsX0_placeOf := goodIn_r _ [18, 19, 20, 36, 37, 38, 39, 40, 41, 42, 43, 44, 45, 46, 47] (by decide +kernel) (by decide +kernel)
set_option maxRecDepth 20000 in
theorem gX0_yataPlace_X0_placeOf : GoodIn wsX0_yataPlace (wsV RX0 94 RX0 yX0_placeOf wsX0_placeOf) := goodIn_app (goodIn_of _ (by decide +kernel)) ggX0_yataPlace_X0_placeOf
set_option maxRecDepth 20000 in
theorem ggX0_yataPlace_X2_rightOf : GoodIn wsX0_yataPlace wsX2_rightOf := goodIn_r _ [24, 25, 9, 10, 11, 6, 12, 13, 48, 49, 50, 51, 52, 53, 54, 55, 56, 57, 58, 59, 60] (by decide +kernel) (by decide +kernel)
set_option maxRecDepth 20000 in
theorem gX0_yataPlace_X2_rightOf : GoodIn wsX0_yataPlace (wsV RX0 100 RX2 yX2_rightOf wsX2_rightOf) := goodIn_app (goodIn_of _ (by decide +kernel)) ggX0_yataPlace_X2_rightOf
set_option maxRecDepth 20000 in
theorem ggX0_yataPlace_X0_characterAt : GoodIn wsX0_yataPlace wsX0_characterAt := goodIn_r _ [29, 20, 30, 36, 37, 38, 39, 40, 41, 42, 43, 44, 45, 46, 47] (by decide +kernel) (by decide +kernel)
set_option maxRecDepth 20000 in
theorem gX0_yataPlace_X0_characterAt : GoodIn wsX0_yataPlace (wsV RX0 128 RX0 yX0_characterAt wsX0_characterAt) := goodIn_app (goodIn_of _ (by decide +kernel)) ggX0_yataPlace_X0_characterAt
set_option maxRecDepth 20000 in
theorem ggX0_yataPlace_X2_siteOf : GoodIn wsX0_yataPlace wsX2_siteOf := goodIn_r _ [34, 35, 9, 10, 11, 6, 12, 13, 48, 49, 50, 51, 52, 53, 54, 55, 56, 57, 58, 59, 60] (by decide +kernel) (by decide +kernel)
set_option maxRecDepth 20000 in
theorem gX0_yataPlace_X2_siteOf : GoodIn wsX0_yataPlace (wsV RX0 135 RX2 yX2_siteOf wsX2_siteOf) := goodIn_app (goodIn_of _ (by decide +kernel)) ggX0_yataPlace_X2_siteOf
theorem dX0_yataPlace_0 : decode cX0_yataPlace 0 = .ok (.aload_n 0, 1) := by decide +kernel
theorem dX0_yataPlace_1 : decode cX0_yataPlace 1 = .ok (.getfield 9, 3) := by decide +kernel
theorem dX0_yataPlace_4 : decode cX0_yataPlace 4 = .ok (.iload_n 1, 1) := by decide +kernel
theorem dX0_yataPlace_5 : decode cX0_yataPlace 5 = .ok (.invokevirtual 97, 3) := by decide +kernel
theorem dX0_yataPlace_8 : decode cX0_yataPlace 8 = .ok (.istore_n 2, 1) := by decide +kernel
theorem dX0_yataPlace_9 : decode cX0_yataPlace 9 = .ok (.aload_n 0, 1) := by decide +kernel
theorem dX0_yataPlace_10 : decode cX0_yataPlace 10 = .ok (.iload_n 2, 1) := by decide +kernel
theorem dX0_yataPlace_11 : decode cX0_yataPlace 11 = .ok (.invokevirtual 94, 3) := by decide +kernel
theorem dX0_yataPlace_14 : decode cX0_yataPlace 14 = .ok (.iconst 1, 1) := by decide +kernel
theorem dX0_yataPlace_15 : decode cX0_yataPlace 15 = .ok (.iadd, 1) := by decide +kernel
theorem dX0_yataPlace_16 : decode cX0_yataPlace 16 = .ok (.istore_n 3, 1) := by decide +kernel
theorem dX0_yataPlace_17 : decode cX0_yataPlace 17 = .ok (.aload_n 0, 1) := by decide +kernel
theorem dX0_yataPlace_18 : decode cX0_yataPlace 18 = .ok (.aload_n 0, 1) := by decide +kernel
theorem dX0_yataPlace_19 : decode cX0_yataPlace 19 = .ok (.getfield 9, 3) := by decide +kernel
theorem dX0_yataPlace_22 : decode cX0_yataPlace 22 = .ok (.iload_n 1, 1) := by decide +kernel
theorem dX0_yataPlace_23 : decode cX0_yataPlace 23 = .ok (.invokevirtual 100, 3) := by decide +kernel
theorem dX0_yataPlace_26 : decode cX0_yataPlace 26 = .ok (.invokevirtual 94, 3) := by decide +kernel
theorem dX0_yataPlace_29 : decode cX0_yataPlace 29 = .ok (.istore 4, 2) := by decide +kernel
theorem dX0_yataPlace_31 : decode cX0_yataPlace 31 = .ok (.iload_n 3, 1) := by decide +kernel
theorem dX0_yataPlace_32 : decode cX0_yataPlace 32 = .ok (.istore 5, 2) := by decide +kernel
theorem dX0_yataPlace_34 : decode cX0_yataPlace 34 = .ok (.iload_n 3, 1) := by decide +kernel
theorem dX0_yataPlace_35 : decode cX0_yataPlace 35 = .ok (.istore 6, 2) := by decide +kernel
theorem dX0_yataPlace_37 : decode cX0_yataPlace 37 = .ok (.iload 6, 2) := by decide +kernel
theorem dX0_yataPlace_39 : decode cX0_yataPlace 39 = .ok (.iload 4, 2) := by decide +kernel
theorem dX0_yataPlace_41 : decode cX0_yataPlace 41 = .ok (.if_icmp .ge 126, 3) := by decide +kernel
theorem dX0_yataPlace_44 : decode cX0_yataPlace 44 = .ok (.aload_n 0, 1) := by decide +kernel
theorem dX0_yataPlace_45 : decode cX0_yataPlace 45 = .ok (.dup, 1) := by decide +kernel
theorem dX0_yataPlace_46 : decode cX0_yataPlace 46 = .ok (.getfield 48, 3) := by decide +kernel
theorem dX0_yataPlace_49 : decode cX0_yataPlace 49 = .ok (.iconst 1, 1) := by decide +kernel
theorem dX0_yataPlace_50 : decode cX0_yataPlace 50 = .ok (.iadd, 1) := by decide +kernel
theorem dX0_yataPlace_51 : decode cX0_yataPlace 51 = .ok (.putfield 48, 3) := by decide +kernel
theorem dX0_yataPlace_54 : decode cX0_yataPlace 54 = .ok (.aload_n 0, 1) := by decide +kernel
theorem dX0_yataPlace_55 : decode cX0_yataPlace 55 = .ok (.iload 6, 2) := by decide +kernel
theorem dX0_yataPlace_57 : decode cX0_yataPlace 57 = .ok (.invokevirtual 128, 3) := by decide +kernel
theorem dX0_yataPlace_60 : decode cX0_yataPlace 60 = .ok (.istore 7, 2) := by decide +kernel
theorem dX0_yataPlace_62 : decode cX0_yataPlace 62 = .ok (.aload_n 0, 1) := by decide +kernel
theorem dX0_yataPlace_63 : decode cX0_yataPlace 63 = .ok (.getfield 9, 3) := by decide +kernel
theorem dX0_yataPlace_66 : decode cX0_yataPlace 66 = .ok (.iload 7, 2) := by decide +kernel
theorem dX0_yataPlace_68 : decode cX0_yataPlace 68 = .ok (.invokevirtual 97, 3) := by decide +kernel
theorem dX0_yataPlace_71 : decode cX0_yataPlace 71 = .ok (.istore 8, 2) := by decide +kernel
theorem dX0_yataPlace_73 : decode cX0_yataPlace 73 = .ok (.iload 8, 2) := by decide +kernel
theorem dX0_yataPlace_75 : decode cX0_yataPlace 75 = .ok (.iload_n 2, 1) := by decide +kernel
theorem dX0_yataPlace_76 : decode cX0_yataPlace 76 = .ok (.if_icmp .ne 55, 3) := by decide +kernel
theorem dX0_yataPlace_79 : decode cX0_yataPlace 79 = .ok (.aload_n 0, 1) := by decide +kernel
theorem dX0_yataPlace_80 : decode cX0_yataPlace 80 = .ok (.getfield 9, 3) := by decide +kernel
theorem dX0_yataPlace_83 : decode cX0_yataPlace 83 = .ok (.iload 7, 2) := by decide +kernel
theorem dX0_yataPlace_85 : decode cX0_yataPlace 85 = .ok (.invokevirtual 135, 3) := by decide +kernel
theorem dX0_yataPlace_88 : decode cX0_yataPlace 88 = .ok (.aload_n 0, 1) := by decide +kernel
theorem dX0_yataPlace_89 : decode cX0_yataPlace 89 = .ok (.getfield 9, 3) := by decide +kernel
theorem dX0_yataPlace_92 : decode cX0_yataPlace 92 = .ok (.iload_n 1, 1) := by decide +kernel
theorem dX0_yataPlace_93 : decode cX0_yataPlace 93 = .ok (.invokevirtual 135, 3) := by decide +kernel
theorem dX0_yataPlace_96 : decode cX0_yataPlace 96 = .ok (.if_icmp .ge 12, 3) := by decide +kernel
theorem dX0_yataPlace_99 : decode cX0_yataPlace 99 = .ok (.iload 6, 2) := by decide +kernel
theorem dX0_yataPlace_101 : decode cX0_yataPlace 101 = .ok (.iconst 1, 1) := by decide +kernel
theorem dX0_yataPlace_102 : decode cX0_yataPlace 102 = .ok (.iadd, 1) := by decide +kernel
theorem dX0_yataPlace_103 : decode cX0_yataPlace 103 = .ok (.istore 5, 2) := by decide +kernel
theorem dX0_yataPlace_105 : decode cX0_yataPlace 105 = .ok (.goto 56, 3) := by decide +kernel
theorem dX0_yataPlace_108 : decode cX0_yataPlace 108 = .ok (.aload_n 0, 1) := by decide +kernel
theorem dX0_yataPlace_109 : decode cX0_yataPlace 109 = .ok (.getfield 9, 3) := by decide +kernel
theorem dX0_yataPlace_112 : decode cX0_yataPlace 112 = .ok (.iload 7, 2) := by decide +kernel
theorem dX0_yataPlace_114 : decode cX0_yataPlace 114 = .ok (.invokevirtual 100, 3) := by decide +kernel
theorem dX0_yataPlace_117 : decode cX0_yataPlace 117 = .ok (.aload_n 0, 1) := by decide +kernel
theorem dX0_yataPlace_118 : decode cX0_yataPlace 118 = .ok (.getfield 9, 3) := by decide +kernel
theorem dX0_yataPlace_121 : decode cX0_yataPlace 121 = .ok (.iload_n 1, 1) := by decide +kernel
theorem dX0_yataPlace_122 : decode cX0_yataPlace 122 = .ok (.invokevirtual 100, 3) := by decide +kernel
theorem dX0_yataPlace_125 : decode cX0_yataPlace 125 = .ok (.if_icmp .ne 36, 3) := by decide +kernel
