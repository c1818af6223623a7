theorem dX0_yataPlace_128 : decode cX0_yataPlace 128 = .ok (.goto 39, 3) := by decide +kernel
theorem dX0_yataPlace_131 : decode cX0_yataPlace 131 = .ok (.aload_n 0, 1) := by decide +kernel
theorem dX0_yataPlace_132 : decode cX0_yataPlace 132 = .ok (.iload 8, 2) := by decide +kernel
theorem dX0_yataPlace_134 : decode cX0_yataPlace 134 = .ok (.invokevirtual 94, 3) := by decide +kernel
theorem dX0_yataPlace_137 : decode cX0_yataPlace 137 = .ok (.iload_n 3, 1) := by decide +kernel
theorem dX0_yataPlace_138 : decode cX0_yataPlace 138 = .ok (.if_icmp .ge 6, 3) := by decide +kernel
theorem dX0_yataPlace_141 : decode cX0_yataPlace 141 = .ok (.goto 26, 3) := by decide +kernel
theorem dX0_yataPlace_144 : decode cX0_yataPlace 144 = .ok (.aload_n 0, 1) := by decide +kernel
theorem dX0_yataPlace_145 : decode cX0_yataPlace 145 = .ok (.iload 8, 2) := by decide +kernel
theorem dX0_yataPlace_147 : decode cX0_yataPlace 147 = .ok (.invokevirtual 94, 3) := by decide +kernel
theorem dX0_yataPlace_150 : decode cX0_yataPlace 150 = .ok (.iload 5, 2) := by decide +kernel
theorem dX0_yataPlace_152 : decode cX0_yataPlace 152 = .ok (.if_icmp .ge 9, 3) := by decide +kernel
theorem dX0_yataPlace_155 : decode cX0_yataPlace 155 = .ok (.iload 6, 2) := by decide +kernel
theorem dX0_yataPlace_157 : decode cX0_yataPlace 157 = .ok (.iconst 1, 1) := by decide +kernel
theorem dX0_yataPlace_158 : decode cX0_yataPlace 158 = .ok (.iadd, 1) := by decide +kernel
theorem dX0_yataPlace_159 : decode cX0_yataPlace 159 = .ok (.istore 5, 2) := by decide +kernel
theorem dX0_yataPlace_161 : decode cX0_yataPlace 161 = .ok (.iinc 6 1, 3) := by decide +kernel
theorem dX0_yataPlace_164 : decode cX0_yataPlace 164 = .ok (.goto (-127), 3) := by decide +kernel
theorem dX0_yataPlace_167 : decode cX0_yataPlace 167 = .ok (.iload 5, 2) := by decide +kernel
theorem dX0_yataPlace_169 : decode cX0_yataPlace 169 = .ok (.ireturn, 1) := by decide +kernel
set_option maxRecDepth 20000 in
theorem ggX0_leftForPlace_X0_seenAt : GoodIn wsX0_leftForPlace wsX0_seenAt := goodIn_r _ [5, 6, 7, 8, 9, 4, 10, 11, 12, 13, 14, 15, 16, 17, 18, 19, 20, 21, 22, 23, 24, 25, 26, 27, 28, 29] (by decide +kernel) (by decide +kernel)
set_option maxRecDepth 20000 in
theorem gX0_leftForPlace_X0_seenAt : GoodIn wsX0_leftForPlace (wsV RX0 138 RX0 yX0_seenAt wsX0_seenAt) := goodIn_app (goodIn_of _ (by decide +kernel)) ggX0_leftForPlace_X0_seenAt
theorem dX0_leftForPlace_0 : decode cX0_leftForPlace 0 = .ok (.iload_n 1, 1) := by decide +kernel
theorem dX0_leftForPlace_1 : decode cX0_leftForPlace 1 = .ok (.ifCond .gt 7, 3) := by decide +kernel
theorem dX0_leftForPlace_4 : decode cX0_leftForPlace 4 = .ok (.iconst (-1), 1) := by decide +kernel
theorem dX0_leftForPlace_5 : decode cX0_leftForPlace 5 = .ok (.goto 10, 3) := by decide +kernel
theorem dX0_leftForPlace_8 : decode cX0_leftForPlace 8 = .ok (.aload_n 0, 1) := by decide +kernel
theorem dX0_leftForPlace_9 : decode cX0_leftForPlace 9 = .ok (.iload_n 1, 1) := by decide +kernel
theorem dX0_leftForPlace_10 : decode cX0_leftForPlace 10 = .ok (.iconst 1, 1) := by decide +kernel
theorem dX0_leftForPlace_11 : decode cX0_leftForPlace 11 = .ok (.isub, 1) := by decide +kernel
theorem dX0_leftForPlace_12 : decode cX0_leftForPlace 12 = .ok (.invokevirtual 138, 3) := by decide +kernel
theorem dX0_leftForPlace_15 : decode cX0_leftForPlace 15 = .ok (.ireturn, 1) := by decide +kernel
set_option maxRecDepth 20000 in
theorem ggX0_rightForPlace_X0_seenAt : GoodIn wsX0_rightForPlace wsX0_seenAt := goodIn_r _ [7, 8, 9, 10, 11, 6, 12, 13, 14, 15, 16, 17, 18, 19, 28, 29, 30, 31, 32, 33, 34, 35, 36, 37, 38, 39] (by decide +kernel) (by decide +kernel)
set_option maxRecDepth 20000 in
theorem gX0_rightForPlace_X0_seenAt : GoodIn wsX0_rightForPlace (wsV RX0 138 RX0 yX0_seenAt wsX0_seenAt) := goodIn_app (goodIn_of _ (by decide +kernel)) ggX0_rightForPlace_X0_seenAt
set_option maxRecDepth 20000 in
theorem ggX0_rightForPlace_X0_leftForPlace : GoodIn wsX0_rightForPlace wsX0_leftForPlace := goodIn_r _ [23, 3, 4, 5, 6, 7, 8, 9, 10, 11, 12, 13, 14, 15, 16, 17, 18, 19, 28, 29, 30, 31, 32, 33, 34, 35, 36, 37, 38, 39] (by decide +kernel) (by decide +kernel)
set_option maxRecDepth 20000 in
theorem gX0_rightForPlace_X0_leftForPlace : GoodIn wsX0_rightForPlace (wsV RX0 141 RX0 yX0_leftForPlace wsX0_leftForPlace) := goodIn_app (goodIn_of _ (by decide +kernel)) ggX0_rightForPlace_X0_leftForPlace
set_option maxRecDepth 20000 in
theorem ggX0_rightForPlace_X0_placeOf : GoodIn wsX0_rightForPlace wsX0_placeOf := goodIn_r _ [27, 18, 8, 28, 29, 30, 31, 32, 33, 34, 35, 36, 37, 38, 39] (by decide +kernel) (by decide +kernel)
set_option maxRecDepth 20000 in
theorem gX0_rightForPlace_X0_placeOf : GoodIn wsX0_rightForPlace (wsV RX0 94 RX0 yX0_placeOf wsX0_placeOf) := goodIn_app (goodIn_of _ (by decide +kernel)) ggX0_rightForPlace_X0_placeOf
set_option maxRecDepth 20000 in
theorem ggX0_rightForPlace_X0_characterAt : GoodIn wsX0_rightForPlace wsX0_characterAt := goodIn_r _ [12, 8, 13, 28, 29, 30, 31, 32, 33, 34, 35, 36, 37, 38, 39] (by decide +kernel) (by decide +kernel)
set_option maxRecDepth 20000 in
theorem gX0_rightForPlace_X0_characterAt : GoodIn wsX0_rightForPlace (wsV RX0 128 RX0 yX0_characterAt wsX0_characterAt) := goodIn_app (goodIn_of _ (by decide +kernel)) ggX0_rightForPlace_X0_characterAt
theorem dX0_rightForPlace_0 : decode cX0_rightForPlace 0 = .ok (.aload_n 0, 1) := by decide +kernel
theorem dX0_rightForPlace_1 : decode cX0_rightForPlace 1 = .ok (.getfield 9, 3) := by decide +kernel
theorem dX0_rightForPlace_4 : decode cX0_rightForPlace 4 = .ok (.getfield 106, 3) := by decide +kernel
theorem dX0_rightForPlace_7 : decode cX0_rightForPlace 7 = .ok (.ifCond .eq 11, 3) := by decide +kernel
theorem dX0_rightForPlace_10 : decode cX0_rightForPlace 10 = .ok (.aload_n 0, 1) := by decide +kernel
theorem dX0_rightForPlace_11 : decode cX0_rightForPlace 11 = .ok (.iload_n 1, 1) := by decide +kernel
theorem dX0_rightForPlace_12 : decode cX0_rightForPlace 12 = .ok (.invokevirtual 138, 3) := by decide +kernel
theorem dX0_rightForPlace_15 : decode cX0_rightForPlace 15 = .ok (.goto 18, 3) := by decide +kernel
theorem dX0_rightForPlace_18 : decode cX0_rightForPlace 18 = .ok (.aload_n 0, 1) := by decide +kernel
theorem dX0_rightForPlace_19 : decode cX0_rightForPlace 19 = .ok (.aload_n 0, 1) := by decide +kernel
theorem dX0_rightForPlace_20 : decode cX0_rightForPlace 20 = .ok (.aload_n 0, 1) := by decide +kernel
theorem dX0_rightForPlace_21 : decode cX0_rightForPlace 21 = .ok (.iload_n 1, 1) := by decide +kernel
theorem dX0_rightForPlace_22 : decode cX0_rightForPlace 22 = .ok (.invokevirtual 141, 3) := by decide +kernel
theorem dX0_rightForPlace_25 : decode cX0_rightForPlace 25 = .ok (.invokevirtual 94, 3) := by decide +kernel
theorem dX0_rightForPlace_28 : decode cX0_rightForPlace 28 = .ok (.iconst 1, 1) := by decide +kernel
theorem dX0_rightForPlace_29 : decode cX0_rightForPlace 29 = .ok (.iadd, 1) := by decide +kernel
theorem dX0_rightForPlace_30 : decode cX0_rightForPlace 30 = .ok (.invokevirtual 128, 3) := by decide +kernel
theorem dX0_rightForPlace_33 : decode cX0_rightForPlace 33 = .ok (.ireturn, 1) := by decide +kernel
set_option maxRecDepth 20000 in
theorem ggX0_seenAt_X0_characterAt : GoodIn wsX0_seenAt wsX0_characterAt := goodIn_r _ [6, 1, 7, 14, 15, 16, 17, 18, 19, 20, 21, 22, 23, 24, 25] (by decide +kernel) (by decide +kernel)
set_option maxRecDepth 20000 in
theorem gX0_seenAt_X0_characterAt : GoodIn wsX0_seenAt (wsV RX0 128 RX0 yX0_characterAt wsX0_characterAt) := goodIn_app (goodIn_of _ (by decide +kernel)) ggX0_seenAt_X0_characterAt
set_option maxRecDepth 20000 in
theorem ggX0_seenAt_X0_isSeen : GoodIn wsX0_seenAt wsX0_isSeen := goodIn_r _ [11, 12, 13, 14, 15, 16, 17, 18, 19, 20, 21, 22, 23, 24, 25] (by decide +kernel) (by decide +kernel)
set_option maxRecDepth 20000 in
theorem gX0_seenAt_X0_isSeen : GoodIn wsX0_seenAt (wsV RX0 119 RX0 yX0_isSeen wsX0_isSeen) := goodIn_app (goodIn_of _ (by decide +kernel)) ggX0_seenAt_X0_isSeen
theorem dX0_seenAt_0 : decode cX0_seenAt 0 = .ok (.iconst 0, 1) := by decide +kernel
theorem dX0_seenAt_1 : decode cX0_seenAt 1 = .ok (.istore_n 2, 1) := by decide +kernel
theorem dX0_seenAt_2 : decode cX0_seenAt 2 = .ok (.iconst 0, 1) := by decide +kernel
theorem dX0_seenAt_3 : decode cX0_seenAt 3 = .ok (.istore_n 3, 1) := by decide +kernel
theorem dX0_seenAt_4 : decode cX0_seenAt 4 = .ok (.iload_n 3, 1) := by decide +kernel
theorem dX0_seenAt_5 : decode cX0_seenAt 5 = .ok (.aload_n 0, 1) := by decide +kernel
theorem dX0_seenAt_6 : decode cX0_seenAt 6 = .ok (.getfield 32, 3) := by decide +kernel
theorem dX0_seenAt_9 : decode cX0_seenAt 9 = .ok (.if_icmp .ge 36, 3) := by decide +kernel
theorem dX0_seenAt_12 : decode cX0_seenAt 12 = .ok (.aload_n 0, 1) := by decide +kernel
theorem dX0_seenAt_13 : decode cX0_seenAt 13 = .ok (.iload_n 3, 1) := by decide +kernel
theorem dX0_seenAt_14 : decode cX0_seenAt 14 = .ok (.invokevirtual 128, 3) := by decide +kernel
theorem dX0_seenAt_17 : decode cX0_seenAt 17 = .ok (.istore 4, 2) := by decide +kernel
theorem dX0_seenAt_19 : decode cX0_seenAt 19 = .ok (.aload_n 0, 1) := by decide +kernel
theorem dX0_seenAt_20 : decode cX0_seenAt 20 = .ok (.iload 4, 2) := by decide +kernel
theorem dX0_seenAt_22 : decode cX0_seenAt 22 = .ok (.invokevirtual 119, 3) := by decide +kernel
theorem dX0_seenAt_25 : decode cX0_seenAt 25 = .ok (.ifCond .eq 14, 3) := by decide +kernel
theorem dX0_seenAt_28 : decode cX0_seenAt 28 = .ok (.iload_n 2, 1) := by decide +kernel
theorem dX0_seenAt_29 : decode cX0_seenAt 29 = .ok (.iload_n 1, 1) := by decide +kernel
theorem dX0_seenAt_30 : decode cX0_seenAt 30 = .ok (.if_icmp .ne 6, 3) := by decide +kernel
theorem dX0_seenAt_33 : decode cX0_seenAt 33 = .ok (.iload 4, 2) := by decide +kernel
theorem dX0_seenAt_35 : decode cX0_seenAt 35 = .ok (.ireturn, 1) := by decide +kernel
theorem dX0_seenAt_36 : decode cX0_seenAt 36 = .ok (.iinc 2 1, 3) := by decide +kernel
theorem dX0_seenAt_39 : decode cX0_seenAt 39 = .ok (.iinc 3 1, 3) := by decide +kernel
theorem dX0_seenAt_42 : decode cX0_seenAt 42 = .ok (.goto (-38), 3) := by decide +kernel
theorem dX0_seenAt_45 : decode cX0_seenAt 45 = .ok (.bipush 60, 2) := by decide +kernel
theorem dX0_seenAt_47 : decode cX0_seenAt 47 = .ok (.ireturn, 1) := by decide +kernel
theorem dX0_characterAt_0 : decode cX0_characterAt 0 = .ok (.iload_n 1, 1) := by decide +kernel
theorem dX0_characterAt_1 : decode cX0_characterAt 1 = .ok (.ifCond .lt 26, 3) := by decide +kernel
theorem dX0_characterAt_4 : decode cX0_characterAt 4 = .ok (.iload_n 1, 1) := by decide +kernel
theorem dX0_characterAt_5 : decode cX0_characterAt 5 = .ok (.aload_n 0, 1) := by decide +kernel
theorem dX0_characterAt_6 : decode cX0_characterAt 6 = .ok (.getfield 32, 3) := by decide +kernel
theorem dX0_characterAt_9 : decode cX0_characterAt 9 = .ok (.if_icmp .ge 18, 3) := by decide +kernel
theorem dX0_characterAt_12 : decode cX0_characterAt 12 = .ok (.iload_n 1, 1) := by decide +kernel
theorem dX0_characterAt_13 : decode cX0_characterAt 13 = .ok (.bipush 60, 2) := by decide +kernel
theorem dX0_characterAt_15 : decode cX0_characterAt 15 = .ok (.if_icmp .ge 12, 3) := by decide +kernel
theorem dX0_characterAt_18 : decode cX0_characterAt 18 = .ok (.aload_n 0, 1) := by decide +kernel
theorem dX0_characterAt_19 : decode cX0_characterAt 19 = .ok (.getfield 15, 3) := by decide +kernel
theorem dX0_characterAt_22 : decode cX0_characterAt 22 = .ok (.iload_n 1, 1) := by decide +kernel
theorem dX0_characterAt_23 : decode cX0_characterAt 23 = .ok (.iaload, 1) := by decide +kernel
theorem dX0_characterAt_24 : decode cX0_characterAt 24 = .ok (.goto 5, 3) := by decide +kernel
theorem dX0_characterAt_27 : decode cX0_characterAt 27 = .ok (.bipush 60, 2) := by decide +kernel
theorem dX0_characterAt_29 : decode cX0_characterAt 29 = .ok (.ireturn, 1) := by decide +kernel
theorem dX0_placeOf_0 : decode cX0_placeOf 0 = .ok (.iload_n 1, 1) := by decide +kernel
theorem dX0_placeOf_1 : decode cX0_placeOf 1 = .ok (.ifCond .ge 5, 3) := by decide +kernel
theorem dX0_placeOf_4 : decode cX0_placeOf 4 = .ok (.iconst (-1), 1) := by decide +kernel
theorem dX0_placeOf_5 : decode cX0_placeOf 5 = .ok (.ireturn, 1) := by decide +kernel
theorem dX0_placeOf_6 : decode cX0_placeOf 6 = .ok (.iload_n 1, 1) := by decide +kernel
theorem dX0_placeOf_7 : decode cX0_placeOf 7 = .ok (.bipush 60, 2) := by decide +kernel
theorem dX0_placeOf_9 : decode cX0_placeOf 9 = .ok (.if_icmp .ge 12, 3) := by decide +kernel
theorem dX0_placeOf_12 : decode cX0_placeOf 12 = .ok (.aload_n 0, 1) := by decide +kernel
theorem dX0_placeOf_13 : decode cX0_placeOf 13 = .ok (.getfield 19, 3) := by decide +kernel
theorem dX0_placeOf_16 : decode cX0_placeOf 16 = .ok (.iload_n 1, 1) := by decide +kernel
theorem dX0_placeOf_17 : decode cX0_placeOf 17 = .ok (.iaload, 1) := by decide +kernel
theorem dX0_placeOf_18 : decode cX0_placeOf 18 = .ok (.goto 7, 3) := by decide +kernel
theorem dX0_placeOf_21 : decode cX0_placeOf 21 = .ok (.aload_n 0, 1) := by decide +kernel
theorem dX0_placeOf_22 : decode cX0_placeOf 22 = .ok (.getfield 32, 3) := by decide +kernel
theorem dX0_placeOf_25 : decode cX0_placeOf 25 = .ok (.ireturn, 1) := by decide +kernel
theorem dX0_setPlace_0 : decode cX0_setPlace 0 = .ok (.iload_n 1, 1) := by decide +kernel
theorem dX0_setPlace_1 : decode cX0_setPlace 1 = .ok (.ifCond .lt 16, 3) := by decide +kernel
theorem dX0_setPlace_4 : decode cX0_setPlace 4 = .ok (.iload_n 1, 1) := by decide +kernel
theorem dX0_setPlace_5 : decode cX0_setPlace 5 = .ok (.bipush 60, 2) := by decide +kernel
theorem dX0_setPlace_7 : decode cX0_setPlace 7 = .ok (.if_icmp .ge 10, 3) := by decide +kernel
theorem dX0_setPlace_10 : decode cX0_setPlace 10 = .ok (.aload_n 0, 1) := by decide +kernel
theorem dX0_setPlace_11 : decode cX0_setPlace 11 = .ok (.getfield 19, 3) := by decide +kernel
theorem dX0_setPlace_14 : decode cX0_setPlace 14 = .ok (.iload_n 1, 1) := by decide +kernel
theorem dX0_setPlace_15 : decode cX0_setPlace 15 = .ok (.iload_n 2, 1) := by decide +kernel
theorem dX0_setPlace_16 : decode cX0_setPlace 16 = .ok (.iastore, 1) := by decide +kernel
theorem dX0_setPlace_17 : decode cX0_setPlace 17 = .ok (.return_, 1) := by decide +kernel
theorem dX0_isSeen_0 : decode cX0_isSeen 0 = .ok (.iload_n 1, 1) := by decide +kernel
theorem dX0_isSeen_1 : decode cX0_isSeen 1 = .ok (.ifCond .lt 33, 3) := by decide +kernel
theorem dX0_isSeen_4 : decode cX0_isSeen 4 = .ok (.iload_n 1, 1) := by decide +kernel
theorem dX0_isSeen_5 : decode cX0_isSeen 5 = .ok (.bipush 60, 2) := by decide +kernel
theorem dX0_isSeen_7 : decode cX0_isSeen 7 = .ok (.if_icmp .ge 27, 3) := by decide +kernel
theorem dX0_isSeen_10 : decode cX0_isSeen 10 = .ok (.aload_n 0, 1) := by decide +kernel
theorem dX0_isSeen_11 : decode cX0_isSeen 11 = .ok (.getfield 19, 3) := by decide +kernel
theorem dX0_isSeen_14 : decode cX0_isSeen 14 = .ok (.iload_n 1, 1) := by decide +kernel
theorem dX0_isSeen_15 : decode cX0_isSeen 15 = .ok (.iaload, 1) := by decide +kernel
theorem dX0_isSeen_16 : decode cX0_isSeen 16 = .ok (.bipush (-2), 2) := by decide +kernel
theorem dX0_isSeen_18 : decode cX0_isSeen 18 = .ok (.if_icmp .eq 16, 3) := by decide +kernel
theorem dX0_isSeen_21 : decode cX0_isSeen 21 = .ok (.aload_n 0, 1) := by decide +kernel
theorem dX0_isSeen_22 : decode cX0_isSeen 22 = .ok (.getfield 22, 3) := by decide +kernel
theorem dX0_isSeen_25 : decode cX0_isSeen 25 = .ok (.iload_n 1, 1) := by decide +kernel
theorem dX0_isSeen_26 : decode cX0_isSeen 26 = .ok (.baload, 1) := by decide +kernel
theorem dX0_isSeen_27 : decode cX0_isSeen 27 = .ok (.ifCond .ne 7, 3) := by decide +kernel
theorem dX0_isSeen_30 : decode cX0_isSeen 30 = .ok (.iconst 1, 1) := by decide +kernel
theorem dX0_isSeen_31 : decode cX0_isSeen 31 = .ok (.goto 4, 3) := by decide +kernel
theorem dX0_isSeen_34 : decode cX0_isSeen 34 = .ok (.iconst 0, 1) := by decide +kernel
theorem dX0_isSeen_35 : decode cX0_isSeen 35 = .ok (.ireturn, 1) := by decide +kernel
theorem dX0_stateOf_0 : decode cX0_stateOf 0 = .ok (.iload_n 1, 1) := by decide +kernel
theorem dX0_stateOf_1 : decode cX0_stateOf 1 = .ok (.ifCond .lt 19, 3) := by decide +kernel
theorem dX0_stateOf_4 : decode cX0_stateOf 4 = .ok (.iload_n 1, 1) := by decide +kernel
theorem dX0_stateOf_5 : decode cX0_stateOf 5 = .ok (.sipush 160, 3) := by decide +kernel
theorem dX0_stateOf_8 : decode cX0_stateOf 8 = .ok (.if_icmp .ge 12, 3) := by decide +kernel
theorem dX0_stateOf_11 : decode cX0_stateOf 11 = .ok (.aload_n 0, 1) := by decide +kernel
theorem dX0_stateOf_12 : decode cX0_stateOf 12 = .ok (.getfield 26, 3) := by decide +kernel
theorem dX0_stateOf_15 : decode cX0_stateOf 15 = .ok (.iload_n 1, 1) := by decide +kernel
theorem dX0_stateOf_16 : decode cX0_stateOf 16 = .ok (.iaload, 1) := by decide +kernel
theorem dX0_stateOf_17 : decode cX0_stateOf 17 = .ok (.goto 4, 3) := by decide +kernel
theorem dX0_stateOf_20 : decode cX0_stateOf 20 = .ok (.iconst 0, 1) := by decide +kernel
theorem dX0_stateOf_21 : decode cX0_stateOf 21 = .ok (.ireturn, 1) := by decide +kernel
theorem dX0_setState_0 : decode cX0_setState 0 = .ok (.iload_n 1, 1) := by decide +kernel
theorem dX0_setState_1 : decode cX0_setState 1 = .ok (.ifCond .lt 17, 3) := by decide +kernel
theorem dX0_setState_4 : decode cX0_setState 4 = .ok (.iload_n 1, 1) := by decide +kernel
theorem dX0_setState_5 : decode cX0_setState 5 = .ok (.sipush 160, 3) := by decide +kernel
theorem dX0_setState_8 : decode cX0_setState 8 = .ok (.if_icmp .ge 10, 3) := by decide +kernel
theorem dX0_setState_11 : decode cX0_setState 11 = .ok (.aload_n 0, 1) := by decide +kernel
theorem dX0_setState_12 : decode cX0_setState 12 = .ok (.getfield 26, 3) := by decide +kernel
theorem dX0_setState_15 : decode cX0_setState 15 = .ok (.iload_n 1, 1) := by decide +kernel
theorem dX0_setState_16 : decode cX0_setState 16 = .ok (.iload_n 2, 1) := by decide +kernel
theorem dX0_setState_17 : decode cX0_setState 17 = .ok (.iastore, 1) := by decide +kernel
theorem dX0_setState_18 : decode cX0_setState 18 = .ok (.return_, 1) := by decide +kernel
set_option maxRecDepth 20000 in
theorem ggX0_isLike_X0_characterAt : GoodIn wsX0_isLike wsX0_characterAt := goodIn_r _ [6, 1, 7, 14, 15, 16, 17, 18, 19, 20, 21, 22, 23, 24, 25] (by decide +kernel) (by decide +kernel)
set_option maxRecDepth 20000 in
theorem gX0_isLike_X0_characterAt : GoodIn wsX0_isLike (wsV RX0 128 RX0 yX0_characterAt wsX0_characterAt) := goodIn_app (goodIn_of _ (by decide +kernel)) ggX0_isLike_X0_characterAt
set_option maxRecDepth 20000 in
theorem ggX0_isLike_X0_isSeen : GoodIn wsX0_isLike wsX0_isSeen := goodIn_r _ [11, 12, 13, 14, 15, 16, 17, 18, 19, 20, 21, 22, 23, 24, 25] (by decide +kernel) (by decide +kernel)
set_option maxRecDepth 20000 in
theorem gX0_isLike_X0_isSeen : GoodIn wsX0_isLike (wsV RX0 119 RX0 yX0_isSeen wsX0_isSeen) := goodIn_app (goodIn_of _ (by decide +kernel)) ggX0_isLike_X0_isSeen
theorem dX0_isLike_0 : decode cX0_isLike 0 = .ok (.aload_n 1, 1) := by decide +kernel
theorem dX0_isLike_1 : decode cX0_isLike 1 = .ok (.ifnull 14, 3) := by decide +kernel
theorem dX0_isLike_4 : decode cX0_isLike 4 = .ok (.aload_n 0, 1) := by decide +kernel
theorem dX0_isLike_5 : decode cX0_isLike 5 = .ok (.getfield 32, 3) := by decide +kernel
theorem dX0_isLike_8 : decode cX0_isLike 8 = .ok (.aload_n 1, 1) := by decide +kernel
theorem dX0_isLike_9 : decode cX0_isLike 9 = .ok (.getfield 32, 3) := by decide +kernel
theorem dX0_isLike_12 : decode cX0_isLike 12 = .ok (.if_icmp .eq 5, 3) := by decide +kernel
theorem dX0_isLike_15 : decode cX0_isLike 15 = .ok (.iconst 0, 1) := by decide +kernel
theorem dX0_isLike_16 : decode cX0_isLike 16 = .ok (.ireturn, 1) := by decide +kernel
theorem dX0_isLike_17 : decode cX0_isLike 17 = .ok (.iconst 0, 1) := by decide +kernel
theorem dX0_isLike_18 : decode cX0_isLike 18 = .ok (.istore_n 2, 1) := by decide +kernel
theorem dX0_isLike_19 : decode cX0_isLike 19 = .ok (.iload_n 2, 1) := by decide +kernel
theorem dX0_isLike_20 : decode cX0_isLike 20 = .ok (.aload_n 0, 1) := by decide +kernel
theorem dX0_isLike_21 : decode cX0_isLike 21 = .ok (.getfield 32, 3) := by decide +kernel
theorem dX0_isLike_24 : decode cX0_isLike 24 = .ok (.if_icmp .ge 39, 3) := by decide +kernel
theorem dX0_isLike_27 : decode cX0_isLike 27 = .ok (.aload_n 0, 1) := by decide +kernel
theorem dX0_isLike_28 : decode cX0_isLike 28 = .ok (.iload_n 2, 1) := by decide +kernel
theorem dX0_isLike_29 : decode cX0_isLike 29 = .ok (.invokevirtual 128, 3) := by decide +kernel
theorem dX0_isLike_32 : decode cX0_isLike 32 = .ok (.istore_n 3, 1) := by decide +kernel
theorem dX0_isLike_33 : decode cX0_isLike 33 = .ok (.iload_n 3, 1) := by decide +kernel
theorem dX0_isLike_34 : decode cX0_isLike 34 = .ok (.aload_n 1, 1) := by decide +kernel
theorem dX0_isLike_35 : decode cX0_isLike 35 = .ok (.iload_n 2, 1) := by decide +kernel
theorem dX0_isLike_36 : decode cX0_isLike 36 = .ok (.invokevirtual 128, 3) := by decide +kernel
theorem dX0_isLike_39 : decode cX0_isLike 39 = .ok (.if_icmp .ne 16, 3) := by decide +kernel
theorem dX0_isLike_42 : decode cX0_isLike 42 = .ok (.aload_n 0, 1) := by decide +kernel
theorem dX0_isLike_43 : decode cX0_isLike 43 = .ok (.iload_n 3, 1) := by decide +kernel
theorem dX0_isLike_44 : decode cX0_isLike 44 = .ok (.invokevirtual 119, 3) := by decide +kernel
theorem dX0_isLike_47 : decode cX0_isLike 47 = .ok (.aload_n 1, 1) := by decide +kernel
theorem dX0_isLike_48 : decode cX0_isLike 48 = .ok (.iload_n 3, 1) := by decide +kernel
theorem dX0_isLike_49 : decode cX0_isLike 49 = .ok (.invokevirtual 119, 3) := by decide +kernel
theorem dX0_isLike_52 : decode cX0_isLike 52 = .ok (.if_icmp .eq 5, 3) := by decide +kernel
theorem dX0_isLike_55 : decode cX0_isLike 55 = .ok (.iconst 0, 1) := by decide +kernel
theorem dX0_isLike_56 : decode cX0_isLike 56 = .ok (.ireturn, 1) := by decide +kernel
theorem dX0_isLike_57 : decode cX0_isLike 57 = .ok (.iinc 2 1, 3) := by decide +kernel
theorem dX0_isLike_60 : decode cX0_isLike 60 = .ok (.goto (-41), 3) := by decide +kernel
theorem dX0_isLike_63 : decode cX0_isLike 63 = .ok (.iconst 1, 1) := by decide +kernel
theorem dX0_isLike_64 : decode cX0_isLike 64 = .ok (.ireturn, 1) := by decide +kernel
theorem dX1_init_0 : decode cX1_init 0 = .ok (.aload_n 0, 1) := by decide +kernel
theorem dX1_init_1 : decode cX1_init 1 = .ok (.invokespecial 3, 3) := by decide +kernel
theorem dX1_init_4 : decode cX1_init 4 = .ok (.aload_n 0, 1) := by decide +kernel
theorem dX1_init_5 : decode cX1_init 5 = .ok (.sipush 4096, 3) := by decide +kernel
theorem dX1_init_8 : decode cX1_init 8 = .ok (.newarray .long, 2) := by decide +kernel
theorem dX1_init_10 : decode cX1_init 10 = .ok (.putfield 9, 3) := by decide +kernel
theorem dX1_init_13 : decode cX1_init 13 = .ok (.aload_n 0, 1) := by decide +kernel
theorem dX1_init_14 : decode cX1_init 14 = .ok (.bipush 12, 2) := by decide +kernel
theorem dX1_init_16 : decode cX1_init 16 = .ok (.newarray .int, 2) := by decide +kernel
theorem dX1_init_18 : decode cX1_init 18 = .ok (.putfield 15, 3) := by decide +kernel
theorem dX1_init_21 : decode cX1_init 21 = .ok (.return_, 1) := by decide +kernel
set_option maxRecDepth 20000 in
theorem ggX1_countOf_X1_weigh : GoodIn wsX1_countOf wsX1_weigh := goodIn_r _ [5, 6, 7, 8, 9, 10, 11, 12, 13, 14, 4, 15, 16, 17, 18, 19, 20, 21, 22, 23, 24, 25, 26, 27, 28, 29, 30, 31, 32, 33, 34, 35, 36, 37, 38, 39, 40, 41, 42, 43, 44, 45, 46, 47, 48, 49, 50, 51, 52, 53, 54, 55, 56, 57, 58, 59, 60, 61, 62, 63, 64, 65, 66, 67, 68, 69, 70, 71, 72, 73, 74, 75, 76, 77, 78, 79, 80, 81, 82, 83, 84] (by decide +kernel) (by decide +kernel)
set_option maxRecDepth 20000 in
theorem gX1_countOf_X1_weigh : GoodIn wsX1_countOf (wsV RX1 19 RX1 yX1_weigh wsX1_weigh) := goodIn_app (goodIn_of _ (by decide +kernel)) ggX1_countOf_X1_weigh
set_option maxRecDepth 20000 in
theorem ggX1_countOf_X1_waysFrom : GoodIn wsX1_countOf wsX1_waysFrom := goodIn_r _ [53, 11, 70, 71] (by decide +kernel) (by decide +kernel)
set_option maxRecDepth 20000 in
theorem gX1_countOf_X1_waysFrom : GoodIn wsX1_countOf (wsV RX1 23 RX1 yX1_waysFrom wsX1_waysFrom) := goodIn_app (goodIn_of _ (by decide +kernel)) ggX1_countOf_X1_waysFrom
theorem dX1_countOf_0 : decode cX1_countOf 0 = .ok (.aload_n 0, 1) := by decide +kernel
theorem dX1_countOf_1 : decode cX1_countOf 1 = .ok (.aload_n 1, 1) := by decide +kernel
theorem dX1_countOf_2 : decode cX1_countOf 2 = .ok (.invokevirtual 19, 3) := by decide +kernel
theorem dX1_countOf_5 : decode cX1_countOf 5 = .ok (.aload_n 0, 1) := by decide +kernel
theorem dX1_countOf_6 : decode cX1_countOf 6 = .ok (.iconst 0, 1) := by decide +kernel
theorem dX1_countOf_7 : decode cX1_countOf 7 = .ok (.invokevirtual 23, 3) := by decide +kernel
theorem dX1_countOf_10 : decode cX1_countOf 10 = .ok (.lreturn, 1) := by decide +kernel
set_option maxRecDepth 20000 in
theorem ggX1_rankOf_X1_weigh : GoodIn wsX1_rankOf wsX1_weigh := goodIn_r _ [11, 1, 2, 3, 4, 5, 12, 13, 14, 15, 10, 16, 17, 6, 18, 19, 20, 21, 22, 23, 24, 25, 26, 27, 28, 29, 30, 31, 32, 33, 34, 35, 36, 37, 38, 39, 40, 41, 42, 43, 44, 45, 46, 47, 48, 49, 50, 51, 52, 53, 54, 55, 56, 57, 63, 64, 65, 66, 67, 68, 69, 70, 71, 72, 73, 74, 75, 76, 77, 78, 79, 80, 81, 82, 83, 84, 85, 86, 87, 88, 89] (by decide +kernel) (by decide +kernel)
set_option maxRecDepth 20000 in
theorem gX1_rankOf_X1_weigh : GoodIn wsX1_rankOf (wsV RX1 19 RX1 yX1_weigh wsX1_weigh) := goodIn_app (goodIn_of _ (by decide +kernel)) ggX1_rankOf_X1_weigh
set_option maxRecDepth 20000 in
theorem ggX1_rankOf_X0_characterAt : GoodIn wsX1_rankOf wsX0_characterAt := goodIn_r _ [22, 23, 24, 63, 64, 65, 66, 67, 68, 69, 70, 71, 72, 73, 74] (by decide +kernel) (by decide +kernel)
set_option maxRecDepth 20000 in
theorem gX1_rankOf_X0_characterAt : GoodIn wsX1_rankOf (wsV RX1 43 RX0 yX0_characterAt wsX0_characterAt) := goodIn_app (goodIn_of _ (by decide +kernel)) ggX1_rankOf_X0_characterAt
set_option maxRecDepth 20000 in
theorem ggX1_rankOf_X2_markOf : GoodIn wsX1_rankOf wsX2_markOf := goodIn_r _ [61, 62, 31, 32, 33, 28, 34, 35, 77, 78, 79, 80, 81, 82, 83, 84, 85, 86, 87, 88, 89] (by decide +kernel) (by decide +kernel)
set_option maxRecDepth 20000 in
theorem gX1_rankOf_X2_markOf : GoodIn wsX1_rankOf (wsV RX1 47 RX2 yX2_markOf wsX2_markOf) := goodIn_app (goodIn_of _ (by decide +kernel)) ggX1_rankOf_X2_markOf
set_option maxRecDepth 20000 in
theorem ggX1_rankOf_X1_waysFrom : GoodIn wsX1_rankOf wsX1_waysFrom := goodIn_r _ [53, 12, 75, 76] (by decide +kernel) (by decide +kernel)
set_option maxRecDepth 20000 in
theorem gX1_rankOf_X1_waysFrom : GoodIn wsX1_rankOf (wsV RX1 23 RX1 yX1_waysFrom wsX1_waysFrom) := goodIn_app (goodIn_of _ (by decide +kernel)) ggX1_rankOf_X1_waysFrom
theorem dX1_rankOf_0 : decode cX1_rankOf 0 = .ok (.aload_n 0, 1) := by decide +kernel
theorem dX1_rankOf_1 : decode cX1_rankOf 1 = .ok (.aload_n 1, 1) := by decide +kernel
theorem dX1_rankOf_2 : decode cX1_rankOf 2 = .ok (.invokevirtual 19, 3) := by decide +kernel
theorem dX1_rankOf_5 : decode cX1_rankOf 5 = .ok (.aload_n 1, 1) := by decide +kernel
theorem dX1_rankOf_6 : decode cX1_rankOf 6 = .ok (.getfield 27, 3) := by decide +kernel
theorem dX1_rankOf_9 : decode cX1_rankOf 9 = .ok (.bipush 12, 2) := by decide +kernel
theorem dX1_rankOf_11 : decode cX1_rankOf 11 = .ok (.invokestatic 33, 3) := by decide +kernel
theorem dX1_rankOf_14 : decode cX1_rankOf 14 = .ok (.istore_n 2, 1) := by decide +kernel
theorem dX1_rankOf_15 : decode cX1_rankOf 15 = .ok (.lconst 0, 1) := by decide +kernel
theorem dX1_rankOf_16 : decode cX1_rankOf 16 = .ok (.lstore_n 3, 1) := by decide +kernel
theorem dX1_rankOf_17 : decode cX1_rankOf 17 = .ok (.iconst 0, 1) := by decide +kernel
theorem dX1_rankOf_18 : decode cX1_rankOf 18 = .ok (.istore 5, 2) := by decide +kernel
theorem dX1_rankOf_20 : decode cX1_rankOf 20 = .ok (.iload 5, 2) := by decide +kernel
theorem dX1_rankOf_22 : decode cX1_rankOf 22 = .ok (.iload_n 2, 1) := by decide +kernel
theorem dX1_rankOf_23 : decode cX1_rankOf 23 = .ok (.if_icmp .ge 82, 3) := by decide +kernel
theorem dX1_rankOf_26 : decode cX1_rankOf 26 = .ok (.iconst 1, 1) := by decide +kernel
theorem dX1_rankOf_27 : decode cX1_rankOf 27 = .ok (.iload 5, 2) := by decide +kernel
theorem dX1_rankOf_29 : decode cX1_rankOf 29 = .ok (.ishl, 1) := by decide +kernel
theorem dX1_rankOf_30 : decode cX1_rankOf 30 = .ok (.iconst 1, 1) := by decide +kernel
theorem dX1_rankOf_31 : decode cX1_rankOf 31 = .ok (.isub, 1) := by decide +kernel
theorem dX1_rankOf_32 : decode cX1_rankOf 32 = .ok (.istore 6, 2) := by decide +kernel
theorem dX1_rankOf_34 : decode cX1_rankOf 34 = .ok (.aload_n 1, 1) := by decide +kernel
theorem dX1_rankOf_35 : decode cX1_rankOf 35 = .ok (.getfield 39, 3) := by decide +kernel
theorem dX1_rankOf_38 : decode cX1_rankOf 38 = .ok (.aload_n 1, 1) := by decide +kernel
theorem dX1_rankOf_39 : decode cX1_rankOf 39 = .ok (.iload 5, 2) := by decide +kernel
theorem dX1_rankOf_41 : decode cX1_rankOf 41 = .ok (.invokevirtual 43, 3) := by decide +kernel
theorem dX1_rankOf_44 : decode cX1_rankOf 44 = .ok (.invokevirtual 47, 3) := by decide +kernel
theorem dX1_rankOf_47 : decode cX1_rankOf 47 = .ok (.istore 7, 2) := by decide +kernel
theorem dX1_rankOf_49 : decode cX1_rankOf 49 = .ok (.iload 5, 2) := by decide +kernel
theorem dX1_rankOf_51 : decode cX1_rankOf 51 = .ok (.iconst 1, 1) := by decide +kernel
theorem dX1_rankOf_52 : decode cX1_rankOf 52 = .ok (.iadd, 1) := by decide +kernel
theorem dX1_rankOf_53 : decode cX1_rankOf 53 = .ok (.istore 8, 2) := by decide +kernel
theorem dX1_rankOf_55 : decode cX1_rankOf 55 = .ok (.iload 8, 2) := by decide +kernel
theorem dX1_rankOf_57 : decode cX1_rankOf 57 = .ok (.iload_n 2, 1) := by decide +kernel
theorem dX1_rankOf_58 : decode cX1_rankOf 58 = .ok (.if_icmp .ge 41, 3) := by decide +kernel
theorem dX1_rankOf_61 : decode cX1_rankOf 61 = .ok (.aload_n 1, 1) := by decide +kernel
theorem dX1_rankOf_62 : decode cX1_rankOf 62 = .ok (.getfield 39, 3) := by decide +kernel
theorem dX1_rankOf_65 : decode cX1_rankOf 65 = .ok (.aload_n 1, 1) := by decide +kernel
theorem dX1_rankOf_66 : decode cX1_rankOf 66 = .ok (.iload 8, 2) := by decide +kernel
theorem dX1_rankOf_68 : decode cX1_rankOf 68 = .ok (.invokevirtual 43, 3) := by decide +kernel
theorem dX1_rankOf_71 : decode cX1_rankOf 71 = .ok (.invokevirtual 47, 3) := by decide +kernel
theorem dX1_rankOf_74 : decode cX1_rankOf 74 = .ok (.iload 7, 2) := by decide +kernel
theorem dX1_rankOf_76 : decode cX1_rankOf 76 = .ok (.if_icmp .ge 17, 3) := by decide +kernel
theorem dX1_rankOf_79 : decode cX1_rankOf 79 = .ok (.lload_n 3, 1) := by decide +kernel
theorem dX1_rankOf_80 : decode cX1_rankOf 80 = .ok (.aload_n 0, 1) := by decide +kernel
theorem dX1_rankOf_81 : decode cX1_rankOf 81 = .ok (.iload 6, 2) := by decide +kernel
theorem dX1_rankOf_83 : decode cX1_rankOf 83 = .ok (.iconst 1, 1) := by decide +kernel
theorem dX1_rankOf_84 : decode cX1_rankOf 84 = .ok (.iload 8, 2) := by decide +kernel
theorem dX1_rankOf_86 : decode cX1_rankOf 86 = .ok (.ishl, 1) := by decide +kernel
theorem dX1_rankOf_87 : decode cX1_rankOf 87 = .ok (.ior, 1) := by decide +kernel
theorem dX1_rankOf_88 : decode cX1_rankOf 88 = .ok (.invokevirtual 23, 3) := by decide +kernel
theorem dX1_rankOf_91 : decode cX1_rankOf 91 = .ok (.ladd, 1) := by decide +kernel
theorem dX1_rankOf_92 : decode cX1_rankOf 92 = .ok (.lstore_n 3, 1) := by decide +kernel
theorem dX1_rankOf_93 : decode cX1_rankOf 93 = .ok (.iinc 8 1, 3) := by decide +kernel
theorem dX1_rankOf_96 : decode cX1_rankOf 96 = .ok (.goto (-41), 3) := by decide +kernel
theorem dX1_rankOf_99 : decode cX1_rankOf 99 = .ok (.iinc 5 1, 3) := by decide +kernel
theorem dX1_rankOf_102 : decode cX1_rankOf 102 = .ok (.goto (-82), 3) := by decide +kernel
theorem dX1_rankOf_105 : decode cX1_rankOf 105 = .ok (.lload_n 3, 1) := by decide +kernel
theorem dX1_rankOf_106 : decode cX1_rankOf 106 = .ok (.lreturn, 1) := by decide +kernel
theorem dX1_waysFrom_0 : decode cX1_waysFrom 0 = .ok (.iload_n 1, 1) := by decide +kernel
theorem dX1_waysFrom_1 : decode cX1_waysFrom 1 = .ok (.ifCond .lt 21, 3) := by decide +kernel
theorem dX1_waysFrom_4 : decode cX1_waysFrom 4 = .ok (.iload_n 1, 1) := by decide +kernel
theorem dX1_waysFrom_5 : decode cX1_waysFrom 5 = .ok (.aload_n 0, 1) := by decide +kernel
theorem dX1_waysFrom_6 : decode cX1_waysFrom 6 = .ok (.getfield 9, 3) := by decide +kernel
theorem dX1_waysFrom_9 : decode cX1_waysFrom 9 = .ok (.arraylength, 1) := by decide +kernel
theorem dX1_waysFrom_10 : decode cX1_waysFrom 10 = .ok (.if_icmp .ge 12, 3) := by decide +kernel
theorem dX1_waysFrom_13 : decode cX1_waysFrom 13 = .ok (.aload_n 0, 1) := by decide +kernel
theorem dX1_waysFrom_14 : decode cX1_waysFrom 14 = .ok (.getfield 9, 3) := by decide +kernel
theorem dX1_waysFrom_17 : decode cX1_waysFrom 17 = .ok (.iload_n 1, 1) := by decide +kernel
theorem dX1_waysFrom_18 : decode cX1_waysFrom 18 = .ok (.laload, 1) := by decide +kernel
theorem dX1_waysFrom_19 : decode cX1_waysFrom 19 = .ok (.goto 4, 3) := by decide +kernel
theorem dX1_waysFrom_22 : decode cX1_waysFrom 22 = .ok (.lconst 0, 1) := by decide +kernel
theorem dX1_waysFrom_23 : decode cX1_waysFrom 23 = .ok (.lreturn, 1) := by decide +kernel
set_option maxRecDepth 20000 in
theorem ggX1_weigh_X1_listFollowers : GoodIn wsX1_weigh wsX1_listFollowers := goodIn_r _ [11, 12, 13, 14, 15, 16, 17, 18, 19, 20, 21, 22, 23, 24, 25, 26, 27, 28, 29, 30, 31, 32, 33, 34, 35, 36, 37, 38, 39, 10, 40, 41, 42, 43, 44, 45, 66, 67, 54, 55, 56, 57, 58, 59, 60, 61, 62, 63, 64, 65, 68, 69, 70, 71, 72, 73, 74, 75, 76, 77, 78, 79, 80] (by decide +kernel) (by decide +kernel)
set_option maxRecDepth 20000 in
theorem gX1_weigh_X1_listFollowers : GoodIn wsX1_weigh (wsV RX1 52 RX1 yX1_listFollowers wsX1_listFollowers) := goodIn_app (goodIn_of _ (by decide +kernel)) ggX1_weigh_X1_listFollowers
set_option maxRecDepth 20000 in
theorem ggX1_weigh_X1_waysFrom : GoodIn wsX1_weigh wsX1_waysFrom := goodIn_r _ [49, 6, 66, 67] (by decide +kernel) (by decide +kernel)
set_option maxRecDepth 20000 in
theorem gX1_weigh_X1_waysFrom : GoodIn wsX1_weigh (wsV RX1 23 RX1 yX1_waysFrom wsX1_waysFrom) := goodIn_app (goodIn_of _ (by decide +kernel)) ggX1_weigh_X1_waysFrom
set_option maxRecDepth 20000 in
theorem ggX1_weigh_X1_handOn : GoodIn wsX1_weigh wsX1_handOn := goodIn_r _ [53, 12, 6, 46, 47, 48, 10, 49, 66, 67] (by decide +kernel) (by decide +kernel)
set_option maxRecDepth 20000 in
theorem gX1_weigh_X1_handOn : GoodIn wsX1_weigh (wsV RX1 56 RX1 yX1_handOn wsX1_handOn) := goodIn_app (goodIn_of _ (by decide +kernel)) ggX1_weigh_X1_handOn
theorem dX1_weigh_0 : decode cX1_weigh 0 = .ok (.aload_n 1, 1) := by decide +kernel
theorem dX1_weigh_1 : decode cX1_weigh 1 = .ok (.getfield 27, 3) := by decide +kernel
theorem dX1_weigh_4 : decode cX1_weigh 4 = .ok (.bipush 12, 2) := by decide +kernel
theorem dX1_weigh_6 : decode cX1_weigh 6 = .ok (.invokestatic 33, 3) := by decide +kernel
theorem dX1_weigh_9 : decode cX1_weigh 9 = .ok (.istore_n 2, 1) := by decide +kernel
theorem dX1_weigh_10 : decode cX1_weigh 10 = .ok (.iconst 1, 1) := by decide +kernel
theorem dX1_weigh_11 : decode cX1_weigh 11 = .ok (.iload_n 2, 1) := by decide +kernel
theorem dX1_weigh_12 : decode cX1_weigh 12 = .ok (.ishl, 1) := by decide +kernel
theorem dX1_weigh_13 : decode cX1_weigh 13 = .ok (.iconst 1, 1) := by decide +kernel
theorem dX1_weigh_14 : decode cX1_weigh 14 = .ok (.isub, 1) := by decide +kernel
theorem dX1_weigh_15 : decode cX1_weigh 15 = .ok (.istore_n 3, 1) := by decide +kernel
theorem dX1_weigh_16 : decode cX1_weigh 16 = .ok (.aload_n 0, 1) := by decide +kernel
theorem dX1_weigh_17 : decode cX1_weigh 17 = .ok (.aload_n 1, 1) := by decide +kernel
theorem dX1_weigh_18 : decode cX1_weigh 18 = .ok (.iload_n 2, 1) := by decide +kernel
theorem dX1_weigh_19 : decode cX1_weigh 19 = .ok (.invokevirtual 52, 3) := by decide +kernel
theorem dX1_weigh_22 : decode cX1_weigh 22 = .ok (.iconst 0, 1) := by decide +kernel
theorem dX1_weigh_23 : decode cX1_weigh 23 = .ok (.istore 4, 2) := by decide +kernel
theorem dX1_weigh_25 : decode cX1_weigh 25 = .ok (.iload 4, 2) := by decide +kernel
theorem dX1_weigh_27 : decode cX1_weigh 27 = .ok (.iload_n 3, 1) := by decide +kernel
theorem dX1_weigh_28 : decode cX1_weigh 28 = .ok (.if_icmp .gt 37, 3) := by decide +kernel
theorem dX1_weigh_31 : decode cX1_weigh 31 = .ok (.iload 4, 2) := by decide +kernel
theorem dX1_weigh_33 : decode cX1_weigh 33 = .ok (.aload_n 0, 1) := by decide +kernel
theorem dX1_weigh_34 : decode cX1_weigh 34 = .ok (.getfield 9, 3) := by decide +kernel
theorem dX1_weigh_37 : decode cX1_weigh 37 = .ok (.arraylength, 1) := by decide +kernel
theorem dX1_weigh_38 : decode cX1_weigh 38 = .ok (.if_icmp .ge 27, 3) := by decide +kernel
theorem dX1_weigh_41 : decode cX1_weigh 41 = .ok (.aload_n 0, 1) := by decide +kernel
theorem dX1_weigh_42 : decode cX1_weigh 42 = .ok (.getfield 9, 3) := by decide +kernel
theorem dX1_weigh_45 : decode cX1_weigh 45 = .ok (.iload 4, 2) := by decide +kernel
theorem dX1_weigh_47 : decode cX1_weigh 47 = .ok (.iload 4, 2) := by decide +kernel
theorem dX1_weigh_49 : decode cX1_weigh 49 = .ok (.iload_n 3, 1) := by decide +kernel
theorem dX1_weigh_50 : decode cX1_weigh 50 = .ok (.if_icmp .ne 7, 3) := by decide +kernel
theorem dX1_weigh_53 : decode cX1_weigh 53 = .ok (.lconst 1, 1) := by decide +kernel
theorem dX1_weigh_54 : decode cX1_weigh 54 = .ok (.goto 4, 3) := by decide +kernel
theorem dX1_weigh_57 : decode cX1_weigh 57 = .ok (.lconst 0, 1) := by decide +kernel
theorem dX1_weigh_58 : decode cX1_weigh 58 = .ok (.lastore, 1) := by decide +kernel
theorem dX1_weigh_59 : decode cX1_weigh 59 = .ok (.iinc 4 1, 3) := by decide +kernel
theorem dX1_weigh_62 : decode cX1_weigh 62 = .ok (.goto (-37), 3) := by decide +kernel
theorem dX1_weigh_65 : decode cX1_weigh 65 = .ok (.iload_n 3, 1) := by decide +kernel
theorem dX1_weigh_66 : decode cX1_weigh 66 = .ok (.istore 4, 2) := by decide +kernel
theorem dX1_weigh_68 : decode cX1_weigh 68 = .ok (.iload 4, 2) := by decide +kernel
theorem dX1_weigh_70 : decode cX1_weigh 70 = .ok (.ifCond .le 27, 3) := by decide +kernel
theorem dX1_weigh_73 : decode cX1_weigh 73 = .ok (.aload_n 0, 1) := by decide +kernel
theorem dX1_weigh_74 : decode cX1_weigh 74 = .ok (.iload 4, 2) := by decide +kernel
theorem dX1_weigh_76 : decode cX1_weigh 76 = .ok (.invokevirtual 23, 3) := by decide +kernel
theorem dX1_weigh_79 : decode cX1_weigh 79 = .ok (.lconst 0, 1) := by decide +kernel
theorem dX1_weigh_80 : decode cX1_weigh 80 = .ok (.lcmp, 1) := by decide +kernel
theorem dX1_weigh_81 : decode cX1_weigh 81 = .ok (.ifCond .eq 10, 3) := by decide +kernel
theorem dX1_weigh_84 : decode cX1_weigh 84 = .ok (.aload_n 0, 1) := by decide +kernel
theorem dX1_weigh_85 : decode cX1_weigh 85 = .ok (.iload 4, 2) := by decide +kernel
theorem dX1_weigh_87 : decode cX1_weigh 87 = .ok (.iload_n 2, 1) := by decide +kernel
theorem dX1_weigh_88 : decode cX1_weigh 88 = .ok (.invokevirtual 56, 3) := by decide +kernel
theorem dX1_weigh_91 : decode cX1_weigh 91 = .ok (.iinc 4 (-1), 3) := by decide +kernel
theorem dX1_weigh_94 : decode cX1_weigh 94 = .ok (.goto (-26), 3) := by decide +kernel
theorem dX1_weigh_97 : decode cX1_weigh 97 = .ok (.return_, 1) := by decide +kernel
set_option maxRecDepth 20000 in
theorem ggX1_listFollowers_X0_characterAt : GoodIn wsX1_listFollowers wsX0_characterAt := goodIn_r _ [7, 8, 9, 38, 39, 40, 41, 42, 43, 44, 45, 46, 47, 48, 49] (by decide +kernel) (by decide +kernel)
set_option maxRecDepth 20000 in
theorem gX1_listFollowers_X0_characterAt : GoodIn wsX1_listFollowers (wsV RX1 43 RX0 yX0_characterAt wsX0_characterAt) := goodIn_app (goodIn_of _ (by decide +kernel)) ggX1_listFollowers_X0_characterAt
set_option maxRecDepth 20000 in
theorem ggX1_listFollowers_X2_leftOf : GoodIn wsX1_listFollowers wsX2_leftOf := goodIn_r _ [14, 15, 16, 17, 18, 13, 19, 20, 50, 51, 52, 53, 54, 55, 56, 57, 58, 59, 60, 61, 62] (by decide +kernel) (by decide +kernel)
set_option maxRecDepth 20000 in
theorem gX1_listFollowers_X2_leftOf : GoodIn wsX1_listFollowers (wsV RX1 60 RX2 yX2_leftOf wsX2_leftOf) := goodIn_app (goodIn_of _ (by decide +kernel)) ggX1_listFollowers_X2_leftOf
set_option maxRecDepth 20000 in
theorem ggX1_listFollowers_X0_placeOf : GoodIn wsX1_listFollowers wsX0_placeOf := goodIn_r _ [24, 25, 8, 38, 39, 40, 41, 42, 43, 44, 45, 46, 47, 48, 49] (by decide +kernel) (by decide +kernel)
set_option maxRecDepth 20000 in
theorem gX1_listFollowers_X0_placeOf : GoodIn wsX1_listFollowers (wsV RX1 63 RX0 yX0_placeOf wsX0_placeOf) := goodIn_app (goodIn_of _ (by decide +kernel)) ggX1_listFollowers_X0_placeOf
set_option maxRecDepth 20000 in
theorem ggX1_listFollowers_X1_addFollower : GoodIn wsX1_listFollowers wsX1_addFollower := goodIn_r _ [30, 1, 36, 37] (by decide +kernel) (by decide +kernel)
set_option maxRecDepth 20000 in
theorem gX1_listFollowers_X1_addFollower : GoodIn wsX1_listFollowers (wsV RX1 66 RX1 yX1_addFollower wsX1_addFollower) := goodIn_app (goodIn_of _ (by decide +kernel)) ggX1_listFollowers_X1_addFollower
set_option maxRecDepth 20000 in
theorem ggX1_listFollowers_X2_rightOf : GoodIn wsX1_listFollowers wsX2_rightOf := goodIn_r _ [34, 35, 16, 17, 18, 13, 19, 20, 50, 51, 52, 53, 54, 55, 56, 57, 58, 59, 60, 61, 62] (by decide +kernel) (by decide +kernel)
set_option maxRecDepth 20000 in
theorem gX1_listFollowers_X2_rightOf : GoodIn wsX1_listFollowers (wsV RX1 70 RX2 yX2_rightOf wsX2_rightOf) := goodIn_app (goodIn_of _ (by decide +kernel)) ggX1_listFollowers_X2_rightOf
theorem dX1_listFollowers_0 : decode cX1_listFollowers 0 = .ok (.iconst 0, 1) := by decide +kernel
theorem dX1_listFollowers_1 : decode cX1_listFollowers 1 = .ok (.istore_n 3, 1) := by decide +kernel
theorem dX1_listFollowers_2 : decode cX1_listFollowers 2 = .ok (.iload_n 3, 1) := by decide +kernel
theorem dX1_listFollowers_3 : decode cX1_listFollowers 3 = .ok (.bipush 12, 2) := by decide +kernel
theorem dX1_listFollowers_5 : decode cX1_listFollowers 5 = .ok (.if_icmp .ge 16, 3) := by decide +kernel
theorem dX1_listFollowers_8 : decode cX1_listFollowers 8 = .ok (.aload_n 0, 1) := by decide +kernel
theorem dX1_listFollowers_9 : decode cX1_listFollowers 9 = .ok (.getfield 15, 3) := by decide +kernel
theorem dX1_listFollowers_12 : decode cX1_listFollowers 12 = .ok (.iload_n 3, 1) := by decide +kernel
theorem dX1_listFollowers_13 : decode cX1_listFollowers 13 = .ok (.iconst 0, 1) := by decide +kernel
theorem dX1_listFollowers_14 : decode cX1_listFollowers 14 = .ok (.iastore, 1) := by decide +kernel
theorem dX1_listFollowers_15 : decode cX1_listFollowers 15 = .ok (.iinc 3 1, 3) := by decide +kernel
theorem dX1_listFollowers_18 : decode cX1_listFollowers 18 = .ok (.goto (-16), 3) := by decide +kernel
theorem dX1_listFollowers_21 : decode cX1_listFollowers 21 = .ok (.iconst 0, 1) := by decide +kernel
theorem dX1_listFollowers_22 : decode cX1_listFollowers 22 = .ok (.istore_n 3, 1) := by decide +kernel
theorem dX1_listFollowers_23 : decode cX1_listFollowers 23 = .ok (.iload_n 3, 1) := by decide +kernel
theorem dX1_listFollowers_24 : decode cX1_listFollowers 24 = .ok (.iload_n 2, 1) := by decide +kernel
theorem dX1_listFollowers_25 : decode cX1_listFollowers 25 = .ok (.if_icmp .ge 54, 3) := by decide +kernel
theorem dX1_listFollowers_28 : decode cX1_listFollowers 28 = .ok (.aload_n 1, 1) := by decide +kernel
theorem dX1_listFollowers_29 : decode cX1_listFollowers 29 = .ok (.iload_n 3, 1) := by decide +kernel
theorem dX1_listFollowers_30 : decode cX1_listFollowers 30 = .ok (.invokevirtual 43, 3) := by decide +kernel
theorem dX1_listFollowers_33 : decode cX1_listFollowers 33 = .ok (.istore 4, 2) := by decide +kernel
theorem dX1_listFollowers_35 : decode cX1_listFollowers 35 = .ok (.aload_n 0, 1) := by decide +kernel
theorem dX1_listFollowers_36 : decode cX1_listFollowers 36 = .ok (.aload_n 1, 1) := by decide +kernel
theorem dX1_listFollowers_37 : decode cX1_listFollowers 37 = .ok (.aload_n 1, 1) := by decide +kernel
theorem dX1_listFollowers_38 : decode cX1_listFollowers 38 = .ok (.getfield 39, 3) := by decide +kernel
theorem dX1_listFollowers_41 : decode cX1_listFollowers 41 = .ok (.iload 4, 2) := by decide +kernel
theorem dX1_listFollowers_43 : decode cX1_listFollowers 43 = .ok (.invokevirtual 60, 3) := by decide +kernel
theorem dX1_listFollowers_46 : decode cX1_listFollowers 46 = .ok (.invokevirtual 63, 3) := by decide +kernel
theorem dX1_listFollowers_49 : decode cX1_listFollowers 49 = .ok (.iload_n 3, 1) := by decide +kernel
theorem dX1_listFollowers_50 : decode cX1_listFollowers 50 = .ok (.iload_n 2, 1) := by decide +kernel
theorem dX1_listFollowers_51 : decode cX1_listFollowers 51 = .ok (.invokevirtual 66, 3) := by decide +kernel
theorem dX1_listFollowers_54 : decode cX1_listFollowers 54 = .ok (.aload_n 0, 1) := by decide +kernel
theorem dX1_listFollowers_55 : decode cX1_listFollowers 55 = .ok (.iload_n 3, 1) := by decide +kernel
theorem dX1_listFollowers_56 : decode cX1_listFollowers 56 = .ok (.aload_n 1, 1) := by decide +kernel
theorem dX1_listFollowers_57 : decode cX1_listFollowers 57 = .ok (.aload_n 1, 1) := by decide +kernel
theorem dX1_listFollowers_58 : decode cX1_listFollowers 58 = .ok (.getfield 39, 3) := by decide +kernel
theorem dX1_listFollowers_61 : decode cX1_listFollowers 61 = .ok (.iload 4, 2) := by decide +kernel
theorem dX1_listFollowers_63 : decode cX1_listFollowers 63 = .ok (.invokevirtual 70, 3) := by decide +kernel
theorem dX1_listFollowers_66 : decode cX1_listFollowers 66 = .ok (.invokevirtual 63, 3) := by decide +kernel
theorem dX1_listFollowers_69 : decode cX1_listFollowers 69 = .ok (.iload_n 2, 1) := by decide +kernel
theorem dX1_listFollowers_70 : decode cX1_listFollowers 70 = .ok (.invokevirtual 66, 3) := by decide +kernel
theorem dX1_listFollowers_73 : decode cX1_listFollowers 73 = .ok (.iinc 3 1, 3) := by decide +kernel
theorem dX1_listFollowers_76 : decode cX1_listFollowers 76 = .ok (.goto (-53), 3) := by decide +kernel
theorem dX1_listFollowers_79 : decode cX1_listFollowers 79 = .ok (.return_, 1) := by decide +kernel
theorem dX1_addFollower_0 : decode cX1_addFollower 0 = .ok (.iload_n 1, 1) := by decide +kernel
theorem dX1_addFollower_1 : decode cX1_addFollower 1 = .ok (.ifCond .lt 35, 3) := by decide +kernel
theorem dX1_addFollower_4 : decode cX1_addFollower 4 = .ok (.iload_n 1, 1) := by decide +kernel
theorem dX1_addFollower_5 : decode cX1_addFollower 5 = .ok (.iload_n 3, 1) := by decide +kernel
theorem dX1_addFollower_6 : decode cX1_addFollower 6 = .ok (.if_icmp .ge 30, 3) := by decide +kernel
theorem dX1_addFollower_9 : decode cX1_addFollower 9 = .ok (.iload_n 1, 1) := by decide +kernel
theorem dX1_addFollower_10 : decode cX1_addFollower 10 = .ok (.bipush 12, 2) := by decide +kernel
theorem dX1_addFollower_12 : decode cX1_addFollower 12 = .ok (.if_icmp .ge 24, 3) := by decide +kernel
theorem dX1_addFollower_15 : decode cX1_addFollower 15 = .ok (.iload_n 2, 1) := by decide +kernel
theorem dX1_addFollower_16 : decode cX1_addFollower 16 = .ok (.ifCond .lt 20, 3) := by decide +kernel
theorem dX1_addFollower_19 : decode cX1_addFollower 19 = .ok (.iload_n 2, 1) := by decide +kernel
theorem dX1_addFollower_20 : decode cX1_addFollower 20 = .ok (.iload_n 3, 1) := by decide +kernel
theorem dX1_addFollower_21 : decode cX1_addFollower 21 = .ok (.if_icmp .ge 15, 3) := by decide +kernel
theorem dX1_addFollower_24 : decode cX1_addFollower 24 = .ok (.aload_n 0, 1) := by decide +kernel
theorem dX1_addFollower_25 : decode cX1_addFollower 25 = .ok (.getfield 15, 3) := by decide +kernel
theorem dX1_addFollower_28 : decode cX1_addFollower 28 = .ok (.iload_n 1, 1) := by decide +kernel
theorem dX1_addFollower_29 : decode cX1_addFollower 29 = .ok (.dup2, 1) := by decide +kernel
theorem dX1_addFollower_30 : decode cX1_addFollower 30 = .ok (.iaload, 1) := by decide +kernel
theorem dX1_addFollower_31 : decode cX1_addFollower 31 = .ok (.iconst 1, 1) := by decide +kernel
theorem dX1_addFollower_32 : decode cX1_addFollower 32 = .ok (.iload_n 2, 1) := by decide +kernel
theorem dX1_addFollower_33 : decode cX1_addFollower 33 = .ok (.ishl, 1) := by decide +kernel
theorem dX1_addFollower_34 : decode cX1_addFollower 34 = .ok (.ior, 1) := by decide +kernel
theorem dX1_addFollower_35 : decode cX1_addFollower 35 = .ok (.iastore, 1) := by decide +kernel
theorem dX1_addFollower_36 : decode cX1_addFollower 36 = .ok (.return_, 1) := by decide +kernel
set_option maxRecDepth 20000 in
theorem ggX1_handOn_X1_waysFrom : GoodIn wsX1_handOn wsX1_waysFrom := goodIn_r _ [7, 2, 8, 9] (by decide +kernel) (by decide +kernel)
set_option maxRecDepth 20000 in
theorem gX1_handOn_X1_waysFrom : GoodIn wsX1_handOn (wsV RX1 23 RX1 yX1_waysFrom wsX1_waysFrom) := goodIn_app (goodIn_of _ (by decide +kernel)) ggX1_handOn_X1_waysFrom
theorem dX1_handOn_0 : decode cX1_handOn 0 = .ok (.iconst 0, 1) := by decide +kernel
theorem dX1_handOn_1 : decode cX1_handOn 1 = .ok (.istore_n 3, 1) := by decide +kernel
theorem dX1_handOn_2 : decode cX1_handOn 2 = .ok (.iload_n 3, 1) := by decide +kernel
theorem dX1_handOn_3 : decode cX1_handOn 3 = .ok (.iload_n 2, 1) := by decide +kernel
theorem dX1_handOn_4 : decode cX1_handOn 4 = .ok (.if_icmp .ge 87, 3) := by decide +kernel
theorem dX1_handOn_7 : decode cX1_handOn 7 = .ok (.iload_n 3, 1) := by decide +kernel
theorem dX1_handOn_8 : decode cX1_handOn 8 = .ok (.bipush 12, 2) := by decide +kernel
theorem dX1_handOn_10 : decode cX1_handOn 10 = .ok (.if_icmp .ge 81, 3) := by decide +kernel
theorem dX1_handOn_13 : decode cX1_handOn 13 = .ok (.iconst 1, 1) := by decide +kernel
theorem dX1_handOn_14 : decode cX1_handOn 14 = .ok (.iload_n 3, 1) := by decide +kernel
theorem dX1_handOn_15 : decode cX1_handOn 15 = .ok (.ishl, 1) := by decide +kernel
theorem dX1_handOn_16 : decode cX1_handOn 16 = .ok (.istore 4, 2) := by decide +kernel
theorem dX1_handOn_18 : decode cX1_handOn 18 = .ok (.iload_n 1, 1) := by decide +kernel
theorem dX1_handOn_19 : decode cX1_handOn 19 = .ok (.iload 4, 2) := by decide +kernel
theorem dX1_handOn_21 : decode cX1_handOn 21 = .ok (.iconst (-1), 1) := by decide +kernel
theorem dX1_handOn_22 : decode cX1_handOn 22 = .ok (.ixor, 1) := by decide +kernel
theorem dX1_handOn_23 : decode cX1_handOn 23 = .ok (.iand, 1) := by decide +kernel
theorem dX1_handOn_24 : decode cX1_handOn 24 = .ok (.istore 5, 2) := by decide +kernel
theorem dX1_handOn_26 : decode cX1_handOn 26 = .ok (.iload 5, 2) := by decide +kernel
theorem dX1_handOn_28 : decode cX1_handOn 28 = .ok (.iload_n 1, 1) := by decide +kernel
theorem dX1_handOn_29 : decode cX1_handOn 29 = .ok (.if_icmp .eq 18, 3) := by decide +kernel
theorem dX1_handOn_32 : decode cX1_handOn 32 = .ok (.aload_n 0, 1) := by decide +kernel
theorem dX1_handOn_33 : decode cX1_handOn 33 = .ok (.getfield 15, 3) := by decide +kernel
theorem dX1_handOn_36 : decode cX1_handOn 36 = .ok (.iload_n 3, 1) := by decide +kernel
theorem dX1_handOn_37 : decode cX1_handOn 37 = .ok (.iaload, 1) := by decide +kernel
theorem dX1_handOn_38 : decode cX1_handOn 38 = .ok (.iload_n 1, 1) := by decide +kernel
theorem dX1_handOn_39 : decode cX1_handOn 39 = .ok (.iand, 1) := by decide +kernel
theorem dX1_handOn_40 : decode cX1_handOn 40 = .ok (.ifCond .ne 7, 3) := by decide +kernel
theorem dX1_handOn_43 : decode cX1_handOn 43 = .ok (.iconst 1, 1) := by decide +kernel
theorem dX1_handOn_44 : decode cX1_handOn 44 = .ok (.goto 4, 3) := by decide +kernel
theorem dX1_handOn_47 : decode cX1_handOn 47 = .ok (.iconst 0, 1) := by decide +kernel
theorem dX1_handOn_48 : decode cX1_handOn 48 = .ok (.istore 6, 2) := by decide +kernel
theorem dX1_handOn_50 : decode cX1_handOn 50 = .ok (.iload 6, 2) := by decide +kernel
theorem dX1_handOn_52 : decode cX1_handOn 52 = .ok (.ifCond .eq 33, 3) := by decide +kernel
theorem dX1_handOn_55 : decode cX1_handOn 55 = .ok (.iload 5, 2) := by decide +kernel
theorem dX1_handOn_57 : decode cX1_handOn 57 = .ok (.ifCond .lt 28, 3) := by decide +kernel
theorem dX1_handOn_60 : decode cX1_handOn 60 = .ok (.iload 5, 2) := by decide +kernel
theorem dX1_handOn_62 : decode cX1_handOn 62 = .ok (.aload_n 0, 1) := by decide +kernel
theorem dX1_handOn_63 : decode cX1_handOn 63 = .ok (.getfield 9, 3) := by decide +kernel
theorem dX1_handOn_66 : decode cX1_handOn 66 = .ok (.arraylength, 1) := by decide +kernel
theorem dX1_handOn_67 : decode cX1_handOn 67 = .ok (.if_icmp .ge 18, 3) := by decide +kernel
theorem dX1_handOn_70 : decode cX1_handOn 70 = .ok (.aload_n 0, 1) := by decide +kernel
theorem dX1_handOn_71 : decode cX1_handOn 71 = .ok (.getfield 9, 3) := by decide +kernel
theorem dX1_handOn_74 : decode cX1_handOn 74 = .ok (.iload 5, 2) := by decide +kernel
theorem dX1_handOn_76 : decode cX1_handOn 76 = .ok (.dup2, 1) := by decide +kernel
theorem dX1_handOn_77 : decode cX1_handOn 77 = .ok (.laload, 1) := by decide +kernel
theorem dX1_handOn_78 : decode cX1_handOn 78 = .ok (.aload_n 0, 1) := by decide +kernel
theorem dX1_handOn_79 : decode cX1_handOn 79 = .ok (.iload_n 1, 1) := by decide +kernel
theorem dX1_handOn_80 : decode cX1_handOn 80 = .ok (.invokevirtual 23, 3) := by decide +kernel
theorem dX1_handOn_83 : decode cX1_handOn 83 = .ok (.ladd, 1) := by decide +kernel
theorem dX1_handOn_84 : decode cX1_handOn 84 = .ok (.lastore, 1) := by decide +kernel
theorem dX1_handOn_85 : decode cX1_handOn 85 = .ok (.iinc 3 1, 3) := by decide +kernel
theorem dX1_handOn_88 : decode cX1_handOn 88 = .ok (.goto (-86), 3) := by decide +kernel
theorem dX1_handOn_91 : decode cX1_handOn 91 = .ok (.return_, 1) := by decide +kernel
theorem dX2_init_0 : decode cX2_init 0 = .ok (.aload_n 0, 1) := by decide +kernel
theorem dX2_init_1 : decode cX2_init 1 = .ok (.invokespecial 3, 3) := by decide +kernel
theorem dX2_init_4 : decode cX2_init 4 = .ok (.aload_n 0, 1) := by decide +kernel
theorem dX2_init_5 : decode cX2_init 5 = .ok (.iload_n 1, 1) := by decide +kernel
theorem dX2_init_6 : decode cX2_init 6 = .ok (.putfield 9, 3) := by decide +kernel
theorem dX2_init_9 : decode cX2_init 9 = .ok (.aload_n 0, 1) := by decide +kernel
theorem dX2_init_10 : decode cX2_init 10 = .ok (.bipush 60, 2) := by decide +kernel
theorem dX2_init_12 : decode cX2_init 12 = .ok (.newarray .int, 2) := by decide +kernel
theorem dX2_init_14 : decode cX2_init 14 = .ok (.putfield 15, 3) := by decide +kernel
theorem dX2_init_17 : decode cX2_init 17 = .ok (.aload_n 0, 1) := by decide +kernel
theorem dX2_init_18 : decode cX2_init 18 = .ok (.bipush 60, 2) := by decide +kernel
theorem dX2_init_20 : decode cX2_init 20 = .ok (.newarray .int, 2) := by decide +kernel
theorem dX2_init_22 : decode cX2_init 22 = .ok (.putfield 19, 3) := by decide +kernel
theorem dX2_init_25 : decode cX2_init 25 = .ok (.aload_n 0, 1) := by decide +kernel
theorem dX2_init_26 : decode cX2_init 26 = .ok (.bipush 60, 2) := by decide +kernel
theorem dX2_init_28 : decode cX2_init 28 = .ok (.newarray .int, 2) := by decide +kernel
theorem dX2_init_30 : decode cX2_init 30 = .ok (.putfield 22, 3) := by decide +kernel
theorem dX2_init_33 : decode cX2_init 33 = .ok (.aload_n 0, 1) := by decide +kernel
theorem dX2_init_34 : decode cX2_init 34 = .ok (.bipush 60, 2) := by decide +kernel
theorem dX2_init_36 : decode cX2_init 36 = .ok (.newarray .int, 2) := by decide +kernel
theorem dX2_init_38 : decode cX2_init 38 = .ok (.putfield 25, 3) := by decide +kernel
theorem dX2_init_41 : decode cX2_init 41 = .ok (.aload_n 0, 1) := by decide +kernel
theorem dX2_init_42 : decode cX2_init 42 = .ok (.bipush 60, 2) := by decide +kernel
theorem dX2_init_44 : decode cX2_init 44 = .ok (.newarray .int, 2) := by decide +kernel
theorem dX2_init_46 : decode cX2_init 46 = .ok (.putfield 28, 3) := by decide +kernel
theorem dX2_init_49 : decode cX2_init 49 = .ok (.aload_n 0, 1) := by decide +kernel
theorem dX2_init_50 : decode cX2_init 50 = .ok (.sipush 160, 3) := by decide +kernel
theorem dX2_init_53 : decode cX2_init 53 = .ok (.newarray .int, 2) := by decide +kernel
theorem dX2_init_55 : decode cX2_init 55 = .ok (.putfield 31, 3) := by decide +kernel
theorem dX2_init_58 : decode cX2_init 58 = .ok (.aload_n 0, 1) := by decide +kernel
theorem dX2_init_59 : decode cX2_init 59 = .ok (.sipush 160, 3) := by decide +kernel
theorem dX2_init_62 : decode cX2_init 62 = .ok (.newarray .int, 2) := by decide +kernel
theorem dX2_init_64 : decode cX2_init 64 = .ok (.putfield 34, 3) := by decide +kernel
theorem dX2_init_67 : decode cX2_init 67 = .ok (.aload_n 0, 1) := by decide +kernel
theorem dX2_init_68 : decode cX2_init 68 = .ok (.sipush 160, 3) := by decide +kernel
theorem dX2_init_71 : decode cX2_init 71 = .ok (.newarray .int, 2) := by decide +kernel
theorem dX2_init_73 : decode cX2_init 73 = .ok (.putfield 37, 3) := by decide +kernel
theorem dX2_init_76 : decode cX2_init 76 = .ok (.aload_n 0, 1) := by decide +kernel
theorem dX2_init_77 : decode cX2_init 77 = .ok (.iconst 5, 1) := by decide +kernel
theorem dX2_init_78 : decode cX2_init 78 = .ok (.newarray .int, 2) := by decide +kernel
theorem dX2_init_80 : decode cX2_init 80 = .ok (.putfield 40, 3) := by decide +kernel
theorem dX2_init_83 : decode cX2_init 83 = .ok (.aload_n 0, 1) := by decide +kernel
theorem dX2_init_84 : decode cX2_init 84 = .ok (.iconst 0, 1) := by decide +kernel
theorem dX2_init_85 : decode cX2_init 85 = .ok (.putfield 43, 3) := by decide +kernel
theorem dX2_init_88 : decode cX2_init 88 = .ok (.aload_n 0, 1) := by decide +kernel
theorem dX2_init_89 : decode cX2_init 89 = .ok (.iconst 0, 1) := by decide +kernel
theorem dX2_init_90 : decode cX2_init 90 = .ok (.putfield 47, 3) := by decide +kernel
theorem dX2_init_93 : decode cX2_init 93 = .ok (.aload_n 0, 1) := by decide +kernel
theorem dX2_init_94 : decode cX2_init 94 = .ok (.iconst 0, 1) := by decide +kernel
theorem dX2_init_95 : decode cX2_init 95 = .ok (.putfield 50, 3) := by decide +kernel
theorem dX2_init_98 : decode cX2_init 98 = .ok (.return_, 1) := by decide +kernel
set_option maxRecDepth 20000 in
theorem ggX2_addInsert_X2_addMessage : GoodIn wsX2_addInsert wsX2_addMessage := goodIn_r _ [12, 13, 14, 15, 16, 17, 18, 19, 20, 21, 22, 23, 24, 25, 26, 27, 28, 29] (by decide +kernel) (by decide +kernel)
set_option maxRecDepth 20000 in
theorem gX2_addInsert_X2_addMessage : GoodIn wsX2_addInsert (wsV RX2 53 RX2 yX2_addMessage wsX2_addMessage) := goodIn_app (goodIn_of _ (by decide +kernel)) ggX2_addInsert_X2_addMessage
theorem dX2_addInsert_0 : decode cX2_addInsert 0 = .ok (.aload_n 0, 1) := by decide +kernel
theorem dX2_addInsert_1 : decode cX2_addInsert 1 = .ok (.getfield 43, 3) := by decide +kernel
theorem dX2_addInsert_4 : decode cX2_addInsert 4 = .ok (.istore 5, 2) := by decide +kernel
theorem dX2_addInsert_6 : decode cX2_addInsert 6 = .ok (.iload 5, 2) := by decide +kernel
theorem dX2_addInsert_8 : decode cX2_addInsert 8 = .ok (.ifCond .lt 19, 3) := by decide +kernel
theorem dX2_addInsert_11 : decode cX2_addInsert 11 = .ok (.iload 5, 2) := by decide +kernel
theorem dX2_addInsert_13 : decode cX2_addInsert 13 = .ok (.bipush 60, 2) := by decide +kernel
theorem dX2_addInsert_15 : decode cX2_addInsert 15 = .ok (.if_icmp .ge 12, 3) := by decide +kernel
theorem dX2_addInsert_18 : decode cX2_addInsert 18 = .ok (.iload_n 1, 1) := by decide +kernel
theorem dX2_addInsert_19 : decode cX2_addInsert 19 = .ok (.ifCond .lt 8, 3) := by decide +kernel
theorem dX2_addInsert_22 : decode cX2_addInsert 22 = .ok (.iload_n 1, 1) := by decide +kernel
theorem dX2_addInsert_23 : decode cX2_addInsert 23 = .ok (.iconst 5, 1) := by decide +kernel
theorem dX2_addInsert_24 : decode cX2_addInsert 24 = .ok (.if_icmp .lt 5, 3) := by decide +kernel
theorem dX2_addInsert_27 : decode cX2_addInsert 27 = .ok (.iconst (-1), 1) := by decide +kernel
theorem dX2_addInsert_28 : decode cX2_addInsert 28 = .ok (.ireturn, 1) := by decide +kernel
theorem dX2_addInsert_29 : decode cX2_addInsert 29 = .ok (.aload_n 0, 1) := by decide +kernel
theorem dX2_addInsert_30 : decode cX2_addInsert 30 = .ok (.getfield 15, 3) := by decide +kernel
theorem dX2_addInsert_33 : decode cX2_addInsert 33 = .ok (.iload 5, 2) := by decide +kernel
theorem dX2_addInsert_35 : decode cX2_addInsert 35 = .ok (.iload_n 1, 1) := by decide +kernel
theorem dX2_addInsert_36 : decode cX2_addInsert 36 = .ok (.iastore, 1) := by decide +kernel
theorem dX2_addInsert_37 : decode cX2_addInsert 37 = .ok (.aload_n 0, 1) := by decide +kernel
theorem dX2_addInsert_38 : decode cX2_addInsert 38 = .ok (.getfield 19, 3) := by decide +kernel
theorem dX2_addInsert_41 : decode cX2_addInsert 41 = .ok (.iload 5, 2) := by decide +kernel
theorem dX2_addInsert_43 : decode cX2_addInsert 43 = .ok (.bipush 100, 2) := by decide +kernel
theorem dX2_addInsert_45 : decode cX2_addInsert 45 = .ok (.iload_n 1, 1) := by decide +kernel
theorem dX2_addInsert_46 : decode cX2_addInsert 46 = .ok (.imul, 1) := by decide +kernel
theorem dX2_addInsert_47 : decode cX2_addInsert 47 = .ok (.aload_n 0, 1) := by decide +kernel
theorem dX2_addInsert_48 : decode cX2_addInsert 48 = .ok (.getfield 40, 3) := by decide +kernel
theorem dX2_addInsert_51 : decode cX2_addInsert 51 = .ok (.iload_n 1, 1) := by decide +kernel
theorem dX2_addInsert_52 : decode cX2_addInsert 52 = .ok (.iaload, 1) := by decide +kernel
theorem dX2_addInsert_53 : decode cX2_addInsert 53 = .ok (.iadd, 1) := by decide +kernel
theorem dX2_addInsert_54 : decode cX2_addInsert 54 = .ok (.iastore, 1) := by decide +kernel
theorem dX2_addInsert_55 : decode cX2_addInsert 55 = .ok (.aload_n 0, 1) := by decide +kernel
theorem dX2_addInsert_56 : decode cX2_addInsert 56 = .ok (.getfield 22, 3) := by decide +kernel
theorem dX2_addInsert_59 : decode cX2_addInsert 59 = .ok (.iload 5, 2) := by decide +kernel
theorem dX2_addInsert_61 : decode cX2_addInsert 61 = .ok (.iload 4, 2) := by decide +kernel
theorem dX2_addInsert_63 : decode cX2_addInsert 63 = .ok (.iastore, 1) := by decide +kernel
theorem dX2_addInsert_64 : decode cX2_addInsert 64 = .ok (.aload_n 0, 1) := by decide +kernel
theorem dX2_addInsert_65 : decode cX2_addInsert 65 = .ok (.getfield 25, 3) := by decide +kernel
theorem dX2_addInsert_68 : decode cX2_addInsert 68 = .ok (.iload 5, 2) := by decide +kernel
theorem dX2_addInsert_70 : decode cX2_addInsert 70 = .ok (.iload_n 2, 1) := by decide +kernel
theorem dX2_addInsert_71 : decode cX2_addInsert 71 = .ok (.iastore, 1) := by decide +kernel
theorem dX2_addInsert_72 : decode cX2_addInsert 72 = .ok (.aload_n 0, 1) := by decide +kernel
theorem dX2_addInsert_73 : decode cX2_addInsert 73 = .ok (.getfield 28, 3) := by decide +kernel
theorem dX2_addInsert_76 : decode cX2_addInsert 76 = .ok (.iload 5, 2) := by decide +kernel
theorem dX2_addInsert_78 : decode cX2_addInsert 78 = .ok (.iload_n 3, 1) := by decide +kernel
theorem dX2_addInsert_79 : decode cX2_addInsert 79 = .ok (.iastore, 1) := by decide +kernel
theorem dX2_addInsert_80 : decode cX2_addInsert 80 = .ok (.aload_n 0, 1) := by decide +kernel
theorem dX2_addInsert_81 : decode cX2_addInsert 81 = .ok (.getfield 40, 3) := by decide +kernel
theorem dX2_addInsert_84 : decode cX2_addInsert 84 = .ok (.iload_n 1, 1) := by decide +kernel
theorem dX2_addInsert_85 : decode cX2_addInsert 85 = .ok (.dup2, 1) := by decide +kernel
theorem dX2_addInsert_86 : decode cX2_addInsert 86 = .ok (.iaload, 1) := by decide +kernel
theorem dX2_addInsert_87 : decode cX2_addInsert 87 = .ok (.iconst 1, 1) := by decide +kernel
theorem dX2_addInsert_88 : decode cX2_addInsert 88 = .ok (.iadd, 1) := by decide +kernel
theorem dX2_addInsert_89 : decode cX2_addInsert 89 = .ok (.iastore, 1) := by decide +kernel
theorem dX2_addInsert_90 : decode cX2_addInsert 90 = .ok (.aload_n 0, 1) := by decide +kernel
theorem dX2_addInsert_91 : decode cX2_addInsert 91 = .ok (.dup, 1) := by decide +kernel
theorem dX2_addInsert_92 : decode cX2_addInsert 92 = .ok (.getfield 43, 3) := by decide +kernel
theorem dX2_addInsert_95 : decode cX2_addInsert 95 = .ok (.iconst 1, 1) := by decide +kernel
theorem dX2_addInsert_96 : decode cX2_addInsert 96 = .ok (.iadd, 1) := by decide +kernel
theorem dX2_addInsert_97 : decode cX2_addInsert 97 = .ok (.putfield 43, 3) := by decide +kernel
theorem dX2_addInsert_100 : decode cX2_addInsert 100 = .ok (.aload_n 0, 1) := by decide +kernel
theorem dX2_addInsert_101 : decode cX2_addInsert 101 = .ok (.iconst 0, 1) := by decide +kernel
theorem dX2_addInsert_102 : decode cX2_addInsert 102 = .ok (.iload_n 1, 1) := by decide +kernel
theorem dX2_addInsert_103 : decode cX2_addInsert 103 = .ok (.iload 5, 2) := by decide +kernel
theorem dX2_addInsert_105 : decode cX2_addInsert 105 = .ok (.invokevirtual 53, 3) := by decide +kernel
theorem dX2_addInsert_108 : decode cX2_addInsert 108 = .ok (.ireturn, 1) := by decide +kernel
set_option maxRecDepth 20000 in
theorem ggX2_addErase_X2_addMessage : GoodIn wsX2_addErase wsX2_addMessage := goodIn_r _ [6, 7, 8, 9, 10, 11, 12, 13, 14, 15, 16, 17, 18, 19, 20, 21, 22, 23] (by decide +kernel) (by decide +kernel)
set_option maxRecDepth 20000 in
theorem gX2_addErase_X2_addMessage : GoodIn wsX2_addErase (wsV RX2 53 RX2 yX2_addMessage wsX2_addMessage) := goodIn_app (goodIn_of _ (by decide +kernel)) ggX2_addErase_X2_addMessage
theorem dX2_addErase_0 : decode cX2_addErase 0 = .ok (.aload_n 0, 1) := by decide +kernel
theorem dX2_addErase_1 : decode cX2_addErase 1 = .ok (.getfield 50, 3) := by decide +kernel
theorem dX2_addErase_4 : decode cX2_addErase 4 = .ok (.bipush 100, 2) := by decide +kernel
theorem dX2_addErase_6 : decode cX2_addErase 6 = .ok (.if_icmp .lt 5, 3) := by decide +kernel
theorem dX2_addErase_9 : decode cX2_addErase 9 = .ok (.iconst (-1), 1) := by decide +kernel
theorem dX2_addErase_10 : decode cX2_addErase 10 = .ok (.ireturn, 1) := by decide +kernel
theorem dX2_addErase_11 : decode cX2_addErase 11 = .ok (.aload_n 0, 1) := by decide +kernel
theorem dX2_addErase_12 : decode cX2_addErase 12 = .ok (.dup, 1) := by decide +kernel
theorem dX2_addErase_13 : decode cX2_addErase 13 = .ok (.getfield 50, 3) := by decide +kernel
theorem dX2_addErase_16 : decode cX2_addErase 16 = .ok (.iconst 1, 1) := by decide +kernel
theorem dX2_addErase_17 : decode cX2_addErase 17 = .ok (.iadd, 1) := by decide +kernel
theorem dX2_addErase_18 : decode cX2_addErase 18 = .ok (.putfield 50, 3) := by decide +kernel
theorem dX2_addErase_21 : decode cX2_addErase 21 = .ok (.aload_n 0, 1) := by decide +kernel
theorem dX2_addErase_22 : decode cX2_addErase 22 = .ok (.iconst 1, 1) := by decide +kernel
theorem dX2_addErase_23 : decode cX2_addErase 23 = .ok (.iload_n 1, 1) := by decide +kernel
theorem dX2_addErase_24 : decode cX2_addErase 24 = .ok (.iload_n 2, 1) := by decide +kernel
theorem dX2_addErase_25 : decode cX2_addErase 25 = .ok (.invokevirtual 53, 3) := by decide +kernel
theorem dX2_addErase_28 : decode cX2_addErase 28 = .ok (.ireturn, 1) := by decide +kernel
theorem dX2_addMessage_0 : decode cX2_addMessage 0 = .ok (.aload_n 0, 1) := by decide +kernel
theorem dX2_addMessage_1 : decode cX2_addMessage 1 = .ok (.getfield 47, 3) := by decide +kernel
theorem dX2_addMessage_4 : decode cX2_addMessage 4 = .ok (.istore 4, 2) := by decide +kernel
theorem dX2_addMessage_6 : decode cX2_addMessage 6 = .ok (.iload 4, 2) := by decide +kernel
theorem dX2_addMessage_8 : decode cX2_addMessage 8 = .ok (.ifCond .lt 11, 3) := by decide +kernel
theorem dX2_addMessage_11 : decode cX2_addMessage 11 = .ok (.iload 4, 2) := by decide +kernel
theorem dX2_addMessage_13 : decode cX2_addMessage 13 = .ok (.sipush 160, 3) := by decide +kernel
theorem dX2_addMessage_16 : decode cX2_addMessage 16 = .ok (.if_icmp .lt 5, 3) := by decide +kernel
theorem dX2_addMessage_19 : decode cX2_addMessage 19 = .ok (.iconst (-1), 1) := by decide +kernel
theorem dX2_addMessage_20 : decode cX2_addMessage 20 = .ok (.ireturn, 1) := by decide +kernel
theorem dX2_addMessage_21 : decode cX2_addMessage 21 = .ok (.aload_n 0, 1) := by decide +kernel
theorem dX2_addMessage_22 : decode cX2_addMessage 22 = .ok (.getfield 31, 3) := by decide +kernel
theorem dX2_addMessage_25 : decode cX2_addMessage 25 = .ok (.iload 4, 2) := by decide +kernel
theorem dX2_addMessage_27 : decode cX2_addMessage 27 = .ok (.iload_n 1, 1) := by decide +kernel
theorem dX2_addMessage_28 : decode cX2_addMessage 28 = .ok (.iastore, 1) := by decide +kernel
theorem dX2_addMessage_29 : decode cX2_addMessage 29 = .ok (.aload_n 0, 1) := by decide +kernel
theorem dX2_addMessage_30 : decode cX2_addMessage 30 = .ok (.getfield 34, 3) := by decide +kernel
theorem dX2_addMessage_33 : decode cX2_addMessage 33 = .ok (.iload 4, 2) := by decide +kernel
theorem dX2_addMessage_35 : decode cX2_addMessage 35 = .ok (.iload_n 2, 1) := by decide +kernel
theorem dX2_addMessage_36 : decode cX2_addMessage 36 = .ok (.iastore, 1) := by decide +kernel
theorem dX2_addMessage_37 : decode cX2_addMessage 37 = .ok (.aload_n 0, 1) := by decide +kernel
theorem dX2_addMessage_38 : decode cX2_addMessage 38 = .ok (.getfield 37, 3) := by decide +kernel
theorem dX2_addMessage_41 : decode cX2_addMessage 41 = .ok (.iload 4, 2) := by decide +kernel
theorem dX2_addMessage_43 : decode cX2_addMessage 43 = .ok (.iload_n 3, 1) := by decide +kernel
theorem dX2_addMessage_44 : decode cX2_addMessage 44 = .ok (.iastore, 1) := by decide +kernel
theorem dX2_addMessage_45 : decode cX2_addMessage 45 = .ok (.aload_n 0, 1) := by decide +kernel
theorem dX2_addMessage_46 : decode cX2_addMessage 46 = .ok (.dup, 1) := by decide +kernel
theorem dX2_addMessage_47 : decode cX2_addMessage 47 = .ok (.getfield 47, 3) := by decide +kernel
theorem dX2_addMessage_50 : decode cX2_addMessage 50 = .ok (.iconst 1, 1) := by decide +kernel
theorem dX2_addMessage_51 : decode cX2_addMessage 51 = .ok (.iadd, 1) := by decide +kernel
theorem dX2_addMessage_52 : decode cX2_addMessage 52 = .ok (.putfield 47, 3) := by decide +kernel
theorem dX2_addMessage_55 : decode cX2_addMessage 55 = .ok (.iload 4, 2) := by decide +kernel
theorem dX2_addMessage_57 : decode cX2_addMessage 57 = .ok (.ireturn, 1) := by decide +kernel
theorem dX2_hasMessage_0 : decode cX2_hasMessage 0 = .ok (.iload_n 1, 1) := by decide +kernel
theorem dX2_hasMessage_1 : decode cX2_hasMessage 1 = .ok (.ifCond .lt 22, 3) := by decide +kernel
theorem dX2_hasMessage_4 : decode cX2_hasMessage 4 = .ok (.iload_n 1, 1) := by decide +kernel
theorem dX2_hasMessage_5 : decode cX2_hasMessage 5 = .ok (.aload_n 0, 1) := by decide +kernel
theorem dX2_hasMessage_6 : decode cX2_hasMessage 6 = .ok (.getfield 47, 3) := by decide +kernel
theorem dX2_hasMessage_9 : decode cX2_hasMessage 9 = .ok (.if_icmp .ge 14, 3) := by decide +kernel
theorem dX2_hasMessage_12 : decode cX2_hasMessage 12 = .ok (.iload_n 1, 1) := by decide +kernel
theorem dX2_hasMessage_13 : decode cX2_hasMessage 13 = .ok (.sipush 160, 3) := by decide +kernel
theorem dX2_hasMessage_16 : decode cX2_hasMessage 16 = .ok (.if_icmp .ge 7, 3) := by decide +kernel
