set_option maxRecDepth 20000 in
theorem gX3_character_X2_markOf : GoodIn wsX3_character (wsV RX3 128 RX2 yX2_markOf wsX2_markOf) := goodIn_app (goodIn_of _ (by decide +kernel)) ggX3_character_X2_markOf
set_option maxRecDepth 20000 in
theorem ggX3_character_X2_letterOf : GoodIn wsX3_character wsX2_letterOf := goodIn_r _ [30, 31, 22, 23, 24, 19, 25, 26, 71, 72, 73, 74, 75, 76, 77, 78, 79, 80, 81, 82, 83] (by decide +kernel) (by decide +kernel)
set_option maxRecDepth 20000 in
theorem gX3_character_X2_letterOf : GoodIn wsX3_character (wsV RX3 137 RX2 yX2_letterOf wsX2_letterOf) := goodIn_app (goodIn_of _ (by decide +kernel)) ggX3_character_X2_letterOf
set_option maxRecDepth 20000 in
theorem ggX3_character_X0_isSeen : GoodIn wsX3_character wsX0_isSeen := goodIn_r _ [35, 36, 37, 52, 53, 54, 55, 56, 57, 58, 59, 60, 61, 62, 63] (by decide +kernel) (by decide +kernel)
set_option maxRecDepth 20000 in
theorem gX3_character_X0_isSeen : GoodIn wsX3_character (wsV RX3 143 RX0 yX0_isSeen wsX0_isSeen) := goodIn_app (goodIn_of _ (by decide +kernel)) ggX3_character_X0_isSeen
set_option maxRecDepth 20000 in
theorem ggX3_character_X2_leftOf : GoodIn wsX3_character wsX2_leftOf := goodIn_r _ [41, 42, 22, 23, 24, 19, 25, 26, 71, 72, 73, 74, 75, 76, 77, 78, 79, 80, 81, 82, 83] (by decide +kernel) (by decide +kernel)
set_option maxRecDepth 20000 in
theorem gX3_character_X2_leftOf : GoodIn wsX3_character (wsV RX3 131 RX2 yX2_leftOf wsX2_leftOf) := goodIn_app (goodIn_of _ (by decide +kernel)) ggX3_character_X2_leftOf
set_option maxRecDepth 20000 in
theorem ggX3_character_X0_placeOf : GoodIn wsX3_character wsX0_placeOf := goodIn_r _ [46, 36, 14, 52, 53, 54, 55, 56, 57, 58, 59, 60, 61, 62, 63] (by decide +kernel) (by decide +kernel)
set_option maxRecDepth 20000 in
theorem gX3_character_X0_placeOf : GoodIn wsX3_character (wsV RX3 146 RX0 yX0_placeOf wsX0_placeOf) := goodIn_app (goodIn_of _ (by decide +kernel)) ggX3_character_X0_placeOf
set_option maxRecDepth 20000 in
theorem ggX3_character_X2_rightOf : GoodIn wsX3_character wsX2_rightOf := goodIn_r _ [50, 51, 22, 23, 24, 19, 25, 26, 71, 72, 73, 74, 75, 76, 77, 78, 79, 80, 81, 82, 83] (by decide +kernel) (by decide +kernel)
set_option maxRecDepth 20000 in
theorem gX3_character_X2_rightOf : GoodIn wsX3_character (wsV RX3 134 RX2 yX2_rightOf wsX2_rightOf) := goodIn_app (goodIn_of _ (by decide +kernel)) ggX3_character_X2_rightOf
theorem dX3_character_0 : decode cX3_character 0 = .ok (.aload_n 0, 1) := by decide +kernel
theorem dX3_character_1 : decode cX3_character 1 = .ok (.iload_n 1, 1) := by decide +kernel
theorem dX3_character_2 : decode cX3_character 2 = .ok (.iload_n 2, 1) := by decide +kernel
theorem dX3_character_3 : decode cX3_character 3 = .ok (.invokevirtual 48, 3) := by decide +kernel
theorem dX3_character_6 : decode cX3_character 6 = .ok (.astore 5, 2) := by decide +kernel
theorem dX3_character_8 : decode cX3_character 8 = .ok (.aload 5, 2) := by decide +kernel
theorem dX3_character_10 : decode cX3_character 10 = .ok (.ifnull 16, 3) := by decide +kernel
theorem dX3_character_13 : decode cX3_character 13 = .ok (.iload_n 3, 1) := by decide +kernel
theorem dX3_character_14 : decode cX3_character 14 = .ok (.ifCond .lt 12, 3) := by decide +kernel
theorem dX3_character_17 : decode cX3_character 17 = .ok (.iload_n 3, 1) := by decide +kernel
theorem dX3_character_18 : decode cX3_character 18 = .ok (.aload 5, 2) := by decide +kernel
theorem dX3_character_20 : decode cX3_character 20 = .ok (.getfield 103, 3) := by decide +kernel
theorem dX3_character_23 : decode cX3_character 23 = .ok (.if_icmp .lt 5, 3) := by decide +kernel
theorem dX3_character_26 : decode cX3_character 26 = .ok (.iconst (-1), 1) := by decide +kernel
theorem dX3_character_27 : decode cX3_character 27 = .ok (.ireturn, 1) := by decide +kernel
theorem dX3_character_28 : decode cX3_character 28 = .ok (.aload 5, 2) := by decide +kernel
theorem dX3_character_30 : decode cX3_character 30 = .ok (.iload_n 3, 1) := by decide +kernel
theorem dX3_character_31 : decode cX3_character 31 = .ok (.invokevirtual 140, 3) := by decide +kernel
theorem dX3_character_34 : decode cX3_character 34 = .ok (.istore 6, 2) := by decide +kernel
theorem dX3_character_36 : decode cX3_character 36 = .ok (.iload 4, 2) := by decide +kernel
theorem dX3_character_38 : decode cX3_character 38 = .ok (.tableswitch 104 0 4 #[34, 45, 56, 72, 88], 34) := by decide +kernel
theorem dX3_character_72 : decode cX3_character 72 = .ok (.aload 5, 2) := by decide +kernel
theorem dX3_character_74 : decode cX3_character 74 = .ok (.getfield 62, 3) := by decide +kernel
theorem dX3_character_77 : decode cX3_character 77 = .ok (.iload 6, 2) := by decide +kernel
theorem dX3_character_79 : decode cX3_character 79 = .ok (.invokevirtual 128, 3) := by decide +kernel
theorem dX3_character_82 : decode cX3_character 82 = .ok (.ireturn, 1) := by decide +kernel
theorem dX3_character_83 : decode cX3_character 83 = .ok (.aload 5, 2) := by decide +kernel
theorem dX3_character_85 : decode cX3_character 85 = .ok (.getfield 62, 3) := by decide +kernel
theorem dX3_character_88 : decode cX3_character 88 = .ok (.iload 6, 2) := by decide +kernel
theorem dX3_character_90 : decode cX3_character 90 = .ok (.invokevirtual 137, 3) := by decide +kernel
theorem dX3_character_93 : decode cX3_character 93 = .ok (.ireturn, 1) := by decide +kernel
theorem dX3_character_94 : decode cX3_character 94 = .ok (.aload 5, 2) := by decide +kernel
theorem dX3_character_96 : decode cX3_character 96 = .ok (.iload 6, 2) := by decide +kernel
theorem dX3_character_98 : decode cX3_character 98 = .ok (.invokevirtual 143, 3) := by decide +kernel
theorem dX3_character_101 : decode cX3_character 101 = .ok (.ifCond .eq 7, 3) := by decide +kernel
theorem dX3_character_104 : decode cX3_character 104 = .ok (.iconst 1, 1) := by decide +kernel
theorem dX3_character_105 : decode cX3_character 105 = .ok (.goto 4, 3) := by decide +kernel
theorem dX3_character_108 : decode cX3_character 108 = .ok (.iconst 0, 1) := by decide +kernel
theorem dX3_character_109 : decode cX3_character 109 = .ok (.ireturn, 1) := by decide +kernel
theorem dX3_character_110 : decode cX3_character 110 = .ok (.aload 5, 2) := by decide +kernel
theorem dX3_character_112 : decode cX3_character 112 = .ok (.aload 5, 2) := by decide +kernel
theorem dX3_character_114 : decode cX3_character 114 = .ok (.getfield 62, 3) := by decide +kernel
theorem dX3_character_117 : decode cX3_character 117 = .ok (.iload 6, 2) := by decide +kernel
theorem dX3_character_119 : decode cX3_character 119 = .ok (.invokevirtual 131, 3) := by decide +kernel
theorem dX3_character_122 : decode cX3_character 122 = .ok (.invokevirtual 146, 3) := by decide +kernel
theorem dX3_character_125 : decode cX3_character 125 = .ok (.ireturn, 1) := by decide +kernel
theorem dX3_character_126 : decode cX3_character 126 = .ok (.aload 5, 2) := by decide +kernel
theorem dX3_character_128 : decode cX3_character 128 = .ok (.aload 5, 2) := by decide +kernel
theorem dX3_character_130 : decode cX3_character 130 = .ok (.getfield 62, 3) := by decide +kernel
theorem dX3_character_133 : decode cX3_character 133 = .ok (.iload 6, 2) := by decide +kernel
theorem dX3_character_135 : decode cX3_character 135 = .ok (.invokevirtual 134, 3) := by decide +kernel
theorem dX3_character_138 : decode cX3_character 138 = .ok (.invokevirtual 146, 3) := by decide +kernel
theorem dX3_character_141 : decode cX3_character 141 = .ok (.ireturn, 1) := by decide +kernel
theorem dX3_character_142 : decode cX3_character 142 = .ok (.iconst (-1), 1) := by decide +kernel
theorem dX3_character_143 : decode cX3_character 143 = .ok (.ireturn, 1) := by decide +kernel
set_option maxRecDepth 20000 in
theorem ggX3_write_X3_copyAt : GoodIn wsX3_write wsX3_copyAt := goodIn_r _ [9, 10, 47, 48, 49, 50, 51, 52, 53] (by decide +kernel) (by decide +kernel)
set_option maxRecDepth 20000 in
theorem gX3_write_X3_copyAt : GoodIn wsX3_write (wsV RX3 48 RX3 yX3_copyAt wsX3_copyAt) := goodIn_app (goodIn_of _ (by decide +kernel)) ggX3_write_X3_copyAt
set_option maxRecDepth 20000 in
theorem ggX3_write_X0_characterAt : GoodIn wsX3_write wsX0_characterAt := goodIn_r _ [15, 16, 17, 35, 36, 37, 38, 39, 40, 41, 42, 43, 44, 45, 46] (by decide +kernel) (by decide +kernel)
set_option maxRecDepth 20000 in
theorem gX3_write_X0_characterAt : GoodIn wsX3_write (wsV RX3 140 RX0 yX0_characterAt wsX0_characterAt) := goodIn_app (goodIn_of _ (by decide +kernel)) ggX3_write_X0_characterAt
set_option maxRecDepth 20000 in
theorem ggX3_write_X0_isSeen : GoodIn wsX3_write wsX0_isSeen := goodIn_r _ [21, 22, 23, 35, 36, 37, 38, 39, 40, 41, 42, 43, 44, 45, 46] (by decide +kernel) (by decide +kernel)
set_option maxRecDepth 20000 in
theorem gX3_write_X0_isSeen : GoodIn wsX3_write (wsV RX3 143 RX0 yX0_isSeen wsX0_isSeen) := goodIn_app (goodIn_of _ (by decide +kernel)) ggX3_write_X0_isSeen
set_option maxRecDepth 20000 in
theorem ggX3_write_X2_letterOf : GoodIn wsX3_write wsX2_letterOf := goodIn_r _ [28, 29, 30, 31, 32, 27, 33, 34, 54, 55, 56, 57, 58, 59, 60, 61, 62, 63, 64, 65, 66] (by decide +kernel) (by decide +kernel)
set_option maxRecDepth 20000 in
theorem gX3_write_X2_letterOf : GoodIn wsX3_write (wsV RX3 137 RX2 yX2_letterOf wsX2_letterOf) := goodIn_app (goodIn_of _ (by decide +kernel)) ggX3_write_X2_letterOf
theorem dX3_write_0 : decode cX3_write 0 = .ok (.aload_n 0, 1) := by decide +kernel
theorem dX3_write_1 : decode cX3_write 1 = .ok (.iload_n 1, 1) := by decide +kernel
theorem dX3_write_2 : decode cX3_write 2 = .ok (.iload_n 2, 1) := by decide +kernel
theorem dX3_write_3 : decode cX3_write 3 = .ok (.invokevirtual 48, 3) := by decide +kernel
theorem dX3_write_6 : decode cX3_write 6 = .ok (.astore_n 3, 1) := by decide +kernel
theorem dX3_write_7 : decode cX3_write 7 = .ok (.aload_n 3, 1) := by decide +kernel
theorem dX3_write_8 : decode cX3_write 8 = .ok (.ifnonnull 5, 3) := by decide +kernel
theorem dX3_write_11 : decode cX3_write 11 = .ok (.iconst (-1), 1) := by decide +kernel
theorem dX3_write_12 : decode cX3_write 12 = .ok (.ireturn, 1) := by decide +kernel
theorem dX3_write_13 : decode cX3_write 13 = .ok (.iconst 0, 1) := by decide +kernel
theorem dX3_write_14 : decode cX3_write 14 = .ok (.istore 4, 2) := by decide +kernel
theorem dX3_write_16 : decode cX3_write 16 = .ok (.iconst 0, 1) := by decide +kernel
theorem dX3_write_17 : decode cX3_write 17 = .ok (.istore 5, 2) := by decide +kernel
theorem dX3_write_19 : decode cX3_write 19 = .ok (.iload 5, 2) := by decide +kernel
theorem dX3_write_21 : decode cX3_write 21 = .ok (.aload_n 3, 1) := by decide +kernel
theorem dX3_write_22 : decode cX3_write 22 = .ok (.getfield 103, 3) := by decide +kernel
theorem dX3_write_25 : decode cX3_write 25 = .ok (.if_icmp .ge 55, 3) := by decide +kernel
theorem dX3_write_28 : decode cX3_write 28 = .ok (.aload_n 3, 1) := by decide +kernel
theorem dX3_write_29 : decode cX3_write 29 = .ok (.iload 5, 2) := by decide +kernel
theorem dX3_write_31 : decode cX3_write 31 = .ok (.invokevirtual 140, 3) := by decide +kernel
theorem dX3_write_34 : decode cX3_write 34 = .ok (.istore 6, 2) := by decide +kernel
theorem dX3_write_36 : decode cX3_write 36 = .ok (.aload_n 3, 1) := by decide +kernel
theorem dX3_write_37 : decode cX3_write 37 = .ok (.iload 6, 2) := by decide +kernel
theorem dX3_write_39 : decode cX3_write 39 = .ok (.invokevirtual 143, 3) := by decide +kernel
theorem dX3_write_42 : decode cX3_write 42 = .ok (.ifCond .eq 32, 3) := by decide +kernel
theorem dX3_write_45 : decode cX3_write 45 = .ok (.iload 4, 2) := by decide +kernel
theorem dX3_write_47 : decode cX3_write 47 = .ok (.aload_n 0, 1) := by decide +kernel
theorem dX3_write_48 : decode cX3_write 48 = .ok (.getfield 41, 3) := by decide +kernel
theorem dX3_write_51 : decode cX3_write 51 = .ok (.arraylength, 1) := by decide +kernel
theorem dX3_write_52 : decode cX3_write 52 = .ok (.if_icmp .ge 22, 3) := by decide +kernel
theorem dX3_write_55 : decode cX3_write 55 = .ok (.aload_n 0, 1) := by decide +kernel
theorem dX3_write_56 : decode cX3_write 56 = .ok (.getfield 41, 3) := by decide +kernel
theorem dX3_write_59 : decode cX3_write 59 = .ok (.iload 4, 2) := by decide +kernel
theorem dX3_write_61 : decode cX3_write 61 = .ok (.aload_n 3, 1) := by decide +kernel
theorem dX3_write_62 : decode cX3_write 62 = .ok (.getfield 62, 3) := by decide +kernel
theorem dX3_write_65 : decode cX3_write 65 = .ok (.iload 6, 2) := by decide +kernel
theorem dX3_write_67 : decode cX3_write 67 = .ok (.invokevirtual 137, 3) := by decide +kernel
theorem dX3_write_70 : decode cX3_write 70 = .ok (.iastore, 1) := by decide +kernel
theorem dX3_write_71 : decode cX3_write 71 = .ok (.iinc 4 1, 3) := by decide +kernel
theorem dX3_write_74 : decode cX3_write 74 = .ok (.iinc 5 1, 3) := by decide +kernel
theorem dX3_write_77 : decode cX3_write 77 = .ok (.goto (-58), 3) := by decide +kernel
theorem dX3_write_80 : decode cX3_write 80 = .ok (.aload_n 0, 1) := by decide +kernel
theorem dX3_write_81 : decode cX3_write 81 = .ok (.iload 4, 2) := by decide +kernel
theorem dX3_write_83 : decode cX3_write 83 = .ok (.putfield 44, 3) := by decide +kernel
theorem dX3_write_86 : decode cX3_write 86 = .ok (.iload 4, 2) := by decide +kernel
theorem dX3_write_88 : decode cX3_write 88 = .ok (.ireturn, 1) := by decide +kernel
theorem dX3_out_0 : decode cX3_out 0 = .ok (.iload_n 1, 1) := by decide +kernel
theorem dX3_out_1 : decode cX3_out 1 = .ok (.ifCond .lt 20, 3) := by decide +kernel
theorem dX3_out_4 : decode cX3_out 4 = .ok (.iload_n 1, 1) := by decide +kernel
theorem dX3_out_5 : decode cX3_out 5 = .ok (.aload_n 0, 1) := by decide +kernel
theorem dX3_out_6 : decode cX3_out 6 = .ok (.getfield 44, 3) := by decide +kernel
theorem dX3_out_9 : decode cX3_out 9 = .ok (.if_icmp .ge 12, 3) := by decide +kernel
theorem dX3_out_12 : decode cX3_out 12 = .ok (.iload_n 1, 1) := by decide +kernel
theorem dX3_out_13 : decode cX3_out 13 = .ok (.aload_n 0, 1) := by decide +kernel
theorem dX3_out_14 : decode cX3_out 14 = .ok (.getfield 41, 3) := by decide +kernel
theorem dX3_out_17 : decode cX3_out 17 = .ok (.arraylength, 1) := by decide +kernel
theorem dX3_out_18 : decode cX3_out 18 = .ok (.if_icmp .lt 5, 3) := by decide +kernel
theorem dX3_out_21 : decode cX3_out 21 = .ok (.iconst (-1), 1) := by decide +kernel
theorem dX3_out_22 : decode cX3_out 22 = .ok (.ireturn, 1) := by decide +kernel
theorem dX3_out_23 : decode cX3_out 23 = .ok (.aload_n 0, 1) := by decide +kernel
theorem dX3_out_24 : decode cX3_out 24 = .ok (.getfield 41, 3) := by decide +kernel
theorem dX3_out_27 : decode cX3_out 27 = .ok (.iload_n 1, 1) := by decide +kernel
theorem dX3_out_28 : decode cX3_out 28 = .ok (.iaload, 1) := by decide +kernel
theorem dX3_out_29 : decode cX3_out 29 = .ok (.ireturn, 1) := by decide +kernel
set_option maxRecDepth 20000 in
theorem ggX3_same_X3_copyAt : GoodIn wsX3_same wsX3_copyAt := goodIn_r _ [5, 6, 24, 25, 26, 27, 28, 29, 30] (by decide +kernel) (by decide +kernel)
set_option maxRecDepth 20000 in
theorem gX3_same_X3_copyAt : GoodIn wsX3_same (wsV RX3 48 RX3 yX3_copyAt wsX3_copyAt) := goodIn_app (goodIn_of _ (by decide +kernel)) ggX3_same_X3_copyAt
set_option maxRecDepth 20000 in
theorem ggX3_same_X0_isLike : GoodIn wsX3_same wsX0_isLike := goodIn_r _ [11, 12, 13, 14, 15, 10, 16, 17, 18, 19, 20, 21, 22, 23, 31, 32, 33, 34, 35, 36, 37, 38, 39, 40, 41, 42] (by decide +kernel) (by decide +kernel)
set_option maxRecDepth 20000 in
theorem gX3_same_X0_isLike : GoodIn wsX3_same (wsV RX3 149 RX0 yX0_isLike wsX0_isLike) := goodIn_app (goodIn_of _ (by decide +kernel)) ggX3_same_X0_isLike
theorem dX3_same_0 : decode cX3_same 0 = .ok (.aload_n 0, 1) := by decide +kernel
theorem dX3_same_1 : decode cX3_same 1 = .ok (.iload_n 1, 1) := by decide +kernel
theorem dX3_same_2 : decode cX3_same 2 = .ok (.iload_n 2, 1) := by decide +kernel
theorem dX3_same_3 : decode cX3_same 3 = .ok (.invokevirtual 48, 3) := by decide +kernel
theorem dX3_same_6 : decode cX3_same 6 = .ok (.astore 4, 2) := by decide +kernel
theorem dX3_same_8 : decode cX3_same 8 = .ok (.aload_n 0, 1) := by decide +kernel
theorem dX3_same_9 : decode cX3_same 9 = .ok (.iload_n 1, 1) := by decide +kernel
theorem dX3_same_10 : decode cX3_same 10 = .ok (.iload_n 3, 1) := by decide +kernel
theorem dX3_same_11 : decode cX3_same 11 = .ok (.invokevirtual 48, 3) := by decide +kernel
theorem dX3_same_14 : decode cX3_same 14 = .ok (.astore 5, 2) := by decide +kernel
theorem dX3_same_16 : decode cX3_same 16 = .ok (.aload 4, 2) := by decide +kernel
theorem dX3_same_18 : decode cX3_same 18 = .ok (.ifnull 22, 3) := by decide +kernel
theorem dX3_same_21 : decode cX3_same 21 = .ok (.aload 5, 2) := by decide +kernel
theorem dX3_same_23 : decode cX3_same 23 = .ok (.ifnull 17, 3) := by decide +kernel
theorem dX3_same_26 : decode cX3_same 26 = .ok (.aload 4, 2) := by decide +kernel
theorem dX3_same_28 : decode cX3_same 28 = .ok (.aload 5, 2) := by decide +kernel
theorem dX3_same_30 : decode cX3_same 30 = .ok (.invokevirtual 149, 3) := by decide +kernel
theorem dX3_same_33 : decode cX3_same 33 = .ok (.ifCond .eq 7, 3) := by decide +kernel
theorem dX3_same_36 : decode cX3_same 36 = .ok (.iconst 1, 1) := by decide +kernel
theorem dX3_same_37 : decode cX3_same 37 = .ok (.goto 4, 3) := by decide +kernel
theorem dX3_same_40 : decode cX3_same 40 = .ok (.iconst 0, 1) := by decide +kernel
theorem dX3_same_41 : decode cX3_same 41 = .ok (.ireturn, 1) := by decide +kernel
set_option maxRecDepth 20000 in
theorem ggX3_shuffle_X3_copyAt : GoodIn wsX3_shuffle wsX3_copyAt := goodIn_r _ [7, 8, 163, 164, 165, 166, 167, 168, 169] (by decide +kernel) (by decide +kernel)
set_option maxRecDepth 20000 in
theorem gX3_shuffle_X3_copyAt : GoodIn wsX3_shuffle (wsV RX3 48 RX3 yX3_copyAt wsX3_copyAt) := goodIn_app (goodIn_of _ (by decide +kernel)) ggX3_shuffle_X3_copyAt
set_option maxRecDepth 20000 in
theorem ggX3_shuffle_X3_spareOf : GoodIn wsX3_shuffle wsX3_spareOf := goodIn_r _ [12, 13, 163, 164, 165, 166, 167, 168, 169] (by decide +kernel) (by decide +kernel)
set_option maxRecDepth 20000 in
theorem gX3_shuffle_X3_spareOf : GoodIn wsX3_shuffle (wsV RX3 153 RX3 yX3_spareOf wsX3_spareOf) := goodIn_app (goodIn_of _ (by decide +kernel)) ggX3_shuffle_X3_spareOf
set_option maxRecDepth 20000 in
theorem ggX3_shuffle_X0_makeEmpty : GoodIn wsX3_shuffle wsX0_makeEmpty := goodIn_r _ [18, 19, 20, 21, 22, 23, 24, 25, 26, 27, 28, 151, 152, 153, 154, 155, 156, 157, 158, 159, 160, 161, 162] (by decide +kernel) (by decide +kernel)
set_option maxRecDepth 20000 in
theorem gX3_shuffle_X0_makeEmpty : GoodIn wsX3_shuffle (wsV RX3 157 RX0 yX0_makeEmpty wsX0_makeEmpty) := goodIn_app (goodIn_of _ (by decide +kernel)) ggX3_shuffle_X0_makeEmpty
set_option maxRecDepth 20000 in
theorem ggX3_shuffle_X3_listDone : GoodIn wsX3_shuffle wsX3_listDone := goodIn_r _ [32, 33, 34, 35, 36, 37, 38, 17, 39, 21, 151, 152, 153, 154, 155, 156, 157, 158, 159, 160, 161, 162, 170, 171, 172, 173, 174, 175, 176, 177, 178, 179, 180, 181, 182, 163, 164, 165, 166, 167, 168, 169] (by decide +kernel) (by decide +kernel)
set_option maxRecDepth 20000 in
theorem gX3_shuffle_X3_listDone : GoodIn wsX3_shuffle (wsV RX3 160 RX3 yX3_listDone wsX3_listDone) := goodIn_app (goodIn_of _ (by decide +kernel)) ggX3_shuffle_X3_listDone
set_option maxRecDepth 20000 in
theorem ggX3_shuffle_X3_takeDrawn : GoodIn wsX3_shuffle wsX3_takeDrawn := goodIn_r _ [43, 35, 163, 164, 165, 166, 167, 168, 169] (by decide +kernel) (by decide +kernel)
set_option maxRecDepth 20000 in
theorem gX3_shuffle_X3_takeDrawn : GoodIn wsX3_shuffle (wsV RX3 165 RX3 yX3_takeDrawn wsX3_takeDrawn) := goodIn_app (goodIn_of _ (by decide +kernel)) ggX3_shuffle_X3_takeDrawn
set_option maxRecDepth 20000 in
theorem ggX3_shuffle_X0_hear : GoodIn wsX3_shuffle wsX0_hear := goodIn_r _ [47, 48, 25, 49, 50, 51, 52, 53, 54, 55, 37, 38, 17, 39, 21, 56, 57, 58, 59, 60, 61, 62, 63, 64, 65, 66, 67, 68, 69, 70, 71, 72, 73, 74, 19, 22, 75, 76, 77, 78, 79, 80, 81, 82, 83, 84, 85, 86, 87, 88, 89, 90, 91, 92, 93, 94, 95, 96, 97, 24, 98, 99, 100, 101, 102, 20, 23, 103, 104, 105, 106, 107, 108, 109, 110, 27, 111, 112, 113, 114, 115, 116, 117, 118, 119, 120, 121, 122, 123, 124, 125, 126, 127, 128, 129, 130, 131, 132, 133, 134, 135, 136, 137, 28, 138, 139, 140, 141, 142, 143, 144, 145, 146, 151, 152, 153, 154, 155, 156, 157, 158, 159, 160, 161, 162, 170, 171, 172, 173, 174, 175, 176, 177, 178, 179, 180, 181, 182] (by decide +kernel) (by decide +kernel)
set_option maxRecDepth 20000 in
theorem gX3_shuffle_X0_hear : GoodIn wsX3_shuffle (wsV RX3 88 RX0 yX0_hear wsX0_hear) := goodIn_app (goodIn_of _ (by decide +kernel)) ggX3_shuffle_X0_hear
set_option maxRecDepth 20000 in
theorem ggX3_shuffle_X0_isLike : GoodIn wsX3_shuffle wsX0_isLike := goodIn_r _ [150, 22, 116, 117, 118, 17, 119, 120, 103, 104, 105, 106, 19, 20, 151, 152, 153, 154, 155, 156, 157, 158, 159, 160, 161, 162] (by decide +kernel) (by decide +kernel)
set_option maxRecDepth 20000 in
theorem gX3_shuffle_X0_isLike : GoodIn wsX3_shuffle (wsV RX3 149 RX0 yX0_isLike wsX0_isLike) := goodIn_app (goodIn_of _ (by decide +kernel)) ggX3_shuffle_X0_isLike
theorem dX3_shuffle_0 : decode cX3_shuffle 0 = .ok (.aload_n 0, 1) := by decide +kernel
theorem dX3_shuffle_1 : decode cX3_shuffle 1 = .ok (.iload_n 1, 1) := by decide +kernel
theorem dX3_shuffle_2 : decode cX3_shuffle 2 = .ok (.iload_n 2, 1) := by decide +kernel
theorem dX3_shuffle_3 : decode cX3_shuffle 3 = .ok (.invokevirtual 48, 3) := by decide +kernel
theorem dX3_shuffle_6 : decode cX3_shuffle 6 = .ok (.astore 4, 2) := by decide +kernel
theorem dX3_shuffle_8 : decode cX3_shuffle 8 = .ok (.aload_n 0, 1) := by decide +kernel
theorem dX3_shuffle_9 : decode cX3_shuffle 9 = .ok (.iload_n 1, 1) := by decide +kernel
theorem dX3_shuffle_10 : decode cX3_shuffle 10 = .ok (.invokevirtual 153, 3) := by decide +kernel
theorem dX3_shuffle_13 : decode cX3_shuffle 13 = .ok (.astore 5, 2) := by decide +kernel
theorem dX3_shuffle_15 : decode cX3_shuffle 15 = .ok (.aload 4, 2) := by decide +kernel
theorem dX3_shuffle_17 : decode cX3_shuffle 17 = .ok (.ifnull 8, 3) := by decide +kernel
theorem dX3_shuffle_20 : decode cX3_shuffle 20 = .ok (.aload 5, 2) := by decide +kernel
theorem dX3_shuffle_22 : decode cX3_shuffle 22 = .ok (.ifnonnull 5, 3) := by decide +kernel
theorem dX3_shuffle_25 : decode cX3_shuffle 25 = .ok (.iconst 0, 1) := by decide +kernel
theorem dX3_shuffle_26 : decode cX3_shuffle 26 = .ok (.ireturn, 1) := by decide +kernel
theorem dX3_shuffle_27 : decode cX3_shuffle 27 = .ok (.aload 5, 2) := by decide +kernel
theorem dX3_shuffle_29 : decode cX3_shuffle 29 = .ok (.invokevirtual 157, 3) := by decide +kernel
theorem dX3_shuffle_32 : decode cX3_shuffle 32 = .ok (.iload_n 3, 1) := by decide +kernel
theorem dX3_shuffle_33 : decode cX3_shuffle 33 = .ok (.istore 6, 2) := by decide +kernel
theorem dX3_shuffle_35 : decode cX3_shuffle 35 = .ok (.aload_n 0, 1) := by decide +kernel
theorem dX3_shuffle_36 : decode cX3_shuffle 36 = .ok (.aload 4, 2) := by decide +kernel
theorem dX3_shuffle_38 : decode cX3_shuffle 38 = .ok (.invokevirtual 160, 3) := by decide +kernel
theorem dX3_shuffle_41 : decode cX3_shuffle 41 = .ok (.istore 7, 2) := by decide +kernel
theorem dX3_shuffle_43 : decode cX3_shuffle 43 = .ok (.iload 7, 2) := by decide +kernel
theorem dX3_shuffle_45 : decode cX3_shuffle 45 = .ok (.ifCond .le 44, 3) := by decide +kernel
theorem dX3_shuffle_48 : decode cX3_shuffle 48 = .ok (.iload 6, 2) := by decide +kernel
theorem dX3_shuffle_50 : decode cX3_shuffle 50 = .ok (.ldc 164, 2) := by decide +kernel
theorem dX3_shuffle_52 : decode cX3_shuffle 52 = .ok (.imul, 1) := by decide +kernel
theorem dX3_shuffle_53 : decode cX3_shuffle 53 = .ok (.sipush 12345, 3) := by decide +kernel
theorem dX3_shuffle_56 : decode cX3_shuffle 56 = .ok (.iadd, 1) := by decide +kernel
theorem dX3_shuffle_57 : decode cX3_shuffle 57 = .ok (.istore 6, 2) := by decide +kernel
theorem dX3_shuffle_59 : decode cX3_shuffle 59 = .ok (.aload_n 0, 1) := by decide +kernel
theorem dX3_shuffle_60 : decode cX3_shuffle 60 = .ok (.iload 6, 2) := by decide +kernel
theorem dX3_shuffle_62 : decode cX3_shuffle 62 = .ok (.bipush 16, 2) := by decide +kernel
theorem dX3_shuffle_64 : decode cX3_shuffle 64 = .ok (.iushr, 1) := by decide +kernel
theorem dX3_shuffle_65 : decode cX3_shuffle 65 = .ok (.iload 7, 2) := by decide +kernel
theorem dX3_shuffle_67 : decode cX3_shuffle 67 = .ok (.irem, 1) := by decide +kernel
theorem dX3_shuffle_68 : decode cX3_shuffle 68 = .ok (.iload 7, 2) := by decide +kernel
theorem dX3_shuffle_70 : decode cX3_shuffle 70 = .ok (.invokevirtual 165, 3) := by decide +kernel
theorem dX3_shuffle_73 : decode cX3_shuffle 73 = .ok (.istore 8, 2) := by decide +kernel
theorem dX3_shuffle_75 : decode cX3_shuffle 75 = .ok (.aload 5, 2) := by decide +kernel
theorem dX3_shuffle_77 : decode cX3_shuffle 77 = .ok (.iload 8, 2) := by decide +kernel
theorem dX3_shuffle_79 : decode cX3_shuffle 79 = .ok (.invokevirtual 88, 3) := by decide +kernel
theorem dX3_shuffle_82 : decode cX3_shuffle 82 = .ok (.pop, 1) := by decide +kernel
theorem dX3_shuffle_83 : decode cX3_shuffle 83 = .ok (.iinc 7 (-1), 3) := by decide +kernel
theorem dX3_shuffle_86 : decode cX3_shuffle 86 = .ok (.goto (-43), 3) := by decide +kernel
theorem dX3_shuffle_89 : decode cX3_shuffle 89 = .ok (.aload 5, 2) := by decide +kernel
theorem dX3_shuffle_91 : decode cX3_shuffle 91 = .ok (.getfield 109, 3) := by decide +kernel
theorem dX3_shuffle_94 : decode cX3_shuffle 94 = .ok (.ifCond .ne 17, 3) := by decide +kernel
theorem dX3_shuffle_97 : decode cX3_shuffle 97 = .ok (.aload 5, 2) := by decide +kernel
theorem dX3_shuffle_99 : decode cX3_shuffle 99 = .ok (.aload 4, 2) := by decide +kernel
theorem dX3_shuffle_101 : decode cX3_shuffle 101 = .ok (.invokevirtual 149, 3) := by decide +kernel
theorem dX3_shuffle_104 : decode cX3_shuffle 104 = .ok (.ifCond .eq 7, 3) := by decide +kernel
theorem dX3_shuffle_107 : decode cX3_shuffle 107 = .ok (.iconst 1, 1) := by decide +kernel
theorem dX3_shuffle_108 : decode cX3_shuffle 108 = .ok (.goto 4, 3) := by decide +kernel
theorem dX3_shuffle_111 : decode cX3_shuffle 111 = .ok (.iconst 0, 1) := by decide +kernel
theorem dX3_shuffle_112 : decode cX3_shuffle 112 = .ok (.ireturn, 1) := by decide +kernel
set_option maxRecDepth 20000 in
theorem ggX3_orders_X3_copyAt : GoodIn wsX3_orders wsX3_copyAt := goodIn_r _ [8, 9, 83, 84, 85, 86, 87, 88, 89] (by decide +kernel) (by decide +kernel)
set_option maxRecDepth 20000 in
theorem gX3_orders_X3_copyAt : GoodIn wsX3_orders (wsV RX3 48 RX3 yX3_copyAt wsX3_copyAt) := goodIn_app (goodIn_of _ (by decide +kernel)) ggX3_orders_X3_copyAt
set_option maxRecDepth 20000 in
theorem ggX3_orders_X1_countOf : GoodIn wsX3_orders wsX1_countOf := goodIn_r _ [14, 15, 16, 17, 13, 18, 19, 20, 21, 22, 23, 24, 25, 26, 27, 28, 29, 30, 31, 32, 33, 34, 35, 36, 37, 38, 39, 40, 41, 42, 43, 44, 45, 46, 47, 48, 49, 50, 51, 52, 53, 54, 55, 56, 57, 58, 59, 60, 61, 62, 63, 64, 65, 66, 67, 68, 69, 70, 71, 72, 73, 74, 75, 76, 77, 78, 79, 80, 81, 82, 90, 91, 92, 93, 94, 95, 96, 97, 98, 99, 100, 101, 102, 103, 104] (by decide +kernel) (by decide +kernel)
set_option maxRecDepth 20000 in
theorem gX3_orders_X1_countOf : GoodIn wsX3_orders (wsV RX3 170 RX1 yX1_countOf wsX1_countOf) := goodIn_app (goodIn_of _ (by decide +kernel)) ggX3_orders_X1_countOf
theorem dX3_orders_0 : decode cX3_orders 0 = .ok (.aload_n 0, 1) := by decide +kernel
theorem dX3_orders_1 : decode cX3_orders 1 = .ok (.iload_n 1, 1) := by decide +kernel
theorem dX3_orders_2 : decode cX3_orders 2 = .ok (.iload_n 2, 1) := by decide +kernel
theorem dX3_orders_3 : decode cX3_orders 3 = .ok (.invokevirtual 48, 3) := by decide +kernel
theorem dX3_orders_6 : decode cX3_orders 6 = .ok (.astore_n 3, 1) := by decide +kernel
theorem dX3_orders_7 : decode cX3_orders 7 = .ok (.aload_n 3, 1) := by decide +kernel
theorem dX3_orders_8 : decode cX3_orders 8 = .ok (.ifnull 12, 3) := by decide +kernel
theorem dX3_orders_11 : decode cX3_orders 11 = .ok (.aload_n 3, 1) := by decide +kernel
theorem dX3_orders_12 : decode cX3_orders 12 = .ok (.getfield 103, 3) := by decide +kernel
theorem dX3_orders_15 : decode cX3_orders 15 = .ok (.bipush 12, 2) := by decide +kernel
theorem dX3_orders_17 : decode cX3_orders 17 = .ok (.if_icmp .le 7, 3) := by decide +kernel
theorem dX3_orders_20 : decode cX3_orders 20 = .ok (.ldc2_w 168, 3) := by decide +kernel
theorem dX3_orders_23 : decode cX3_orders 23 = .ok (.lreturn, 1) := by decide +kernel
theorem dX3_orders_24 : decode cX3_orders 24 = .ok (.aload_n 0, 1) := by decide +kernel
theorem dX3_orders_25 : decode cX3_orders 25 = .ok (.getfield 33, 3) := by decide +kernel
theorem dX3_orders_28 : decode cX3_orders 28 = .ok (.aload_n 3, 1) := by decide +kernel
theorem dX3_orders_29 : decode cX3_orders 29 = .ok (.invokevirtual 170, 3) := by decide +kernel
theorem dX3_orders_32 : decode cX3_orders 32 = .ok (.lreturn, 1) := by decide +kernel
set_option maxRecDepth 20000 in
theorem ggX3_number_X3_copyAt : GoodIn wsX3_number wsX3_copyAt := goodIn_r _ [8, 9, 88, 89, 90, 91, 92, 93, 94] (by decide +kernel) (by decide +kernel)
set_option maxRecDepth 20000 in
theorem gX3_number_X3_copyAt : GoodIn wsX3_number (wsV RX3 48 RX3 yX3_copyAt wsX3_copyAt) := goodIn_app (goodIn_of _ (by decide +kernel)) ggX3_number_X3_copyAt
set_option maxRecDepth 20000 in
theorem ggX3_number_X1_rankOf : GoodIn wsX3_number wsX1_rankOf := goodIn_r _ [14, 15, 16, 17, 18, 19, 20, 21, 22, 23, 13, 24, 25, 26, 27, 28, 29, 30, 31, 32, 33, 34, 35, 36, 37, 38, 39, 40, 41, 42, 43, 44, 45, 46, 47, 48, 49, 50, 51, 52, 53, 54, 55, 56, 57, 58, 59, 60, 61, 62, 63, 64, 65, 66, 67, 68, 69, 70, 71, 72, 73, 74, 75, 76, 77, 78, 79, 80, 81, 82, 83, 84, 85, 86, 87, 95, 96, 97, 98, 99, 100, 101, 102, 103, 104, 105, 106, 107, 108, 109] (by decide +kernel) (by decide +kernel)
set_option maxRecDepth 20000 in
theorem gX3_number_X1_rankOf : GoodIn wsX3_number (wsV RX3 174 RX1 yX1_rankOf wsX1_rankOf) := goodIn_app (goodIn_of _ (by decide +kernel)) ggX3_number_X1_rankOf
theorem dX3_number_0 : decode cX3_number 0 = .ok (.aload_n 0, 1) := by decide +kernel
theorem dX3_number_1 : decode cX3_number 1 = .ok (.iload_n 1, 1) := by decide +kernel
theorem dX3_number_2 : decode cX3_number 2 = .ok (.iload_n 2, 1) := by decide +kernel
theorem dX3_number_3 : decode cX3_number 3 = .ok (.invokevirtual 48, 3) := by decide +kernel
theorem dX3_number_6 : decode cX3_number 6 = .ok (.astore_n 3, 1) := by decide +kernel
theorem dX3_number_7 : decode cX3_number 7 = .ok (.aload_n 3, 1) := by decide +kernel
theorem dX3_number_8 : decode cX3_number 8 = .ok (.ifnull 12, 3) := by decide +kernel
theorem dX3_number_11 : decode cX3_number 11 = .ok (.aload_n 3, 1) := by decide +kernel
theorem dX3_number_12 : decode cX3_number 12 = .ok (.getfield 103, 3) := by decide +kernel
theorem dX3_number_15 : decode cX3_number 15 = .ok (.bipush 12, 2) := by decide +kernel
theorem dX3_number_17 : decode cX3_number 17 = .ok (.if_icmp .le 7, 3) := by decide +kernel
theorem dX3_number_20 : decode cX3_number 20 = .ok (.ldc2_w 168, 3) := by decide +kernel
theorem dX3_number_23 : decode cX3_number 23 = .ok (.lreturn, 1) := by decide +kernel
theorem dX3_number_24 : decode cX3_number 24 = .ok (.aload_n 0, 1) := by decide +kernel
theorem dX3_number_25 : decode cX3_number 25 = .ok (.getfield 33, 3) := by decide +kernel
theorem dX3_number_28 : decode cX3_number 28 = .ok (.aload_n 3, 1) := by decide +kernel
theorem dX3_number_29 : decode cX3_number 29 = .ok (.invokevirtual 174, 3) := by decide +kernel
theorem dX3_number_32 : decode cX3_number 32 = .ok (.lreturn, 1) := by decide +kernel
theorem dX3_textAt_0 : decode cX3_textAt 0 = .ok (.iload_n 1, 1) := by decide +kernel
theorem dX3_textAt_1 : decode cX3_textAt 1 = .ok (.ifCond .lt 21, 3) := by decide +kernel
theorem dX3_textAt_4 : decode cX3_textAt 4 = .ok (.iload_n 1, 1) := by decide +kernel
theorem dX3_textAt_5 : decode cX3_textAt 5 = .ok (.aload_n 0, 1) := by decide +kernel
theorem dX3_textAt_6 : decode cX3_textAt 6 = .ok (.getfield 11, 3) := by decide +kernel
theorem dX3_textAt_9 : decode cX3_textAt 9 = .ok (.arraylength, 1) := by decide +kernel
theorem dX3_textAt_10 : decode cX3_textAt 10 = .ok (.if_icmp .ge 12, 3) := by decide +kernel
theorem dX3_textAt_13 : decode cX3_textAt 13 = .ok (.aload_n 0, 1) := by decide +kernel
theorem dX3_textAt_14 : decode cX3_textAt 14 = .ok (.getfield 11, 3) := by decide +kernel
theorem dX3_textAt_17 : decode cX3_textAt 17 = .ok (.iload_n 1, 1) := by decide +kernel
theorem dX3_textAt_18 : decode cX3_textAt 18 = .ok (.aaload, 1) := by decide +kernel
theorem dX3_textAt_19 : decode cX3_textAt 19 = .ok (.goto 4, 3) := by decide +kernel
theorem dX3_textAt_22 : decode cX3_textAt 22 = .ok (.aconst_null, 1) := by decide +kernel
theorem dX3_textAt_23 : decode cX3_textAt 23 = .ok (.areturn, 1) := by decide +kernel
theorem dX3_spareOf_0 : decode cX3_spareOf 0 = .ok (.iload_n 1, 1) := by decide +kernel
theorem dX3_spareOf_1 : decode cX3_spareOf 1 = .ok (.ifCond .lt 21, 3) := by decide +kernel
theorem dX3_spareOf_4 : decode cX3_spareOf 4 = .ok (.iload_n 1, 1) := by decide +kernel
theorem dX3_spareOf_5 : decode cX3_spareOf 5 = .ok (.aload_n 0, 1) := by decide +kernel
theorem dX3_spareOf_6 : decode cX3_spareOf 6 = .ok (.getfield 21, 3) := by decide +kernel
theorem dX3_spareOf_9 : decode cX3_spareOf 9 = .ok (.arraylength, 1) := by decide +kernel
theorem dX3_spareOf_10 : decode cX3_spareOf 10 = .ok (.if_icmp .ge 12, 3) := by decide +kernel
theorem dX3_spareOf_13 : decode cX3_spareOf 13 = .ok (.aload_n 0, 1) := by decide +kernel
theorem dX3_spareOf_14 : decode cX3_spareOf 14 = .ok (.getfield 21, 3) := by decide +kernel
theorem dX3_spareOf_17 : decode cX3_spareOf 17 = .ok (.iload_n 1, 1) := by decide +kernel
theorem dX3_spareOf_18 : decode cX3_spareOf 18 = .ok (.aaload, 1) := by decide +kernel
theorem dX3_spareOf_19 : decode cX3_spareOf 19 = .ok (.goto 4, 3) := by decide +kernel
theorem dX3_spareOf_22 : decode cX3_spareOf 22 = .ok (.aconst_null, 1) := by decide +kernel
theorem dX3_spareOf_23 : decode cX3_spareOf 23 = .ok (.areturn, 1) := by decide +kernel
theorem dX3_copyAt_0 : decode cX3_copyAt 0 = .ok (.iload_n 1, 1) := by decide +kernel
theorem dX3_copyAt_1 : decode cX3_copyAt 1 = .ok (.ifCond .lt 17, 3) := by decide +kernel
theorem dX3_copyAt_4 : decode cX3_copyAt 4 = .ok (.iload_n 1, 1) := by decide +kernel
theorem dX3_copyAt_5 : decode cX3_copyAt 5 = .ok (.iconst 2, 1) := by decide +kernel
theorem dX3_copyAt_6 : decode cX3_copyAt 6 = .ok (.if_icmp .ge 12, 3) := by decide +kernel
theorem dX3_copyAt_9 : decode cX3_copyAt 9 = .ok (.iload_n 2, 1) := by decide +kernel
theorem dX3_copyAt_10 : decode cX3_copyAt 10 = .ok (.ifCond .lt 8, 3) := by decide +kernel
theorem dX3_copyAt_13 : decode cX3_copyAt 13 = .ok (.iload_n 2, 1) := by decide +kernel
theorem dX3_copyAt_14 : decode cX3_copyAt 14 = .ok (.iconst 5, 1) := by decide +kernel
theorem dX3_copyAt_15 : decode cX3_copyAt 15 = .ok (.if_icmp .lt 5, 3) := by decide +kernel
theorem dX3_copyAt_18 : decode cX3_copyAt 18 = .ok (.aconst_null, 1) := by decide +kernel
theorem dX3_copyAt_19 : decode cX3_copyAt 19 = .ok (.areturn, 1) := by decide +kernel
theorem dX3_copyAt_20 : decode cX3_copyAt 20 = .ok (.iload_n 1, 1) := by decide +kernel
theorem dX3_copyAt_21 : decode cX3_copyAt 21 = .ok (.iconst 5, 1) := by decide +kernel
theorem dX3_copyAt_22 : decode cX3_copyAt 22 = .ok (.imul, 1) := by decide +kernel
theorem dX3_copyAt_23 : decode cX3_copyAt 23 = .ok (.iload_n 2, 1) := by decide +kernel
theorem dX3_copyAt_24 : decode cX3_copyAt 24 = .ok (.iadd, 1) := by decide +kernel
theorem dX3_copyAt_25 : decode cX3_copyAt 25 = .ok (.istore_n 3, 1) := by decide +kernel
theorem dX3_copyAt_26 : decode cX3_copyAt 26 = .ok (.iload_n 3, 1) := by decide +kernel
theorem dX3_copyAt_27 : decode cX3_copyAt 27 = .ok (.aload_n 0, 1) := by decide +kernel
theorem dX3_copyAt_28 : decode cX3_copyAt 28 = .ok (.getfield 17, 3) := by decide +kernel
theorem dX3_copyAt_31 : decode cX3_copyAt 31 = .ok (.arraylength, 1) := by decide +kernel
theorem dX3_copyAt_32 : decode cX3_copyAt 32 = .ok (.if_icmp .ge 12, 3) := by decide +kernel
theorem dX3_copyAt_35 : decode cX3_copyAt 35 = .ok (.aload_n 0, 1) := by decide +kernel
theorem dX3_copyAt_36 : decode cX3_copyAt 36 = .ok (.getfield 17, 3) := by decide +kernel
theorem dX3_copyAt_39 : decode cX3_copyAt 39 = .ok (.iload_n 3, 1) := by decide +kernel
theorem dX3_copyAt_40 : decode cX3_copyAt 40 = .ok (.aaload, 1) := by decide +kernel
theorem dX3_copyAt_41 : decode cX3_copyAt 41 = .ok (.goto 4, 3) := by decide +kernel
theorem dX3_copyAt_44 : decode cX3_copyAt 44 = .ok (.aconst_null, 1) := by decide +kernel
theorem dX3_copyAt_45 : decode cX3_copyAt 45 = .ok (.areturn, 1) := by decide +kernel
set_option maxRecDepth 20000 in
theorem ggX3_listDone_X0_stateOf : GoodIn wsX3_listDone wsX0_stateOf := goodIn_r _ [8, 9, 10, 11, 12, 13, 14, 15, 16, 17, 18, 19, 20, 21] (by decide +kernel) (by decide +kernel)
set_option maxRecDepth 20000 in
theorem gX3_listDone_X0_stateOf : GoodIn wsX3_listDone (wsV RX3 97 RX0 yX0_stateOf wsX0_stateOf) := goodIn_app (goodIn_of _ (by decide +kernel)) ggX3_listDone_X0_stateOf
theorem dX3_listDone_0 : decode cX3_listDone 0 = .ok (.iconst 0, 1) := by decide +kernel
theorem dX3_listDone_1 : decode cX3_listDone 1 = .ok (.istore_n 2, 1) := by decide +kernel
theorem dX3_listDone_2 : decode cX3_listDone 2 = .ok (.iconst 0, 1) := by decide +kernel
theorem dX3_listDone_3 : decode cX3_listDone 3 = .ok (.istore_n 3, 1) := by decide +kernel
theorem dX3_listDone_4 : decode cX3_listDone 4 = .ok (.iload_n 3, 1) := by decide +kernel
theorem dX3_listDone_5 : decode cX3_listDone 5 = .ok (.aload_n 1, 1) := by decide +kernel
theorem dX3_listDone_6 : decode cX3_listDone 6 = .ok (.getfield 62, 3) := by decide +kernel
theorem dX3_listDone_9 : decode cX3_listDone 9 = .ok (.getfield 94, 3) := by decide +kernel
theorem dX3_listDone_12 : decode cX3_listDone 12 = .ok (.if_icmp .ge 37, 3) := by decide +kernel
theorem dX3_listDone_15 : decode cX3_listDone 15 = .ok (.aload_n 1, 1) := by decide +kernel
theorem dX3_listDone_16 : decode cX3_listDone 16 = .ok (.iload_n 3, 1) := by decide +kernel
theorem dX3_listDone_17 : decode cX3_listDone 17 = .ok (.invokevirtual 97, 3) := by decide +kernel
theorem dX3_listDone_20 : decode cX3_listDone 20 = .ok (.iconst 2, 1) := by decide +kernel
theorem dX3_listDone_21 : decode cX3_listDone 21 = .ok (.if_icmp .ne 22, 3) := by decide +kernel
theorem dX3_listDone_24 : decode cX3_listDone 24 = .ok (.iload_n 2, 1) := by decide +kernel
theorem dX3_listDone_25 : decode cX3_listDone 25 = .ok (.aload_n 0, 1) := by decide +kernel
theorem dX3_listDone_26 : decode cX3_listDone 26 = .ok (.getfield 37, 3) := by decide +kernel
theorem dX3_listDone_29 : decode cX3_listDone 29 = .ok (.arraylength, 1) := by decide +kernel
theorem dX3_listDone_30 : decode cX3_listDone 30 = .ok (.if_icmp .ge 13, 3) := by decide +kernel
theorem dX3_listDone_33 : decode cX3_listDone 33 = .ok (.aload_n 0, 1) := by decide +kernel
theorem dX3_listDone_34 : decode cX3_listDone 34 = .ok (.getfield 37, 3) := by decide +kernel
theorem dX3_listDone_37 : decode cX3_listDone 37 = .ok (.iload_n 2, 1) := by decide +kernel
theorem dX3_listDone_38 : decode cX3_listDone 38 = .ok (.iload_n 3, 1) := by decide +kernel
theorem dX3_listDone_39 : decode cX3_listDone 39 = .ok (.iastore, 1) := by decide +kernel
theorem dX3_listDone_40 : decode cX3_listDone 40 = .ok (.iinc 2 1, 3) := by decide +kernel
theorem dX3_listDone_43 : decode cX3_listDone 43 = .ok (.iinc 3 1, 3) := by decide +kernel
theorem dX3_listDone_46 : decode cX3_listDone 46 = .ok (.goto (-42), 3) := by decide +kernel
theorem dX3_listDone_49 : decode cX3_listDone 49 = .ok (.iload_n 2, 1) := by decide +kernel
theorem dX3_listDone_50 : decode cX3_listDone 50 = .ok (.ireturn, 1) := by decide +kernel
theorem dX3_takeDrawn_0 : decode cX3_takeDrawn 0 = .ok (.iload_n 1, 1) := by decide +kernel
theorem dX3_takeDrawn_1 : decode cX3_takeDrawn 1 = .ok (.ifCond .lt 17, 3) := by decide +kernel
theorem dX3_takeDrawn_4 : decode cX3_takeDrawn 4 = .ok (.iload_n 1, 1) := by decide +kernel
theorem dX3_takeDrawn_5 : decode cX3_takeDrawn 5 = .ok (.iload_n 2, 1) := by decide +kernel
theorem dX3_takeDrawn_6 : decode cX3_takeDrawn 6 = .ok (.if_icmp .ge 12, 3) := by decide +kernel
theorem dX3_takeDrawn_9 : decode cX3_takeDrawn 9 = .ok (.iload_n 2, 1) := by decide +kernel
theorem dX3_takeDrawn_10 : decode cX3_takeDrawn 10 = .ok (.aload_n 0, 1) := by decide +kernel
theorem dX3_takeDrawn_11 : decode cX3_takeDrawn 11 = .ok (.getfield 37, 3) := by decide +kernel
theorem dX3_takeDrawn_14 : decode cX3_takeDrawn 14 = .ok (.arraylength, 1) := by decide +kernel
theorem dX3_takeDrawn_15 : decode cX3_takeDrawn 15 = .ok (.if_icmp .le 5, 3) := by decide +kernel
theorem dX3_takeDrawn_18 : decode cX3_takeDrawn 18 = .ok (.iconst (-1), 1) := by decide +kernel
theorem dX3_takeDrawn_19 : decode cX3_takeDrawn 19 = .ok (.ireturn, 1) := by decide +kernel
theorem dX3_takeDrawn_20 : decode cX3_takeDrawn 20 = .ok (.aload_n 0, 1) := by decide +kernel
theorem dX3_takeDrawn_21 : decode cX3_takeDrawn 21 = .ok (.getfield 37, 3) := by decide +kernel
theorem dX3_takeDrawn_24 : decode cX3_takeDrawn 24 = .ok (.iload_n 1, 1) := by decide +kernel
theorem dX3_takeDrawn_25 : decode cX3_takeDrawn 25 = .ok (.iaload, 1) := by decide +kernel
theorem dX3_takeDrawn_26 : decode cX3_takeDrawn 26 = .ok (.istore_n 3, 1) := by decide +kernel
theorem dX3_takeDrawn_27 : decode cX3_takeDrawn 27 = .ok (.iload_n 1, 1) := by decide +kernel
theorem dX3_takeDrawn_28 : decode cX3_takeDrawn 28 = .ok (.iconst 1, 1) := by decide +kernel
theorem dX3_takeDrawn_29 : decode cX3_takeDrawn 29 = .ok (.iadd, 1) := by decide +kernel
theorem dX3_takeDrawn_30 : decode cX3_takeDrawn 30 = .ok (.istore 4, 2) := by decide +kernel
theorem dX3_takeDrawn_32 : decode cX3_takeDrawn 32 = .ok (.iload 4, 2) := by decide +kernel
theorem dX3_takeDrawn_34 : decode cX3_takeDrawn 34 = .ok (.iload_n 2, 1) := by decide +kernel
theorem dX3_takeDrawn_35 : decode cX3_takeDrawn 35 = .ok (.if_icmp .ge 25, 3) := by decide +kernel
theorem dX3_takeDrawn_38 : decode cX3_takeDrawn 38 = .ok (.aload_n 0, 1) := by decide +kernel
theorem dX3_takeDrawn_39 : decode cX3_takeDrawn 39 = .ok (.getfield 37, 3) := by decide +kernel
theorem dX3_takeDrawn_42 : decode cX3_takeDrawn 42 = .ok (.iload 4, 2) := by decide +kernel
theorem dX3_takeDrawn_44 : decode cX3_takeDrawn 44 = .ok (.iconst 1, 1) := by decide +kernel
theorem dX3_takeDrawn_45 : decode cX3_takeDrawn 45 = .ok (.isub, 1) := by decide +kernel
theorem dX3_takeDrawn_46 : decode cX3_takeDrawn 46 = .ok (.aload_n 0, 1) := by decide +kernel
theorem dX3_takeDrawn_47 : decode cX3_takeDrawn 47 = .ok (.getfield 37, 3) := by decide +kernel
theorem dX3_takeDrawn_50 : decode cX3_takeDrawn 50 = .ok (.iload 4, 2) := by decide +kernel
theorem dX3_takeDrawn_52 : decode cX3_takeDrawn 52 = .ok (.iaload, 1) := by decide +kernel
theorem dX3_takeDrawn_53 : decode cX3_takeDrawn 53 = .ok (.iastore, 1) := by decide +kernel
theorem dX3_takeDrawn_54 : decode cX3_takeDrawn 54 = .ok (.iinc 4 1, 3) := by decide +kernel
theorem dX3_takeDrawn_57 : decode cX3_takeDrawn 57 = .ok (.goto (-25), 3) := by decide +kernel
theorem dX3_takeDrawn_60 : decode cX3_takeDrawn 60 = .ok (.iload_n 3, 1) := by decide +kernel
theorem dX3_takeDrawn_61 : decode cX3_takeDrawn 61 = .ok (.ireturn, 1) := by decide +kernel
theorem dX4_init_0 : decode cX4_init 0 = .ok (.aload_n 0, 1) := by decide +kernel
theorem dX4_init_1 : decode cX4_init 1 = .ok (.invokespecial 1, 3) := by decide +kernel
theorem dX4_init_4 : decode cX4_init 4 = .ok (.aload_n 0, 1) := by decide +kernel
theorem dX4_init_5 : decode cX4_init 5 = .ok (.iconst 2, 1) := by decide +kernel
theorem dX4_init_6 : decode cX4_init 6 = .ok (.newarray .int, 2) := by decide +kernel
theorem dX4_init_8 : decode cX4_init 8 = .ok (.putfield 7, 3) := by decide +kernel
theorem dX4_init_11 : decode cX4_init 11 = .ok (.aload_n 0, 1) := by decide +kernel
theorem dX4_init_12 : decode cX4_init 12 = .ok (.bipush 120, 2) := by decide +kernel
theorem dX4_init_14 : decode cX4_init 14 = .ok (.newarray .int, 2) := by decide +kernel
theorem dX4_init_16 : decode cX4_init 16 = .ok (.putfield 13, 3) := by decide +kernel
theorem dX4_init_19 : decode cX4_init 19 = .ok (.aload_n 0, 1) := by decide +kernel
theorem dX4_init_20 : decode cX4_init 20 = .ok (.bipush 120, 2) := by decide +kernel
theorem dX4_init_22 : decode cX4_init 22 = .ok (.newarray .int, 2) := by decide +kernel
theorem dX4_init_24 : decode cX4_init 24 = .ok (.putfield 16, 3) := by decide +kernel
theorem dX4_init_27 : decode cX4_init 27 = .ok (.aload_n 0, 1) := by decide +kernel
theorem dX4_init_28 : decode cX4_init 28 = .ok (.bipush 120, 2) := by decide +kernel
theorem dX4_init_30 : decode cX4_init 30 = .ok (.newarray .int, 2) := by decide +kernel
theorem dX4_init_32 : decode cX4_init 32 = .ok (.putfield 19, 3) := by decide +kernel
theorem dX4_init_35 : decode cX4_init 35 = .ok (.aload_n 0, 1) := by decide +kernel
theorem dX4_init_36 : decode cX4_init 36 = .ok (.bipush 120, 2) := by decide +kernel
theorem dX4_init_38 : decode cX4_init 38 = .ok (.newarray .int, 2) := by decide +kernel
theorem dX4_init_40 : decode cX4_init 40 = .ok (.putfield 22, 3) := by decide +kernel
theorem dX4_init_43 : decode cX4_init 43 = .ok (.aload_n 0, 1) := by decide +kernel
theorem dX4_init_44 : decode cX4_init 44 = .ok (.bipush 120, 2) := by decide +kernel
theorem dX4_init_46 : decode cX4_init 46 = .ok (.newarray .int, 2) := by decide +kernel
theorem dX4_init_48 : decode cX4_init 48 = .ok (.putfield 25, 3) := by decide +kernel
theorem dX4_init_51 : decode cX4_init 51 = .ok (.aload_n 0, 1) := by decide +kernel
theorem dX4_init_52 : decode cX4_init 52 = .ok (.bipush 10, 2) := by decide +kernel
theorem dX4_init_54 : decode cX4_init 54 = .ok (.newarray .int, 2) := by decide +kernel
theorem dX4_init_56 : decode cX4_init 56 = .ok (.putfield 28, 3) := by decide +kernel
theorem dX4_init_59 : decode cX4_init 59 = .ok (.aload_n 0, 1) := by decide +kernel
theorem dX4_init_60 : decode cX4_init 60 = .ok (.iconst 2, 1) := by decide +kernel
theorem dX4_init_61 : decode cX4_init 61 = .ok (.newarray .int, 2) := by decide +kernel
theorem dX4_init_63 : decode cX4_init 63 = .ok (.putfield 31, 3) := by decide +kernel
theorem dX4_init_66 : decode cX4_init 66 = .ok (.aload_n 0, 1) := by decide +kernel
theorem dX4_init_67 : decode cX4_init 67 = .ok (.iconst 2, 1) := by decide +kernel
theorem dX4_init_68 : decode cX4_init 68 = .ok (.newarray .int, 2) := by decide +kernel
theorem dX4_init_70 : decode cX4_init 70 = .ok (.putfield 34, 3) := by decide +kernel
theorem dX4_init_73 : decode cX4_init 73 = .ok (.aload_n 0, 1) := by decide +kernel
theorem dX4_init_74 : decode cX4_init 74 = .ok (.sipush 320, 3) := by decide +kernel
theorem dX4_init_77 : decode cX4_init 77 = .ok (.newarray .boolean, 2) := by decide +kernel
theorem dX4_init_79 : decode cX4_init 79 = .ok (.putfield 37, 3) := by decide +kernel
theorem dX4_init_82 : decode cX4_init 82 = .ok (.aload_n 0, 1) := by decide +kernel
theorem dX4_init_83 : decode cX4_init 83 = .ok (.sipush 320, 3) := by decide +kernel
theorem dX4_init_86 : decode cX4_init 86 = .ok (.newarray .int, 2) := by decide +kernel
theorem dX4_init_88 : decode cX4_init 88 = .ok (.putfield 41, 3) := by decide +kernel
theorem dX4_init_91 : decode cX4_init 91 = .ok (.aload_n 0, 1) := by decide +kernel
theorem dX4_init_92 : decode cX4_init 92 = .ok (.sipush 320, 3) := by decide +kernel
theorem dX4_init_95 : decode cX4_init 95 = .ok (.newarray .int, 2) := by decide +kernel
theorem dX4_init_97 : decode cX4_init 97 = .ok (.putfield 44, 3) := by decide +kernel
theorem dX4_init_100 : decode cX4_init 100 = .ok (.aload_n 0, 1) := by decide +kernel
theorem dX4_init_101 : decode cX4_init 101 = .ok (.sipush 660, 3) := by decide +kernel
theorem dX4_init_104 : decode cX4_init 104 = .ok (.newarray .int, 2) := by decide +kernel
theorem dX4_init_106 : decode cX4_init 106 = .ok (.putfield 47, 3) := by decide +kernel
theorem dX4_init_109 : decode cX4_init 109 = .ok (.aload_n 0, 1) := by decide +kernel
theorem dX4_init_110 : decode cX4_init 110 = .ok (.bipush 11, 2) := by decide +kernel
theorem dX4_init_112 : decode cX4_init 112 = .ok (.newarray .int, 2) := by decide +kernel
theorem dX4_init_114 : decode cX4_init 114 = .ok (.putfield 50, 3) := by decide +kernel
theorem dX4_init_117 : decode cX4_init 117 = .ok (.aload_n 0, 1) := by decide +kernel
theorem dX4_init_118 : decode cX4_init 118 = .ok (.sipush 660, 3) := by decide +kernel
theorem dX4_init_121 : decode cX4_init 121 = .ok (.newarray .boolean, 2) := by decide +kernel
theorem dX4_init_123 : decode cX4_init 123 = .ok (.putfield 53, 3) := by decide +kernel
theorem dX4_init_126 : decode cX4_init 126 = .ok (.aload_n 0, 1) := by decide +kernel
theorem dX4_init_127 : decode cX4_init 127 = .ok (.sipush 660, 3) := by decide +kernel
theorem dX4_init_130 : decode cX4_init 130 = .ok (.newarray .boolean, 2) := by decide +kernel
theorem dX4_init_132 : decode cX4_init 132 = .ok (.putfield 56, 3) := by decide +kernel
theorem dX4_init_135 : decode cX4_init 135 = .ok (.aload_n 0, 1) := by decide +kernel
theorem dX4_init_136 : decode cX4_init 136 = .ok (.sipush 1760, 3) := by decide +kernel
theorem dX4_init_139 : decode cX4_init 139 = .ok (.newarray .int, 2) := by decide +kernel
theorem dX4_init_141 : decode cX4_init 141 = .ok (.putfield 59, 3) := by decide +kernel
theorem dX4_init_144 : decode cX4_init 144 = .ok (.aload_n 0, 1) := by decide +kernel
theorem dX4_init_145 : decode cX4_init 145 = .ok (.bipush 10, 2) := by decide +kernel
theorem dX4_init_147 : decode cX4_init 147 = .ok (.newarray .int, 2) := by decide +kernel
theorem dX4_init_149 : decode cX4_init 149 = .ok (.putfield 62, 3) := by decide +kernel
theorem dX4_init_152 : decode cX4_init 152 = .ok (.aload_n 0, 1) := by decide +kernel
theorem dX4_init_153 : decode cX4_init 153 = .ok (.bipush 60, 2) := by decide +kernel
theorem dX4_init_155 : decode cX4_init 155 = .ok (.newarray .int, 2) := by decide +kernel
theorem dX4_init_157 : decode cX4_init 157 = .ok (.putfield 65, 3) := by decide +kernel
theorem dX4_init_160 : decode cX4_init 160 = .ok (.aload_n 0, 1) := by decide +kernel
theorem dX4_init_161 : decode cX4_init 161 = .ok (.bipush 62, 2) := by decide +kernel
theorem dX4_init_163 : decode cX4_init 163 = .ok (.newarray .int, 2) := by decide +kernel
theorem dX4_init_165 : decode cX4_init 165 = .ok (.putfield 68, 3) := by decide +kernel
theorem dX4_init_168 : decode cX4_init 168 = .ok (.aload_n 0, 1) := by decide +kernel
theorem dX4_init_169 : decode cX4_init 169 = .ok (.bipush 60, 2) := by decide +kernel
theorem dX4_init_171 : decode cX4_init 171 = .ok (.newarray .boolean, 2) := by decide +kernel
theorem dX4_init_173 : decode cX4_init 173 = .ok (.putfield 71, 3) := by decide +kernel
theorem dX4_init_176 : decode cX4_init 176 = .ok (.aload_n 0, 1) := by decide +kernel
theorem dX4_init_177 : decode cX4_init 177 = .ok (.bipush 60, 2) := by decide +kernel
theorem dX4_init_179 : decode cX4_init 179 = .ok (.newarray .boolean, 2) := by decide +kernel
theorem dX4_init_181 : decode cX4_init 181 = .ok (.putfield 74, 3) := by decide +kernel
theorem dX4_init_184 : decode cX4_init 184 = .ok (.aload_n 0, 1) := by decide +kernel
theorem dX4_init_185 : decode cX4_init 185 = .ok (.sipush 160, 3) := by decide +kernel
theorem dX4_init_188 : decode cX4_init 188 = .ok (.newarray .int, 2) := by decide +kernel
theorem dX4_init_190 : decode cX4_init 190 = .ok (.putfield 77, 3) := by decide +kernel
theorem dX4_init_193 : decode cX4_init 193 = .ok (.aload_n 0, 1) := by decide +kernel
theorem dX4_init_194 : decode cX4_init 194 = .ok (.bipush 12, 2) := by decide +kernel
theorem dX4_init_196 : decode cX4_init 196 = .ok (.newarray .int, 2) := by decide +kernel
theorem dX4_init_198 : decode cX4_init 198 = .ok (.putfield 80, 3) := by decide +kernel
theorem dX4_init_201 : decode cX4_init 201 = .ok (.aload_n 0, 1) := by decide +kernel
theorem dX4_init_202 : decode cX4_init 202 = .ok (.sipush 4096, 3) := by decide +kernel
theorem dX4_init_205 : decode cX4_init 205 = .ok (.newarray .long, 2) := by decide +kernel
theorem dX4_init_207 : decode cX4_init 207 = .ok (.putfield 83, 3) := by decide +kernel
theorem dX4_init_210 : decode cX4_init 210 = .ok (.return_, 1) := by decide +kernel
theorem dX4_isText_0 : decode cX4_isText 0 = .ok (.iload_n 1, 1) := by decide +kernel
theorem dX4_isText_1 : decode cX4_isText 1 = .ok (.ifCond .eq 8, 3) := by decide +kernel
theorem dX4_isText_4 : decode cX4_isText 4 = .ok (.iload_n 1, 1) := by decide +kernel
theorem dX4_isText_5 : decode cX4_isText 5 = .ok (.iconst 1, 1) := by decide +kernel
theorem dX4_isText_6 : decode cX4_isText 6 = .ok (.if_icmp .ne 7, 3) := by decide +kernel
theorem dX4_isText_9 : decode cX4_isText 9 = .ok (.iconst 1, 1) := by decide +kernel
theorem dX4_isText_10 : decode cX4_isText 10 = .ok (.goto 4, 3) := by decide +kernel
theorem dX4_isText_13 : decode cX4_isText 13 = .ok (.iconst 0, 1) := by decide +kernel
theorem dX4_isText_14 : decode cX4_isText 14 = .ok (.ireturn, 1) := by decide +kernel
theorem dX4_isSite_0 : decode cX4_isSite 0 = .ok (.iload_n 1, 1) := by decide +kernel
theorem dX4_isSite_1 : decode cX4_isSite 1 = .ok (.ifCond .lt 12, 3) := by decide +kernel
theorem dX4_isSite_4 : decode cX4_isSite 4 = .ok (.iload_n 1, 1) := by decide +kernel
theorem dX4_isSite_5 : decode cX4_isSite 5 = .ok (.iconst 4, 1) := by decide +kernel
theorem dX4_isSite_6 : decode cX4_isSite 6 = .ok (.if_icmp .gt 7, 3) := by decide +kernel
theorem dX4_isSite_9 : decode cX4_isSite 9 = .ok (.iconst 1, 1) := by decide +kernel
theorem dX4_isSite_10 : decode cX4_isSite 10 = .ok (.goto 4, 3) := by decide +kernel
theorem dX4_isSite_13 : decode cX4_isSite 13 = .ok (.iconst 0, 1) := by decide +kernel
theorem dX4_isSite_14 : decode cX4_isSite 14 = .ok (.ireturn, 1) := by decide +kernel
theorem dX4_mark_0 : decode cX4_mark 0 = .ok (.iload_n 2, 1) := by decide +kernel
theorem dX4_mark_1 : decode cX4_mark 1 = .ok (.iconst (-1), 1) := by decide +kernel
theorem dX4_mark_2 : decode cX4_mark 2 = .ok (.if_icmp .ne 5, 3) := by decide +kernel
theorem dX4_mark_5 : decode cX4_mark 5 = .ok (.iconst (-1), 1) := by decide +kernel
theorem dX4_mark_6 : decode cX4_mark 6 = .ok (.ireturn, 1) := by decide +kernel
theorem dX4_mark_7 : decode cX4_mark 7 = .ok (.iload_n 2, 1) := by decide +kernel
theorem dX4_mark_8 : decode cX4_mark 8 = .ok (.bipush 60, 2) := by decide +kernel
theorem dX4_mark_10 : decode cX4_mark 10 = .ok (.if_icmp .ne 9, 3) := by decide +kernel
theorem dX4_mark_13 : decode cX4_mark 13 = .ok (.sipush 9999, 3) := by decide +kernel
theorem dX4_mark_16 : decode cX4_mark 16 = .ok (.goto 29, 3) := by decide +kernel
theorem dX4_mark_19 : decode cX4_mark 19 = .ok (.bipush 100, 2) := by decide +kernel
theorem dX4_mark_21 : decode cX4_mark 21 = .ok (.aload_n 0, 1) := by decide +kernel
theorem dX4_mark_22 : decode cX4_mark 22 = .ok (.getfield 13, 3) := by decide +kernel
theorem dX4_mark_25 : decode cX4_mark 25 = .ok (.bipush 60, 2) := by decide +kernel
theorem dX4_mark_27 : decode cX4_mark 27 = .ok (.iload_n 1, 1) := by decide +kernel
theorem dX4_mark_28 : decode cX4_mark 28 = .ok (.imul, 1) := by decide +kernel
theorem dX4_mark_29 : decode cX4_mark 29 = .ok (.iload_n 2, 1) := by decide +kernel
theorem dX4_mark_30 : decode cX4_mark 30 = .ok (.iadd, 1) := by decide +kernel
theorem dX4_mark_31 : decode cX4_mark 31 = .ok (.iaload, 1) := by decide +kernel
theorem dX4_mark_32 : decode cX4_mark 32 = .ok (.imul, 1) := by decide +kernel
theorem dX4_mark_33 : decode cX4_mark 33 = .ok (.aload_n 0, 1) := by decide +kernel
theorem dX4_mark_34 : decode cX4_mark 34 = .ok (.getfield 16, 3) := by decide +kernel
theorem dX4_mark_37 : decode cX4_mark 37 = .ok (.bipush 60, 2) := by decide +kernel
theorem dX4_mark_39 : decode cX4_mark 39 = .ok (.iload_n 1, 1) := by decide +kernel
theorem dX4_mark_40 : decode cX4_mark 40 = .ok (.imul, 1) := by decide +kernel
theorem dX4_mark_41 : decode cX4_mark 41 = .ok (.iload_n 2, 1) := by decide +kernel
theorem dX4_mark_42 : decode cX4_mark 42 = .ok (.iadd, 1) := by decide +kernel
theorem dX4_mark_43 : decode cX4_mark 43 = .ok (.iaload, 1) := by decide +kernel
theorem dX4_mark_44 : decode cX4_mark 44 = .ok (.iadd, 1) := by decide +kernel
theorem dX4_mark_45 : decode cX4_mark 45 = .ok (.ireturn, 1) := by decide +kernel
theorem dX4_place_0 : decode cX4_place 0 = .ok (.iload_n 2, 1) := by decide +kernel
theorem dX4_place_1 : decode cX4_place 1 = .ok (.iconst (-1), 1) := by decide +kernel
theorem dX4_place_2 : decode cX4_place 2 = .ok (.if_icmp .ne 5, 3) := by decide +kernel
theorem dX4_place_5 : decode cX4_place 5 = .ok (.iconst (-1), 1) := by decide +kernel
theorem dX4_place_6 : decode cX4_place 6 = .ok (.ireturn, 1) := by decide +kernel
theorem dX4_place_7 : decode cX4_place 7 = .ok (.iconst 0, 1) := by decide +kernel
theorem dX4_place_8 : decode cX4_place 8 = .ok (.istore_n 3, 1) := by decide +kernel
theorem dX4_place_9 : decode cX4_place 9 = .ok (.iload_n 3, 1) := by decide +kernel
theorem dX4_place_10 : decode cX4_place 10 = .ok (.aload_n 0, 1) := by decide +kernel
theorem dX4_place_11 : decode cX4_place 11 = .ok (.getfield 50, 3) := by decide +kernel
theorem dX4_place_14 : decode cX4_place 14 = .ok (.iload_n 1, 1) := by decide +kernel
theorem dX4_place_15 : decode cX4_place 15 = .ok (.iaload, 1) := by decide +kernel
theorem dX4_place_16 : decode cX4_place 16 = .ok (.if_icmp .ge 25, 3) := by decide +kernel
theorem dX4_place_19 : decode cX4_place 19 = .ok (.aload_n 0, 1) := by decide +kernel
theorem dX4_place_20 : decode cX4_place 20 = .ok (.getfield 47, 3) := by decide +kernel
theorem dX4_place_23 : decode cX4_place 23 = .ok (.bipush 60, 2) := by decide +kernel
theorem dX4_place_25 : decode cX4_place 25 = .ok (.iload_n 1, 1) := by decide +kernel
theorem dX4_place_26 : decode cX4_place 26 = .ok (.imul, 1) := by decide +kernel
theorem dX4_place_27 : decode cX4_place 27 = .ok (.iload_n 3, 1) := by decide +kernel
theorem dX4_place_28 : decode cX4_place 28 = .ok (.iadd, 1) := by decide +kernel
theorem dX4_place_29 : decode cX4_place 29 = .ok (.iaload, 1) := by decide +kernel
theorem dX4_place_30 : decode cX4_place 30 = .ok (.iload_n 2, 1) := by decide +kernel
theorem dX4_place_31 : decode cX4_place 31 = .ok (.if_icmp .eq 10, 3) := by decide +kernel
theorem dX4_place_34 : decode cX4_place 34 = .ok (.iload_n 3, 1) := by decide +kernel
theorem dX4_place_35 : decode cX4_place 35 = .ok (.iconst 1, 1) := by decide +kernel
theorem dX4_place_36 : decode cX4_place 36 = .ok (.iadd, 1) := by decide +kernel
theorem dX4_place_37 : decode cX4_place 37 = .ok (.istore_n 3, 1) := by decide +kernel
theorem dX4_place_38 : decode cX4_place 38 = .ok (.goto (-29), 3) := by decide +kernel
theorem dX4_place_41 : decode cX4_place 41 = .ok (.iload_n 3, 1) := by decide +kernel
theorem dX4_place_42 : decode cX4_place 42 = .ok (.ireturn, 1) := by decide +kernel
theorem dX4_lay_0 : decode cX4_lay 0 = .ok (.aload_n 0, 1) := by decide +kernel
theorem dX4_lay_1 : decode cX4_lay 1 = .ok (.getfield 50, 3) := by decide +kernel
theorem dX4_lay_4 : decode cX4_lay 4 = .ok (.iload_n 1, 1) := by decide +kernel
theorem dX4_lay_5 : decode cX4_lay 5 = .ok (.iaload, 1) := by decide +kernel
theorem dX4_lay_6 : decode cX4_lay 6 = .ok (.istore 4, 2) := by decide +kernel
theorem dX4_lay_8 : decode cX4_lay 8 = .ok (.iload 4, 2) := by decide +kernel
theorem dX4_lay_10 : decode cX4_lay 10 = .ok (.iload_n 3, 1) := by decide +kernel
theorem dX4_lay_11 : decode cX4_lay 11 = .ok (.if_icmp .le 35, 3) := by decide +kernel
theorem dX4_lay_14 : decode cX4_lay 14 = .ok (.aload_n 0, 1) := by decide +kernel
theorem dX4_lay_15 : decode cX4_lay 15 = .ok (.getfield 47, 3) := by decide +kernel
theorem dX4_lay_18 : decode cX4_lay 18 = .ok (.bipush 60, 2) := by decide +kernel
theorem dX4_lay_20 : decode cX4_lay 20 = .ok (.iload_n 1, 1) := by decide +kernel
theorem dX4_lay_21 : decode cX4_lay 21 = .ok (.imul, 1) := by decide +kernel
theorem dX4_lay_22 : decode cX4_lay 22 = .ok (.iload 4, 2) := by decide +kernel
theorem dX4_lay_24 : decode cX4_lay 24 = .ok (.iadd, 1) := by decide +kernel
theorem dX4_lay_25 : decode cX4_lay 25 = .ok (.aload_n 0, 1) := by decide +kernel
theorem dX4_lay_26 : decode cX4_lay 26 = .ok (.getfield 47, 3) := by decide +kernel
theorem dX4_lay_29 : decode cX4_lay 29 = .ok (.bipush 60, 2) := by decide +kernel
theorem dX4_lay_31 : decode cX4_lay 31 = .ok (.iload_n 1, 1) := by decide +kernel
theorem dX4_lay_32 : decode cX4_lay 32 = .ok (.imul, 1) := by decide +kernel
theorem dX4_lay_33 : decode cX4_lay 33 = .ok (.iload 4, 2) := by decide +kernel
theorem dX4_lay_35 : decode cX4_lay 35 = .ok (.iadd, 1) := by decide +kernel
theorem dX4_lay_36 : decode cX4_lay 36 = .ok (.iconst 1, 1) := by decide +kernel
theorem dX4_lay_37 : decode cX4_lay 37 = .ok (.isub, 1) := by decide +kernel
theorem dX4_lay_38 : decode cX4_lay 38 = .ok (.iaload, 1) := by decide +kernel
theorem dX4_lay_39 : decode cX4_lay 39 = .ok (.iastore, 1) := by decide +kernel
theorem dX4_lay_40 : decode cX4_lay 40 = .ok (.iinc 4 (-1), 3) := by decide +kernel
theorem dX4_lay_43 : decode cX4_lay 43 = .ok (.goto (-35), 3) := by decide +kernel
theorem dX4_lay_46 : decode cX4_lay 46 = .ok (.aload_n 0, 1) := by decide +kernel
theorem dX4_lay_47 : decode cX4_lay 47 = .ok (.getfield 47, 3) := by decide +kernel
theorem dX4_lay_50 : decode cX4_lay 50 = .ok (.bipush 60, 2) := by decide +kernel
theorem dX4_lay_52 : decode cX4_lay 52 = .ok (.iload_n 1, 1) := by decide +kernel
theorem dX4_lay_53 : decode cX4_lay 53 = .ok (.imul, 1) := by decide +kernel
theorem dX4_lay_54 : decode cX4_lay 54 = .ok (.iload_n 3, 1) := by decide +kernel
theorem dX4_lay_55 : decode cX4_lay 55 = .ok (.iadd, 1) := by decide +kernel
theorem dX4_lay_56 : decode cX4_lay 56 = .ok (.iload_n 2, 1) := by decide +kernel
theorem dX4_lay_57 : decode cX4_lay 57 = .ok (.iastore, 1) := by decide +kernel
theorem dX4_lay_58 : decode cX4_lay 58 = .ok (.aload_n 0, 1) := by decide +kernel
theorem dX4_lay_59 : decode cX4_lay 59 = .ok (.getfield 50, 3) := by decide +kernel
theorem dX4_lay_62 : decode cX4_lay 62 = .ok (.iload_n 1, 1) := by decide +kernel
theorem dX4_lay_63 : decode cX4_lay 63 = .ok (.aload_n 0, 1) := by decide +kernel
theorem dX4_lay_64 : decode cX4_lay 64 = .ok (.getfield 50, 3) := by decide +kernel
theorem dX4_lay_67 : decode cX4_lay 67 = .ok (.iload_n 1, 1) := by decide +kernel
theorem dX4_lay_68 : decode cX4_lay 68 = .ok (.iaload, 1) := by decide +kernel
theorem dX4_lay_69 : decode cX4_lay 69 = .ok (.iconst 1, 1) := by decide +kernel
theorem dX4_lay_70 : decode cX4_lay 70 = .ok (.iadd, 1) := by decide +kernel
theorem dX4_lay_71 : decode cX4_lay 71 = .ok (.iastore, 1) := by decide +kernel
theorem dX4_lay_72 : decode cX4_lay 72 = .ok (.aload_n 0, 1) := by decide +kernel
theorem dX4_lay_73 : decode cX4_lay 73 = .ok (.getfield 53, 3) := by decide +kernel
theorem dX4_lay_76 : decode cX4_lay 76 = .ok (.bipush 60, 2) := by decide +kernel
theorem dX4_lay_78 : decode cX4_lay 78 = .ok (.iload_n 1, 1) := by decide +kernel
theorem dX4_lay_79 : decode cX4_lay 79 = .ok (.imul, 1) := by decide +kernel
theorem dX4_lay_80 : decode cX4_lay 80 = .ok (.iload_n 2, 1) := by decide +kernel
theorem dX4_lay_81 : decode cX4_lay 81 = .ok (.iadd, 1) := by decide +kernel
theorem dX4_lay_82 : decode cX4_lay 82 = .ok (.iconst 1, 1) := by decide +kernel
theorem dX4_lay_83 : decode cX4_lay 83 = .ok (.bastore, 1) := by decide +kernel
theorem dX4_lay_84 : decode cX4_lay 84 = .ok (.return_, 1) := by decide +kernel
set_option maxRecDepth 20000 in
theorem ggX4_integrate_X4_woot : GoodIn wsX4_integrate wsX4_woot := goodIn_r _ [6, 7, 8, 9, 10, 11, 12, 13, 14, 5, 15, 16, 17, 18, 19, 20, 21, 22, 23, 24, 25, 26, 27, 38, 39, 40, 41, 42, 43, 44, 45, 46, 47, 48, 49, 50, 51, 52, 53, 54, 55, 56, 57, 58, 59, 60, 61, 62, 63, 64, 65, 66] (by decide +kernel) (by decide +kernel)
set_option maxRecDepth 20000 in
theorem gX4_integrate_X4_woot : GoodIn wsX4_integrate (wsV RX4 94 RX4 yX4_woot wsX4_woot) := goodIn_app (goodIn_of _ (by decide +kernel)) ggX4_integrate_X4_woot
set_option maxRecDepth 20000 in
theorem ggX4_integrate_X4_yata : GoodIn wsX4_integrate wsX4_yata := goodIn_r _ [31, 32, 7, 8, 10, 11, 33, 21, 34, 35, 36, 5, 37, 12, 13, 14, 15, 16, 23, 24, 25, 26, 27, 38, 39, 40, 41, 42, 43, 44, 45, 46, 47, 48, 49, 50, 51, 52, 53, 54, 55, 56, 57, 58, 59, 60, 61, 62, 63, 64, 65, 66] (by decide +kernel) (by decide +kernel)
set_option maxRecDepth 20000 in
theorem gX4_integrate_X4_yata : GoodIn wsX4_integrate (wsV RX4 98 RX4 yX4_yata wsX4_yata) := goodIn_app (goodIn_of _ (by decide +kernel)) ggX4_integrate_X4_yata
theorem dX4_integrate_0 : decode cX4_integrate 0 = .ok (.aload_n 0, 1) := by decide +kernel
theorem dX4_integrate_1 : decode cX4_integrate 1 = .ok (.aload_n 0, 1) := by decide +kernel
theorem dX4_integrate_2 : decode cX4_integrate 2 = .ok (.getfield 91, 3) := by decide +kernel
theorem dX4_integrate_5 : decode cX4_integrate 5 = .ok (.iconst 1, 1) := by decide +kernel
theorem dX4_integrate_6 : decode cX4_integrate 6 = .ok (.iadd, 1) := by decide +kernel
theorem dX4_integrate_7 : decode cX4_integrate 7 = .ok (.putfield 91, 3) := by decide +kernel
theorem dX4_integrate_10 : decode cX4_integrate 10 = .ok (.iload_n 2, 1) := by decide +kernel
theorem dX4_integrate_11 : decode cX4_integrate 11 = .ok (.ifCond .ne 12, 3) := by decide +kernel
theorem dX4_integrate_14 : decode cX4_integrate 14 = .ok (.aload_n 0, 1) := by decide +kernel
theorem dX4_integrate_15 : decode cX4_integrate 15 = .ok (.iload_n 1, 1) := by decide +kernel
theorem dX4_integrate_16 : decode cX4_integrate 16 = .ok (.iload_n 3, 1) := by decide +kernel
theorem dX4_integrate_17 : decode cX4_integrate 17 = .ok (.invokevirtual 94, 3) := by decide +kernel
theorem dX4_integrate_20 : decode cX4_integrate 20 = .ok (.goto 9, 3) := by decide +kernel
theorem dX4_integrate_23 : decode cX4_integrate 23 = .ok (.aload_n 0, 1) := by decide +kernel
theorem dX4_integrate_24 : decode cX4_integrate 24 = .ok (.iload_n 1, 1) := by decide +kernel
theorem dX4_integrate_25 : decode cX4_integrate 25 = .ok (.iload_n 3, 1) := by decide +kernel
theorem dX4_integrate_26 : decode cX4_integrate 26 = .ok (.invokevirtual 98, 3) := by decide +kernel
theorem dX4_integrate_29 : decode cX4_integrate 29 = .ok (.return_, 1) := by decide +kernel
set_option maxRecDepth 20000 in
theorem ggX4_woot_X4_place : GoodIn wsX4_woot wsX4_place := goodIn_r _ [10, 11, 5, 23, 24, 25, 26, 27, 28, 29, 30, 31, 32, 33, 34, 35, 36, 37, 38, 39, 40, 41, 42, 43, 44, 45, 46, 47, 48, 49, 50, 51] (by decide +kernel) (by decide +kernel)
set_option maxRecDepth 20000 in
theorem gX4_woot_X4_place : GoodIn wsX4_woot (wsV RX4 101 RX4 yX4_place wsX4_place) := goodIn_app (goodIn_of _ (by decide +kernel)) ggX4_woot_X4_place
set_option maxRecDepth 20000 in
theorem ggX4_woot_X4_mark : GoodIn wsX4_woot wsX4_mark := goodIn_r _ [15, 16, 17, 23, 24, 25, 26, 27, 28, 29, 30, 31, 32, 33, 34, 35, 36, 37, 38, 39, 40, 41, 42, 43, 44, 45, 46, 47, 48, 49, 50, 51] (by decide +kernel) (by decide +kernel)
set_option maxRecDepth 20000 in
theorem gX4_woot_X4_mark : GoodIn wsX4_woot (wsV RX4 108 RX4 yX4_mark wsX4_mark) := goodIn_app (goodIn_of _ (by decide +kernel)) ggX4_woot_X4_mark
set_option maxRecDepth 20000 in
theorem ggX4_woot_X4_lay : GoodIn wsX4_woot wsX4_lay := goodIn_r _ [21, 11, 5, 22, 23, 24, 25, 26, 27, 28, 29, 30, 31, 32, 33, 34, 35, 36, 37, 38, 39, 40, 41, 42, 43, 44, 45, 46, 47, 48, 49, 50, 51] (by decide +kernel) (by decide +kernel)
set_option maxRecDepth 20000 in
theorem gX4_woot_X4_lay : GoodIn wsX4_woot (wsV RX4 111 RX4 yX4_lay wsX4_lay) := goodIn_app (goodIn_of _ (by decide +kernel)) ggX4_woot_X4_lay
theorem dX4_woot_0 : decode cX4_woot 0 = .ok (.aload_n 0, 1) := by decide +kernel
theorem dX4_woot_1 : decode cX4_woot 1 = .ok (.iload_n 1, 1) := by decide +kernel
theorem dX4_woot_2 : decode cX4_woot 2 = .ok (.aload_n 0, 1) := by decide +kernel
theorem dX4_woot_3 : decode cX4_woot 3 = .ok (.getfield 22, 3) := by decide +kernel
