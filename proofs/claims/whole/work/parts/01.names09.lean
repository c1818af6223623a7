theorem dX4_character_134 : decode cX4_character 134 = .ok (.bipush 60, 2) := by decide +kernel
theorem dX4_character_136 : decode cX4_character 136 = .ok (.iload_n 1, 1) := by decide +kernel
theorem dX4_character_137 : decode cX4_character 137 = .ok (.imul, 1) := by decide +kernel
theorem dX4_character_138 : decode cX4_character 138 = .ok (.iload 6, 2) := by decide +kernel
theorem dX4_character_140 : decode cX4_character 140 = .ok (.iadd, 1) := by decide +kernel
theorem dX4_character_141 : decode cX4_character 141 = .ok (.iaload, 1) := by decide +kernel
theorem dX4_character_142 : decode cX4_character 142 = .ok (.invokevirtual 101, 3) := by decide +kernel
theorem dX4_character_145 : decode cX4_character 145 = .ok (.ireturn, 1) := by decide +kernel
theorem dX4_character_146 : decode cX4_character 146 = .ok (.iload 4, 2) := by decide +kernel
theorem dX4_character_148 : decode cX4_character 148 = .ok (.iconst 4, 1) := by decide +kernel
theorem dX4_character_149 : decode cX4_character 149 = .ok (.if_icmp .ne 24, 3) := by decide +kernel
theorem dX4_character_152 : decode cX4_character 152 = .ok (.aload_n 0, 1) := by decide +kernel
theorem dX4_character_153 : decode cX4_character 153 = .ok (.iload 5, 2) := by decide +kernel
theorem dX4_character_155 : decode cX4_character 155 = .ok (.aload_n 0, 1) := by decide +kernel
theorem dX4_character_156 : decode cX4_character 156 = .ok (.getfield 25, 3) := by decide +kernel
theorem dX4_character_159 : decode cX4_character 159 = .ok (.bipush 60, 2) := by decide +kernel
theorem dX4_character_161 : decode cX4_character 161 = .ok (.iload_n 1, 1) := by decide +kernel
theorem dX4_character_162 : decode cX4_character 162 = .ok (.imul, 1) := by decide +kernel
theorem dX4_character_163 : decode cX4_character 163 = .ok (.iload 6, 2) := by decide +kernel
theorem dX4_character_165 : decode cX4_character 165 = .ok (.iadd, 1) := by decide +kernel
theorem dX4_character_166 : decode cX4_character 166 = .ok (.iaload, 1) := by decide +kernel
theorem dX4_character_167 : decode cX4_character 167 = .ok (.invokevirtual 101, 3) := by decide +kernel
theorem dX4_character_170 : decode cX4_character 170 = .ok (.goto 4, 3) := by decide +kernel
theorem dX4_character_173 : decode cX4_character 173 = .ok (.iconst (-1), 1) := by decide +kernel
theorem dX4_character_174 : decode cX4_character 174 = .ok (.ireturn, 1) := by decide +kernel
set_option maxRecDepth 20000 in
theorem ggX4_write_X4_isText : GoodIn wsX4_write wsX4_isText := goodIn_r _ [12] (by decide +kernel) (by decide +kernel)
set_option maxRecDepth 20000 in
theorem gX4_write_X4_isText : GoodIn wsX4_write (wsV RX4 132 RX4 yX4_isText wsX4_isText) := goodIn_app (goodIn_of _ (by decide +kernel)) ggX4_write_X4_isText
set_option maxRecDepth 20000 in
theorem ggX4_write_X4_isSite : GoodIn wsX4_write wsX4_isSite := goodIn_r _ [16] (by decide +kernel) (by decide +kernel)
set_option maxRecDepth 20000 in
theorem gX4_write_X4_isSite : GoodIn wsX4_write (wsV RX4 136 RX4 yX4_isSite wsX4_isSite) := goodIn_app (goodIn_of _ (by decide +kernel)) ggX4_write_X4_isSite
theorem dX4_write_0 : decode cX4_write 0 = .ok (.aload_n 0, 1) := by decide +kernel
theorem dX4_write_1 : decode cX4_write 1 = .ok (.iconst 0, 1) := by decide +kernel
theorem dX4_write_2 : decode cX4_write 2 = .ok (.putfield 87, 3) := by decide +kernel
theorem dX4_write_5 : decode cX4_write 5 = .ok (.aload_n 0, 1) := by decide +kernel
theorem dX4_write_6 : decode cX4_write 6 = .ok (.iload_n 1, 1) := by decide +kernel
theorem dX4_write_7 : decode cX4_write 7 = .ok (.invokevirtual 132, 3) := by decide +kernel
theorem dX4_write_10 : decode cX4_write 10 = .ok (.ifCond .eq 11, 3) := by decide +kernel
theorem dX4_write_13 : decode cX4_write 13 = .ok (.aload_n 0, 1) := by decide +kernel
theorem dX4_write_14 : decode cX4_write 14 = .ok (.iload_n 2, 1) := by decide +kernel
theorem dX4_write_15 : decode cX4_write 15 = .ok (.invokevirtual 136, 3) := by decide +kernel
theorem dX4_write_18 : decode cX4_write 18 = .ok (.ifCond .ne 5, 3) := by decide +kernel
theorem dX4_write_21 : decode cX4_write 21 = .ok (.iconst (-1), 1) := by decide +kernel
theorem dX4_write_22 : decode cX4_write 22 = .ok (.ireturn, 1) := by decide +kernel
theorem dX4_write_23 : decode cX4_write 23 = .ok (.iconst 5, 1) := by decide +kernel
theorem dX4_write_24 : decode cX4_write 24 = .ok (.iload_n 1, 1) := by decide +kernel
theorem dX4_write_25 : decode cX4_write 25 = .ok (.imul, 1) := by decide +kernel
theorem dX4_write_26 : decode cX4_write 26 = .ok (.iload_n 2, 1) := by decide +kernel
theorem dX4_write_27 : decode cX4_write 27 = .ok (.iadd, 1) := by decide +kernel
theorem dX4_write_28 : decode cX4_write 28 = .ok (.istore_n 3, 1) := by decide +kernel
theorem dX4_write_29 : decode cX4_write 29 = .ok (.aload_n 0, 1) := by decide +kernel
theorem dX4_write_30 : decode cX4_write 30 = .ok (.iconst 0, 1) := by decide +kernel
theorem dX4_write_31 : decode cX4_write 31 = .ok (.putfield 167, 3) := by decide +kernel
theorem dX4_write_34 : decode cX4_write 34 = .ok (.iconst 0, 1) := by decide +kernel
theorem dX4_write_35 : decode cX4_write 35 = .ok (.istore 4, 2) := by decide +kernel
theorem dX4_write_37 : decode cX4_write 37 = .ok (.iload 4, 2) := by decide +kernel
theorem dX4_write_39 : decode cX4_write 39 = .ok (.aload_n 0, 1) := by decide +kernel
theorem dX4_write_40 : decode cX4_write 40 = .ok (.getfield 50, 3) := by decide +kernel
theorem dX4_write_43 : decode cX4_write 43 = .ok (.iload_n 3, 1) := by decide +kernel
theorem dX4_write_44 : decode cX4_write 44 = .ok (.iaload, 1) := by decide +kernel
theorem dX4_write_45 : decode cX4_write 45 = .ok (.if_icmp .ge 72, 3) := by decide +kernel
theorem dX4_write_48 : decode cX4_write 48 = .ok (.aload_n 0, 1) := by decide +kernel
theorem dX4_write_49 : decode cX4_write 49 = .ok (.getfield 47, 3) := by decide +kernel
theorem dX4_write_52 : decode cX4_write 52 = .ok (.bipush 60, 2) := by decide +kernel
theorem dX4_write_54 : decode cX4_write 54 = .ok (.iload_n 3, 1) := by decide +kernel
theorem dX4_write_55 : decode cX4_write 55 = .ok (.imul, 1) := by decide +kernel
theorem dX4_write_56 : decode cX4_write 56 = .ok (.iload 4, 2) := by decide +kernel
theorem dX4_write_58 : decode cX4_write 58 = .ok (.iadd, 1) := by decide +kernel
theorem dX4_write_59 : decode cX4_write 59 = .ok (.iaload, 1) := by decide +kernel
theorem dX4_write_60 : decode cX4_write 60 = .ok (.istore 5, 2) := by decide +kernel
theorem dX4_write_62 : decode cX4_write 62 = .ok (.aload_n 0, 1) := by decide +kernel
theorem dX4_write_63 : decode cX4_write 63 = .ok (.getfield 56, 3) := by decide +kernel
theorem dX4_write_66 : decode cX4_write 66 = .ok (.bipush 60, 2) := by decide +kernel
theorem dX4_write_68 : decode cX4_write 68 = .ok (.iload_n 3, 1) := by decide +kernel
theorem dX4_write_69 : decode cX4_write 69 = .ok (.imul, 1) := by decide +kernel
theorem dX4_write_70 : decode cX4_write 70 = .ok (.iload 5, 2) := by decide +kernel
theorem dX4_write_72 : decode cX4_write 72 = .ok (.iadd, 1) := by decide +kernel
theorem dX4_write_73 : decode cX4_write 73 = .ok (.baload, 1) := by decide +kernel
theorem dX4_write_74 : decode cX4_write 74 = .ok (.ifCond .eq 6, 3) := by decide +kernel
theorem dX4_write_77 : decode cX4_write 77 = .ok (.goto 34, 3) := by decide +kernel
theorem dX4_write_80 : decode cX4_write 80 = .ok (.aload_n 0, 1) := by decide +kernel
theorem dX4_write_81 : decode cX4_write 81 = .ok (.getfield 65, 3) := by decide +kernel
theorem dX4_write_84 : decode cX4_write 84 = .ok (.aload_n 0, 1) := by decide +kernel
theorem dX4_write_85 : decode cX4_write 85 = .ok (.getfield 167, 3) := by decide +kernel
theorem dX4_write_88 : decode cX4_write 88 = .ok (.aload_n 0, 1) := by decide +kernel
theorem dX4_write_89 : decode cX4_write 89 = .ok (.getfield 19, 3) := by decide +kernel
theorem dX4_write_92 : decode cX4_write 92 = .ok (.bipush 60, 2) := by decide +kernel
theorem dX4_write_94 : decode cX4_write 94 = .ok (.iload_n 1, 1) := by decide +kernel
theorem dX4_write_95 : decode cX4_write 95 = .ok (.imul, 1) := by decide +kernel
theorem dX4_write_96 : decode cX4_write 96 = .ok (.iload 5, 2) := by decide +kernel
theorem dX4_write_98 : decode cX4_write 98 = .ok (.iadd, 1) := by decide +kernel
theorem dX4_write_99 : decode cX4_write 99 = .ok (.iaload, 1) := by decide +kernel
theorem dX4_write_100 : decode cX4_write 100 = .ok (.iastore, 1) := by decide +kernel
theorem dX4_write_101 : decode cX4_write 101 = .ok (.aload_n 0, 1) := by decide +kernel
theorem dX4_write_102 : decode cX4_write 102 = .ok (.aload_n 0, 1) := by decide +kernel
theorem dX4_write_103 : decode cX4_write 103 = .ok (.getfield 167, 3) := by decide +kernel
theorem dX4_write_106 : decode cX4_write 106 = .ok (.iconst 1, 1) := by decide +kernel
theorem dX4_write_107 : decode cX4_write 107 = .ok (.iadd, 1) := by decide +kernel
theorem dX4_write_108 : decode cX4_write 108 = .ok (.putfield 167, 3) := by decide +kernel
theorem dX4_write_111 : decode cX4_write 111 = .ok (.iinc 4 1, 3) := by decide +kernel
theorem dX4_write_114 : decode cX4_write 114 = .ok (.goto (-77), 3) := by decide +kernel
theorem dX4_write_117 : decode cX4_write 117 = .ok (.aload_n 0, 1) := by decide +kernel
theorem dX4_write_118 : decode cX4_write 118 = .ok (.getfield 167, 3) := by decide +kernel
theorem dX4_write_121 : decode cX4_write 121 = .ok (.ireturn, 1) := by decide +kernel
theorem dX4_out_0 : decode cX4_out 0 = .ok (.aload_n 0, 1) := by decide +kernel
theorem dX4_out_1 : decode cX4_out 1 = .ok (.iconst 0, 1) := by decide +kernel
theorem dX4_out_2 : decode cX4_out 2 = .ok (.putfield 87, 3) := by decide +kernel
theorem dX4_out_5 : decode cX4_out 5 = .ok (.iload_n 1, 1) := by decide +kernel
theorem dX4_out_6 : decode cX4_out 6 = .ok (.ifCond .lt 20, 3) := by decide +kernel
theorem dX4_out_9 : decode cX4_out 9 = .ok (.iload_n 1, 1) := by decide +kernel
theorem dX4_out_10 : decode cX4_out 10 = .ok (.aload_n 0, 1) := by decide +kernel
theorem dX4_out_11 : decode cX4_out 11 = .ok (.getfield 167, 3) := by decide +kernel
theorem dX4_out_14 : decode cX4_out 14 = .ok (.if_icmp .ge 12, 3) := by decide +kernel
theorem dX4_out_17 : decode cX4_out 17 = .ok (.aload_n 0, 1) := by decide +kernel
theorem dX4_out_18 : decode cX4_out 18 = .ok (.getfield 65, 3) := by decide +kernel
theorem dX4_out_21 : decode cX4_out 21 = .ok (.iload_n 1, 1) := by decide +kernel
theorem dX4_out_22 : decode cX4_out 22 = .ok (.iaload, 1) := by decide +kernel
theorem dX4_out_23 : decode cX4_out 23 = .ok (.goto 4, 3) := by decide +kernel
theorem dX4_out_26 : decode cX4_out 26 = .ok (.iconst (-1), 1) := by decide +kernel
theorem dX4_out_27 : decode cX4_out 27 = .ok (.ireturn, 1) := by decide +kernel
theorem dX4_isSame_0 : decode cX4_isSame 0 = .ok (.aload_n 0, 1) := by decide +kernel
theorem dX4_isSame_1 : decode cX4_isSame 1 = .ok (.getfield 50, 3) := by decide +kernel
theorem dX4_isSame_4 : decode cX4_isSame 4 = .ok (.iload_n 1, 1) := by decide +kernel
theorem dX4_isSame_5 : decode cX4_isSame 5 = .ok (.iaload, 1) := by decide +kernel
theorem dX4_isSame_6 : decode cX4_isSame 6 = .ok (.aload_n 0, 1) := by decide +kernel
theorem dX4_isSame_7 : decode cX4_isSame 7 = .ok (.getfield 50, 3) := by decide +kernel
theorem dX4_isSame_10 : decode cX4_isSame 10 = .ok (.iload_n 2, 1) := by decide +kernel
theorem dX4_isSame_11 : decode cX4_isSame 11 = .ok (.iaload, 1) := by decide +kernel
theorem dX4_isSame_12 : decode cX4_isSame 12 = .ok (.if_icmp .eq 5, 3) := by decide +kernel
theorem dX4_isSame_15 : decode cX4_isSame 15 = .ok (.iconst 0, 1) := by decide +kernel
theorem dX4_isSame_16 : decode cX4_isSame 16 = .ok (.ireturn, 1) := by decide +kernel
theorem dX4_isSame_17 : decode cX4_isSame 17 = .ok (.iconst 0, 1) := by decide +kernel
theorem dX4_isSame_18 : decode cX4_isSame 18 = .ok (.istore_n 3, 1) := by decide +kernel
theorem dX4_isSame_19 : decode cX4_isSame 19 = .ok (.iload_n 3, 1) := by decide +kernel
theorem dX4_isSame_20 : decode cX4_isSame 20 = .ok (.aload_n 0, 1) := by decide +kernel
theorem dX4_isSame_21 : decode cX4_isSame 21 = .ok (.getfield 50, 3) := by decide +kernel
theorem dX4_isSame_24 : decode cX4_isSame 24 = .ok (.iload_n 1, 1) := by decide +kernel
theorem dX4_isSame_25 : decode cX4_isSame 25 = .ok (.iaload, 1) := by decide +kernel
theorem dX4_isSame_26 : decode cX4_isSame 26 = .ok (.if_icmp .ge 67, 3) := by decide +kernel
theorem dX4_isSame_29 : decode cX4_isSame 29 = .ok (.aload_n 0, 1) := by decide +kernel
theorem dX4_isSame_30 : decode cX4_isSame 30 = .ok (.getfield 47, 3) := by decide +kernel
theorem dX4_isSame_33 : decode cX4_isSame 33 = .ok (.bipush 60, 2) := by decide +kernel
theorem dX4_isSame_35 : decode cX4_isSame 35 = .ok (.iload_n 1, 1) := by decide +kernel
theorem dX4_isSame_36 : decode cX4_isSame 36 = .ok (.imul, 1) := by decide +kernel
theorem dX4_isSame_37 : decode cX4_isSame 37 = .ok (.iload_n 3, 1) := by decide +kernel
theorem dX4_isSame_38 : decode cX4_isSame 38 = .ok (.iadd, 1) := by decide +kernel
theorem dX4_isSame_39 : decode cX4_isSame 39 = .ok (.iaload, 1) := by decide +kernel
theorem dX4_isSame_40 : decode cX4_isSame 40 = .ok (.istore 4, 2) := by decide +kernel
theorem dX4_isSame_42 : decode cX4_isSame 42 = .ok (.aload_n 0, 1) := by decide +kernel
theorem dX4_isSame_43 : decode cX4_isSame 43 = .ok (.getfield 47, 3) := by decide +kernel
theorem dX4_isSame_46 : decode cX4_isSame 46 = .ok (.bipush 60, 2) := by decide +kernel
theorem dX4_isSame_48 : decode cX4_isSame 48 = .ok (.iload_n 2, 1) := by decide +kernel
theorem dX4_isSame_49 : decode cX4_isSame 49 = .ok (.imul, 1) := by decide +kernel
theorem dX4_isSame_50 : decode cX4_isSame 50 = .ok (.iload_n 3, 1) := by decide +kernel
theorem dX4_isSame_51 : decode cX4_isSame 51 = .ok (.iadd, 1) := by decide +kernel
theorem dX4_isSame_52 : decode cX4_isSame 52 = .ok (.iaload, 1) := by decide +kernel
theorem dX4_isSame_53 : decode cX4_isSame 53 = .ok (.iload 4, 2) := by decide +kernel
theorem dX4_isSame_55 : decode cX4_isSame 55 = .ok (.if_icmp .ne 30, 3) := by decide +kernel
theorem dX4_isSame_58 : decode cX4_isSame 58 = .ok (.aload_n 0, 1) := by decide +kernel
theorem dX4_isSame_59 : decode cX4_isSame 59 = .ok (.getfield 56, 3) := by decide +kernel
theorem dX4_isSame_62 : decode cX4_isSame 62 = .ok (.bipush 60, 2) := by decide +kernel
theorem dX4_isSame_64 : decode cX4_isSame 64 = .ok (.iload_n 1, 1) := by decide +kernel
theorem dX4_isSame_65 : decode cX4_isSame 65 = .ok (.imul, 1) := by decide +kernel
theorem dX4_isSame_66 : decode cX4_isSame 66 = .ok (.iload 4, 2) := by decide +kernel
theorem dX4_isSame_68 : decode cX4_isSame 68 = .ok (.iadd, 1) := by decide +kernel
theorem dX4_isSame_69 : decode cX4_isSame 69 = .ok (.baload, 1) := by decide +kernel
theorem dX4_isSame_70 : decode cX4_isSame 70 = .ok (.aload_n 0, 1) := by decide +kernel
theorem dX4_isSame_71 : decode cX4_isSame 71 = .ok (.getfield 56, 3) := by decide +kernel
theorem dX4_isSame_74 : decode cX4_isSame 74 = .ok (.bipush 60, 2) := by decide +kernel
theorem dX4_isSame_76 : decode cX4_isSame 76 = .ok (.iload_n 2, 1) := by decide +kernel
theorem dX4_isSame_77 : decode cX4_isSame 77 = .ok (.imul, 1) := by decide +kernel
theorem dX4_isSame_78 : decode cX4_isSame 78 = .ok (.iload 4, 2) := by decide +kernel
theorem dX4_isSame_80 : decode cX4_isSame 80 = .ok (.iadd, 1) := by decide +kernel
theorem dX4_isSame_81 : decode cX4_isSame 81 = .ok (.baload, 1) := by decide +kernel
theorem dX4_isSame_82 : decode cX4_isSame 82 = .ok (.if_icmp .eq 5, 3) := by decide +kernel
theorem dX4_isSame_85 : decode cX4_isSame 85 = .ok (.iconst 0, 1) := by decide +kernel
theorem dX4_isSame_86 : decode cX4_isSame 86 = .ok (.ireturn, 1) := by decide +kernel
theorem dX4_isSame_87 : decode cX4_isSame 87 = .ok (.iinc 3 1, 3) := by decide +kernel
theorem dX4_isSame_90 : decode cX4_isSame 90 = .ok (.goto (-71), 3) := by decide +kernel
theorem dX4_isSame_93 : decode cX4_isSame 93 = .ok (.iconst 1, 1) := by decide +kernel
theorem dX4_isSame_94 : decode cX4_isSame 94 = .ok (.ireturn, 1) := by decide +kernel
set_option maxRecDepth 20000 in
theorem ggX4_same_X4_isText : GoodIn wsX4_same wsX4_isText := goodIn_r _ [6] (by decide +kernel) (by decide +kernel)
set_option maxRecDepth 20000 in
theorem gX4_same_X4_isText : GoodIn wsX4_same (wsV RX4 132 RX4 yX4_isText wsX4_isText) := goodIn_app (goodIn_of _ (by decide +kernel)) ggX4_same_X4_isText
set_option maxRecDepth 20000 in
theorem ggX4_same_X4_isSite : GoodIn wsX4_same wsX4_isSite := goodIn_r _ [10] (by decide +kernel) (by decide +kernel)
set_option maxRecDepth 20000 in
theorem gX4_same_X4_isSite : GoodIn wsX4_same (wsV RX4 136 RX4 yX4_isSite wsX4_isSite) := goodIn_app (goodIn_of _ (by decide +kernel)) ggX4_same_X4_isSite
set_option maxRecDepth 20000 in
theorem ggX4_same_X4_isSame : GoodIn wsX4_same wsX4_isSame := goodIn_r _ [14, 15, 16, 17, 18, 19, 20, 21, 22, 23, 24, 25, 26, 27, 28, 29, 30, 31, 32, 33, 34, 35, 36, 37, 38, 39, 40, 41, 42, 43, 44, 45, 46] (by decide +kernel) (by decide +kernel)
set_option maxRecDepth 20000 in
theorem gX4_same_X4_isSame : GoodIn wsX4_same (wsV RX4 170 RX4 yX4_isSame wsX4_isSame) := goodIn_app (goodIn_of _ (by decide +kernel)) ggX4_same_X4_isSame
theorem dX4_same_0 : decode cX4_same 0 = .ok (.aload_n 0, 1) := by decide +kernel
theorem dX4_same_1 : decode cX4_same 1 = .ok (.iconst 0, 1) := by decide +kernel
theorem dX4_same_2 : decode cX4_same 2 = .ok (.putfield 87, 3) := by decide +kernel
theorem dX4_same_5 : decode cX4_same 5 = .ok (.aload_n 0, 1) := by decide +kernel
theorem dX4_same_6 : decode cX4_same 6 = .ok (.iload_n 1, 1) := by decide +kernel
theorem dX4_same_7 : decode cX4_same 7 = .ok (.invokevirtual 132, 3) := by decide +kernel
theorem dX4_same_10 : decode cX4_same 10 = .ok (.ifCond .eq 40, 3) := by decide +kernel
theorem dX4_same_13 : decode cX4_same 13 = .ok (.aload_n 0, 1) := by decide +kernel
theorem dX4_same_14 : decode cX4_same 14 = .ok (.iload_n 2, 1) := by decide +kernel
theorem dX4_same_15 : decode cX4_same 15 = .ok (.invokevirtual 136, 3) := by decide +kernel
theorem dX4_same_18 : decode cX4_same 18 = .ok (.ifCond .eq 32, 3) := by decide +kernel
theorem dX4_same_21 : decode cX4_same 21 = .ok (.aload_n 0, 1) := by decide +kernel
theorem dX4_same_22 : decode cX4_same 22 = .ok (.iload_n 3, 1) := by decide +kernel
theorem dX4_same_23 : decode cX4_same 23 = .ok (.invokevirtual 136, 3) := by decide +kernel
theorem dX4_same_26 : decode cX4_same 26 = .ok (.ifCond .eq 24, 3) := by decide +kernel
theorem dX4_same_29 : decode cX4_same 29 = .ok (.aload_n 0, 1) := by decide +kernel
theorem dX4_same_30 : decode cX4_same 30 = .ok (.iconst 5, 1) := by decide +kernel
theorem dX4_same_31 : decode cX4_same 31 = .ok (.iload_n 1, 1) := by decide +kernel
theorem dX4_same_32 : decode cX4_same 32 = .ok (.imul, 1) := by decide +kernel
theorem dX4_same_33 : decode cX4_same 33 = .ok (.iload_n 2, 1) := by decide +kernel
theorem dX4_same_34 : decode cX4_same 34 = .ok (.iadd, 1) := by decide +kernel
theorem dX4_same_35 : decode cX4_same 35 = .ok (.iconst 5, 1) := by decide +kernel
theorem dX4_same_36 : decode cX4_same 36 = .ok (.iload_n 1, 1) := by decide +kernel
theorem dX4_same_37 : decode cX4_same 37 = .ok (.imul, 1) := by decide +kernel
theorem dX4_same_38 : decode cX4_same 38 = .ok (.iload_n 3, 1) := by decide +kernel
theorem dX4_same_39 : decode cX4_same 39 = .ok (.iadd, 1) := by decide +kernel
theorem dX4_same_40 : decode cX4_same 40 = .ok (.invokevirtual 170, 3) := by decide +kernel
theorem dX4_same_43 : decode cX4_same 43 = .ok (.ifCond .eq 7, 3) := by decide +kernel
theorem dX4_same_46 : decode cX4_same 46 = .ok (.iconst 1, 1) := by decide +kernel
theorem dX4_same_47 : decode cX4_same 47 = .ok (.goto 4, 3) := by decide +kernel
theorem dX4_same_50 : decode cX4_same 50 = .ok (.iconst 0, 1) := by decide +kernel
theorem dX4_same_51 : decode cX4_same 51 = .ok (.ireturn, 1) := by decide +kernel
set_option maxRecDepth 20000 in
theorem ggX4_shuffle_X4_isText : GoodIn wsX4_shuffle wsX4_isText := goodIn_r _ [13] (by decide +kernel) (by decide +kernel)
set_option maxRecDepth 20000 in
theorem gX4_shuffle_X4_isText : GoodIn wsX4_shuffle (wsV RX4 132 RX4 yX4_isText wsX4_isText) := goodIn_app (goodIn_of _ (by decide +kernel)) ggX4_shuffle_X4_isText
set_option maxRecDepth 20000 in
theorem ggX4_shuffle_X4_isSite : GoodIn wsX4_shuffle wsX4_isSite := goodIn_r _ [17] (by decide +kernel) (by decide +kernel)
set_option maxRecDepth 20000 in
theorem gX4_shuffle_X4_isSite : GoodIn wsX4_shuffle (wsV RX4 136 RX4 yX4_isSite wsX4_isSite) := goodIn_app (goodIn_of _ (by decide +kernel)) ggX4_shuffle_X4_isSite
set_option maxRecDepth 20000 in
theorem ggX4_shuffle_X4_hears : GoodIn wsX4_shuffle wsX4_hears := goodIn_r _ [21, 5, 6, 22, 23, 24, 12, 25, 26, 27, 28, 29, 30, 31, 32, 33, 3, 34, 35, 36, 37, 4, 38, 39, 40, 41, 42, 43, 44, 45, 46, 47, 48, 49, 50, 51, 52, 53, 2, 54, 55, 56, 57, 58, 59, 60, 61, 62, 63, 64, 65, 66, 67, 68, 69, 70, 71, 72, 73, 82, 83, 84, 85, 86, 87, 88, 89, 90, 91, 92, 93, 94, 95, 96, 97, 98, 99, 100, 101, 102, 103, 104, 105, 106, 107, 108, 109, 110] (by decide +kernel) (by decide +kernel)
set_option maxRecDepth 20000 in
theorem gX4_shuffle_X4_hears : GoodIn wsX4_shuffle (wsV RX4 153 RX4 yX4_hears wsX4_hears) := goodIn_app (goodIn_of _ (by decide +kernel)) ggX4_shuffle_X4_hears
set_option maxRecDepth 20000 in
theorem ggX4_shuffle_X4_count : GoodIn wsX4_shuffle wsX4_count := goodIn_r _ [77, 6, 5, 82, 83, 84, 85, 86, 87, 88, 89, 90, 91, 92, 93, 94, 95, 96, 97, 98, 99, 100, 101, 102, 103, 104, 105, 106, 107, 108, 109, 110] (by decide +kernel) (by decide +kernel)
set_option maxRecDepth 20000 in
theorem gX4_shuffle_X4_count : GoodIn wsX4_shuffle (wsV RX4 164 RX4 yX4_count wsX4_count) := goodIn_app (goodIn_of _ (by decide +kernel)) ggX4_shuffle_X4_count
set_option maxRecDepth 20000 in
theorem ggX4_shuffle_X4_isSame : GoodIn wsX4_shuffle wsX4_isSame := goodIn_r _ [81, 2, 49, 4, 82, 83, 84, 85, 86, 87, 88, 89, 90, 91, 92, 93, 94, 95, 96, 97, 98, 99, 100, 101, 102, 103, 104, 105, 106, 107, 108, 109, 110] (by decide +kernel) (by decide +kernel)
set_option maxRecDepth 20000 in
theorem gX4_shuffle_X4_isSame : GoodIn wsX4_shuffle (wsV RX4 170 RX4 yX4_isSame wsX4_isSame) := goodIn_app (goodIn_of _ (by decide +kernel)) ggX4_shuffle_X4_isSame
theorem dX4_shuffle_0 : decode cX4_shuffle 0 = .ok (.aload_n 0, 1) := by decide +kernel
theorem dX4_shuffle_1 : decode cX4_shuffle 1 = .ok (.iconst 0, 1) := by decide +kernel
theorem dX4_shuffle_2 : decode cX4_shuffle 2 = .ok (.putfield 87, 3) := by decide +kernel
theorem dX4_shuffle_5 : decode cX4_shuffle 5 = .ok (.aload_n 0, 1) := by decide +kernel
theorem dX4_shuffle_6 : decode cX4_shuffle 6 = .ok (.iload_n 1, 1) := by decide +kernel
theorem dX4_shuffle_7 : decode cX4_shuffle 7 = .ok (.invokevirtual 132, 3) := by decide +kernel
theorem dX4_shuffle_10 : decode cX4_shuffle 10 = .ok (.ifCond .eq 11, 3) := by decide +kernel
theorem dX4_shuffle_13 : decode cX4_shuffle 13 = .ok (.aload_n 0, 1) := by decide +kernel
theorem dX4_shuffle_14 : decode cX4_shuffle 14 = .ok (.iload_n 2, 1) := by decide +kernel
theorem dX4_shuffle_15 : decode cX4_shuffle 15 = .ok (.invokevirtual 136, 3) := by decide +kernel
theorem dX4_shuffle_18 : decode cX4_shuffle 18 = .ok (.ifCond .ne 5, 3) := by decide +kernel
theorem dX4_shuffle_21 : decode cX4_shuffle 21 = .ok (.iconst 0, 1) := by decide +kernel
theorem dX4_shuffle_22 : decode cX4_shuffle 22 = .ok (.ireturn, 1) := by decide +kernel
theorem dX4_shuffle_23 : decode cX4_shuffle 23 = .ok (.iconst 5, 1) := by decide +kernel
theorem dX4_shuffle_24 : decode cX4_shuffle 24 = .ok (.iload_n 1, 1) := by decide +kernel
theorem dX4_shuffle_25 : decode cX4_shuffle 25 = .ok (.imul, 1) := by decide +kernel
theorem dX4_shuffle_26 : decode cX4_shuffle 26 = .ok (.iload_n 2, 1) := by decide +kernel
theorem dX4_shuffle_27 : decode cX4_shuffle 27 = .ok (.iadd, 1) := by decide +kernel
theorem dX4_shuffle_28 : decode cX4_shuffle 28 = .ok (.istore 4, 2) := by decide +kernel
theorem dX4_shuffle_30 : decode cX4_shuffle 30 = .ok (.aload_n 0, 1) := by decide +kernel
theorem dX4_shuffle_31 : decode cX4_shuffle 31 = .ok (.getfield 50, 3) := by decide +kernel
theorem dX4_shuffle_34 : decode cX4_shuffle 34 = .ok (.bipush 10, 2) := by decide +kernel
theorem dX4_shuffle_36 : decode cX4_shuffle 36 = .ok (.iconst 0, 1) := by decide +kernel
theorem dX4_shuffle_37 : decode cX4_shuffle 37 = .ok (.iastore, 1) := by decide +kernel
theorem dX4_shuffle_38 : decode cX4_shuffle 38 = .ok (.iconst 0, 1) := by decide +kernel
theorem dX4_shuffle_39 : decode cX4_shuffle 39 = .ok (.istore 5, 2) := by decide +kernel
theorem dX4_shuffle_41 : decode cX4_shuffle 41 = .ok (.iload 5, 2) := by decide +kernel
theorem dX4_shuffle_43 : decode cX4_shuffle 43 = .ok (.bipush 60, 2) := by decide +kernel
theorem dX4_shuffle_45 : decode cX4_shuffle 45 = .ok (.if_icmp .ge 33, 3) := by decide +kernel
theorem dX4_shuffle_48 : decode cX4_shuffle 48 = .ok (.aload_n 0, 1) := by decide +kernel
theorem dX4_shuffle_49 : decode cX4_shuffle 49 = .ok (.getfield 53, 3) := by decide +kernel
theorem dX4_shuffle_52 : decode cX4_shuffle 52 = .ok (.sipush 600, 3) := by decide +kernel
theorem dX4_shuffle_55 : decode cX4_shuffle 55 = .ok (.iload 5, 2) := by decide +kernel
theorem dX4_shuffle_57 : decode cX4_shuffle 57 = .ok (.iadd, 1) := by decide +kernel
theorem dX4_shuffle_58 : decode cX4_shuffle 58 = .ok (.iconst 0, 1) := by decide +kernel
theorem dX4_shuffle_59 : decode cX4_shuffle 59 = .ok (.bastore, 1) := by decide +kernel
theorem dX4_shuffle_60 : decode cX4_shuffle 60 = .ok (.aload_n 0, 1) := by decide +kernel
theorem dX4_shuffle_61 : decode cX4_shuffle 61 = .ok (.getfield 56, 3) := by decide +kernel
theorem dX4_shuffle_64 : decode cX4_shuffle 64 = .ok (.sipush 600, 3) := by decide +kernel
theorem dX4_shuffle_67 : decode cX4_shuffle 67 = .ok (.iload 5, 2) := by decide +kernel
theorem dX4_shuffle_69 : decode cX4_shuffle 69 = .ok (.iadd, 1) := by decide +kernel
theorem dX4_shuffle_70 : decode cX4_shuffle 70 = .ok (.iconst 0, 1) := by decide +kernel
theorem dX4_shuffle_71 : decode cX4_shuffle 71 = .ok (.bastore, 1) := by decide +kernel
theorem dX4_shuffle_72 : decode cX4_shuffle 72 = .ok (.iinc 5 1, 3) := by decide +kernel
theorem dX4_shuffle_75 : decode cX4_shuffle 75 = .ok (.goto (-34), 3) := by decide +kernel
theorem dX4_shuffle_78 : decode cX4_shuffle 78 = .ok (.iconst 0, 1) := by decide +kernel
theorem dX4_shuffle_79 : decode cX4_shuffle 79 = .ok (.istore 5, 2) := by decide +kernel
theorem dX4_shuffle_81 : decode cX4_shuffle 81 = .ok (.iload 5, 2) := by decide +kernel
theorem dX4_shuffle_83 : decode cX4_shuffle 83 = .ok (.sipush 160, 3) := by decide +kernel
theorem dX4_shuffle_86 : decode cX4_shuffle 86 = .ok (.if_icmp .ge 21, 3) := by decide +kernel
theorem dX4_shuffle_89 : decode cX4_shuffle 89 = .ok (.aload_n 0, 1) := by decide +kernel
theorem dX4_shuffle_90 : decode cX4_shuffle 90 = .ok (.getfield 59, 3) := by decide +kernel
theorem dX4_shuffle_93 : decode cX4_shuffle 93 = .ok (.sipush 1600, 3) := by decide +kernel
theorem dX4_shuffle_96 : decode cX4_shuffle 96 = .ok (.iload 5, 2) := by decide +kernel
theorem dX4_shuffle_98 : decode cX4_shuffle 98 = .ok (.iadd, 1) := by decide +kernel
theorem dX4_shuffle_99 : decode cX4_shuffle 99 = .ok (.iconst 0, 1) := by decide +kernel
theorem dX4_shuffle_100 : decode cX4_shuffle 100 = .ok (.iastore, 1) := by decide +kernel
theorem dX4_shuffle_101 : decode cX4_shuffle 101 = .ok (.iinc 5 1, 3) := by decide +kernel
theorem dX4_shuffle_104 : decode cX4_shuffle 104 = .ok (.goto (-23), 3) := by decide +kernel
theorem dX4_shuffle_107 : decode cX4_shuffle 107 = .ok (.iconst 0, 1) := by decide +kernel
theorem dX4_shuffle_108 : decode cX4_shuffle 108 = .ok (.istore 5, 2) := by decide +kernel
theorem dX4_shuffle_110 : decode cX4_shuffle 110 = .ok (.iconst 0, 1) := by decide +kernel
theorem dX4_shuffle_111 : decode cX4_shuffle 111 = .ok (.istore 6, 2) := by decide +kernel
theorem dX4_shuffle_113 : decode cX4_shuffle 113 = .ok (.iload 6, 2) := by decide +kernel
theorem dX4_shuffle_115 : decode cX4_shuffle 115 = .ok (.aload_n 0, 1) := by decide +kernel
theorem dX4_shuffle_116 : decode cX4_shuffle 116 = .ok (.getfield 31, 3) := by decide +kernel
theorem dX4_shuffle_119 : decode cX4_shuffle 119 = .ok (.iload_n 1, 1) := by decide +kernel
theorem dX4_shuffle_120 : decode cX4_shuffle 120 = .ok (.iaload, 1) := by decide +kernel
theorem dX4_shuffle_121 : decode cX4_shuffle 121 = .ok (.if_icmp .ge 45, 3) := by decide +kernel
theorem dX4_shuffle_124 : decode cX4_shuffle 124 = .ok (.aload_n 0, 1) := by decide +kernel
theorem dX4_shuffle_125 : decode cX4_shuffle 125 = .ok (.getfield 59, 3) := by decide +kernel
theorem dX4_shuffle_128 : decode cX4_shuffle 128 = .ok (.sipush 160, 3) := by decide +kernel
theorem dX4_shuffle_131 : decode cX4_shuffle 131 = .ok (.iload 4, 2) := by decide +kernel
theorem dX4_shuffle_133 : decode cX4_shuffle 133 = .ok (.imul, 1) := by decide +kernel
theorem dX4_shuffle_134 : decode cX4_shuffle 134 = .ok (.iload 6, 2) := by decide +kernel
theorem dX4_shuffle_136 : decode cX4_shuffle 136 = .ok (.iadd, 1) := by decide +kernel
theorem dX4_shuffle_137 : decode cX4_shuffle 137 = .ok (.iaload, 1) := by decide +kernel
theorem dX4_shuffle_138 : decode cX4_shuffle 138 = .ok (.iconst 2, 1) := by decide +kernel
theorem dX4_shuffle_139 : decode cX4_shuffle 139 = .ok (.if_icmp .eq 6, 3) := by decide +kernel
theorem dX4_shuffle_142 : decode cX4_shuffle 142 = .ok (.goto 18, 3) := by decide +kernel
theorem dX4_shuffle_145 : decode cX4_shuffle 145 = .ok (.aload_n 0, 1) := by decide +kernel
theorem dX4_shuffle_146 : decode cX4_shuffle 146 = .ok (.getfield 77, 3) := by decide +kernel
theorem dX4_shuffle_149 : decode cX4_shuffle 149 = .ok (.iload 5, 2) := by decide +kernel
theorem dX4_shuffle_151 : decode cX4_shuffle 151 = .ok (.iload 6, 2) := by decide +kernel
theorem dX4_shuffle_153 : decode cX4_shuffle 153 = .ok (.iastore, 1) := by decide +kernel
theorem dX4_shuffle_154 : decode cX4_shuffle 154 = .ok (.iload 5, 2) := by decide +kernel
theorem dX4_shuffle_156 : decode cX4_shuffle 156 = .ok (.iconst 1, 1) := by decide +kernel
theorem dX4_shuffle_157 : decode cX4_shuffle 157 = .ok (.iadd, 1) := by decide +kernel
theorem dX4_shuffle_158 : decode cX4_shuffle 158 = .ok (.istore 5, 2) := by decide +kernel
theorem dX4_shuffle_160 : decode cX4_shuffle 160 = .ok (.iinc 6 1, 3) := by decide +kernel
theorem dX4_shuffle_163 : decode cX4_shuffle 163 = .ok (.goto (-50), 3) := by decide +kernel
theorem dX4_shuffle_166 : decode cX4_shuffle 166 = .ok (.iload_n 3, 1) := by decide +kernel
theorem dX4_shuffle_167 : decode cX4_shuffle 167 = .ok (.istore 6, 2) := by decide +kernel
theorem dX4_shuffle_169 : decode cX4_shuffle 169 = .ok (.iload 5, 2) := by decide +kernel
theorem dX4_shuffle_171 : decode cX4_shuffle 171 = .ok (.ifCond .le 87, 3) := by decide +kernel
theorem dX4_shuffle_174 : decode cX4_shuffle 174 = .ok (.iload 6, 2) := by decide +kernel
theorem dX4_shuffle_176 : decode cX4_shuffle 176 = .ok (.ldc 173, 2) := by decide +kernel
theorem dX4_shuffle_178 : decode cX4_shuffle 178 = .ok (.imul, 1) := by decide +kernel
theorem dX4_shuffle_179 : decode cX4_shuffle 179 = .ok (.sipush 12345, 3) := by decide +kernel
theorem dX4_shuffle_182 : decode cX4_shuffle 182 = .ok (.iadd, 1) := by decide +kernel
theorem dX4_shuffle_183 : decode cX4_shuffle 183 = .ok (.istore 6, 2) := by decide +kernel
theorem dX4_shuffle_185 : decode cX4_shuffle 185 = .ok (.iload 6, 2) := by decide +kernel
theorem dX4_shuffle_187 : decode cX4_shuffle 187 = .ok (.bipush 16, 2) := by decide +kernel
theorem dX4_shuffle_189 : decode cX4_shuffle 189 = .ok (.iushr, 1) := by decide +kernel
theorem dX4_shuffle_190 : decode cX4_shuffle 190 = .ok (.iload 5, 2) := by decide +kernel
theorem dX4_shuffle_192 : decode cX4_shuffle 192 = .ok (.irem, 1) := by decide +kernel
theorem dX4_shuffle_193 : decode cX4_shuffle 193 = .ok (.istore 7, 2) := by decide +kernel
theorem dX4_shuffle_195 : decode cX4_shuffle 195 = .ok (.aload_n 0, 1) := by decide +kernel
theorem dX4_shuffle_196 : decode cX4_shuffle 196 = .ok (.getfield 77, 3) := by decide +kernel
theorem dX4_shuffle_199 : decode cX4_shuffle 199 = .ok (.iload 7, 2) := by decide +kernel
theorem dX4_shuffle_201 : decode cX4_shuffle 201 = .ok (.iaload, 1) := by decide +kernel
theorem dX4_shuffle_202 : decode cX4_shuffle 202 = .ok (.istore 8, 2) := by decide +kernel
theorem dX4_shuffle_204 : decode cX4_shuffle 204 = .ok (.iload 7, 2) := by decide +kernel
theorem dX4_shuffle_206 : decode cX4_shuffle 206 = .ok (.istore 9, 2) := by decide +kernel
theorem dX4_shuffle_208 : decode cX4_shuffle 208 = .ok (.iload 9, 2) := by decide +kernel
theorem dX4_shuffle_210 : decode cX4_shuffle 210 = .ok (.iload 5, 2) := by decide +kernel
theorem dX4_shuffle_212 : decode cX4_shuffle 212 = .ok (.iconst 1, 1) := by decide +kernel
theorem dX4_shuffle_213 : decode cX4_shuffle 213 = .ok (.isub, 1) := by decide +kernel
theorem dX4_shuffle_214 : decode cX4_shuffle 214 = .ok (.if_icmp .ge 25, 3) := by decide +kernel
theorem dX4_shuffle_217 : decode cX4_shuffle 217 = .ok (.aload_n 0, 1) := by decide +kernel
theorem dX4_shuffle_218 : decode cX4_shuffle 218 = .ok (.getfield 77, 3) := by decide +kernel
theorem dX4_shuffle_221 : decode cX4_shuffle 221 = .ok (.iload 9, 2) := by decide +kernel
theorem dX4_shuffle_223 : decode cX4_shuffle 223 = .ok (.aload_n 0, 1) := by decide +kernel
theorem dX4_shuffle_224 : decode cX4_shuffle 224 = .ok (.getfield 77, 3) := by decide +kernel
theorem dX4_shuffle_227 : decode cX4_shuffle 227 = .ok (.iload 9, 2) := by decide +kernel
theorem dX4_shuffle_229 : decode cX4_shuffle 229 = .ok (.iconst 1, 1) := by decide +kernel
theorem dX4_shuffle_230 : decode cX4_shuffle 230 = .ok (.iadd, 1) := by decide +kernel
theorem dX4_shuffle_231 : decode cX4_shuffle 231 = .ok (.iaload, 1) := by decide +kernel
theorem dX4_shuffle_232 : decode cX4_shuffle 232 = .ok (.iastore, 1) := by decide +kernel
theorem dX4_shuffle_233 : decode cX4_shuffle 233 = .ok (.iinc 9 1, 3) := by decide +kernel
theorem dX4_shuffle_236 : decode cX4_shuffle 236 = .ok (.goto (-28), 3) := by decide +kernel
theorem dX4_shuffle_239 : decode cX4_shuffle 239 = .ok (.iload 5, 2) := by decide +kernel
theorem dX4_shuffle_241 : decode cX4_shuffle 241 = .ok (.iconst 1, 1) := by decide +kernel
theorem dX4_shuffle_242 : decode cX4_shuffle 242 = .ok (.isub, 1) := by decide +kernel
theorem dX4_shuffle_243 : decode cX4_shuffle 243 = .ok (.istore 5, 2) := by decide +kernel
theorem dX4_shuffle_245 : decode cX4_shuffle 245 = .ok (.aload_n 0, 1) := by decide +kernel
theorem dX4_shuffle_246 : decode cX4_shuffle 246 = .ok (.bipush 10, 2) := by decide +kernel
theorem dX4_shuffle_248 : decode cX4_shuffle 248 = .ok (.iload_n 1, 1) := by decide +kernel
theorem dX4_shuffle_249 : decode cX4_shuffle 249 = .ok (.iload 8, 2) := by decide +kernel
theorem dX4_shuffle_251 : decode cX4_shuffle 251 = .ok (.invokevirtual 153, 3) := by decide +kernel
theorem dX4_shuffle_254 : decode cX4_shuffle 254 = .ok (.pop, 1) := by decide +kernel
theorem dX4_shuffle_255 : decode cX4_shuffle 255 = .ok (.goto (-86), 3) := by decide +kernel
theorem dX4_shuffle_258 : decode cX4_shuffle 258 = .ok (.aload_n 0, 1) := by decide +kernel
theorem dX4_shuffle_259 : decode cX4_shuffle 259 = .ok (.bipush 10, 2) := by decide +kernel
theorem dX4_shuffle_261 : decode cX4_shuffle 261 = .ok (.iload_n 1, 1) := by decide +kernel
theorem dX4_shuffle_262 : decode cX4_shuffle 262 = .ok (.iconst 1, 1) := by decide +kernel
theorem dX4_shuffle_263 : decode cX4_shuffle 263 = .ok (.invokevirtual 164, 3) := by decide +kernel
theorem dX4_shuffle_266 : decode cX4_shuffle 266 = .ok (.ifCond .ne 18, 3) := by decide +kernel
theorem dX4_shuffle_269 : decode cX4_shuffle 269 = .ok (.aload_n 0, 1) := by decide +kernel
theorem dX4_shuffle_270 : decode cX4_shuffle 270 = .ok (.bipush 10, 2) := by decide +kernel
theorem dX4_shuffle_272 : decode cX4_shuffle 272 = .ok (.iload 4, 2) := by decide +kernel
theorem dX4_shuffle_274 : decode cX4_shuffle 274 = .ok (.invokevirtual 170, 3) := by decide +kernel
theorem dX4_shuffle_277 : decode cX4_shuffle 277 = .ok (.ifCond .eq 7, 3) := by decide +kernel
theorem dX4_shuffle_280 : decode cX4_shuffle 280 = .ok (.iconst 1, 1) := by decide +kernel
theorem dX4_shuffle_281 : decode cX4_shuffle 281 = .ok (.goto 4, 3) := by decide +kernel
theorem dX4_shuffle_284 : decode cX4_shuffle 284 = .ok (.iconst 0, 1) := by decide +kernel
theorem dX4_shuffle_285 : decode cX4_shuffle 285 = .ok (.ireturn, 1) := by decide +kernel
set_option maxRecDepth 20000 in
theorem ggX4_counts_X4_place : GoodIn wsX4_counts wsX4_place := goodIn_r _ [11, 1, 3, 12, 13, 14, 15, 16, 17, 18, 19, 20, 21, 22, 23, 24, 25, 26, 27, 28, 29, 30, 31, 32, 33, 34, 35, 36, 37, 38, 39, 40] (by decide +kernel) (by decide +kernel)
set_option maxRecDepth 20000 in
theorem gX4_counts_X4_place : GoodIn wsX4_counts (wsV RX4 101 RX4 yX4_place wsX4_place) := goodIn_app (goodIn_of _ (by decide +kernel)) ggX4_counts_X4_place
theorem dX4_counts_0 : decode cX4_counts 0 = .ok (.aload_n 0, 1) := by decide +kernel
theorem dX4_counts_1 : decode cX4_counts 1 = .ok (.getfield 50, 3) := by decide +kernel
theorem dX4_counts_4 : decode cX4_counts 4 = .ok (.iload_n 1, 1) := by decide +kernel
theorem dX4_counts_5 : decode cX4_counts 5 = .ok (.iaload, 1) := by decide +kernel
theorem dX4_counts_6 : decode cX4_counts 6 = .ok (.istore_n 3, 1) := by decide +kernel
theorem dX4_counts_7 : decode cX4_counts 7 = .ok (.iconst 0, 1) := by decide +kernel
theorem dX4_counts_8 : decode cX4_counts 8 = .ok (.istore 4, 2) := by decide +kernel
theorem dX4_counts_10 : decode cX4_counts 10 = .ok (.iload 4, 2) := by decide +kernel
theorem dX4_counts_12 : decode cX4_counts 12 = .ok (.iload_n 3, 1) := by decide +kernel
theorem dX4_counts_13 : decode cX4_counts 13 = .ok (.if_icmp .ge 17, 3) := by decide +kernel
theorem dX4_counts_16 : decode cX4_counts 16 = .ok (.aload_n 0, 1) := by decide +kernel
theorem dX4_counts_17 : decode cX4_counts 17 = .ok (.getfield 80, 3) := by decide +kernel
theorem dX4_counts_20 : decode cX4_counts 20 = .ok (.iload 4, 2) := by decide +kernel
theorem dX4_counts_22 : decode cX4_counts 22 = .ok (.iconst 0, 1) := by decide +kernel
theorem dX4_counts_23 : decode cX4_counts 23 = .ok (.iastore, 1) := by decide +kernel
theorem dX4_counts_24 : decode cX4_counts 24 = .ok (.iinc 4 1, 3) := by decide +kernel
theorem dX4_counts_27 : decode cX4_counts 27 = .ok (.goto (-17), 3) := by decide +kernel
theorem dX4_counts_30 : decode cX4_counts 30 = .ok (.iconst 0, 1) := by decide +kernel
theorem dX4_counts_31 : decode cX4_counts 31 = .ok (.istore 4, 2) := by decide +kernel
theorem dX4_counts_33 : decode cX4_counts 33 = .ok (.iload 4, 2) := by decide +kernel
theorem dX4_counts_35 : decode cX4_counts 35 = .ok (.iload_n 3, 1) := by decide +kernel
theorem dX4_counts_36 : decode cX4_counts 36 = .ok (.if_icmp .ge 112, 3) := by decide +kernel
theorem dX4_counts_39 : decode cX4_counts 39 = .ok (.bipush 60, 2) := by decide +kernel
theorem dX4_counts_41 : decode cX4_counts 41 = .ok (.iload_n 2, 1) := by decide +kernel
theorem dX4_counts_42 : decode cX4_counts 42 = .ok (.imul, 1) := by decide +kernel
theorem dX4_counts_43 : decode cX4_counts 43 = .ok (.aload_n 0, 1) := by decide +kernel
theorem dX4_counts_44 : decode cX4_counts 44 = .ok (.getfield 47, 3) := by decide +kernel
theorem dX4_counts_47 : decode cX4_counts 47 = .ok (.bipush 60, 2) := by decide +kernel
theorem dX4_counts_49 : decode cX4_counts 49 = .ok (.iload_n 1, 1) := by decide +kernel
theorem dX4_counts_50 : decode cX4_counts 50 = .ok (.imul, 1) := by decide +kernel
theorem dX4_counts_51 : decode cX4_counts 51 = .ok (.iload 4, 2) := by decide +kernel
theorem dX4_counts_53 : decode cX4_counts 53 = .ok (.iadd, 1) := by decide +kernel
theorem dX4_counts_54 : decode cX4_counts 54 = .ok (.iaload, 1) := by decide +kernel
theorem dX4_counts_55 : decode cX4_counts 55 = .ok (.iadd, 1) := by decide +kernel
theorem dX4_counts_56 : decode cX4_counts 56 = .ok (.istore 5, 2) := by decide +kernel
theorem dX4_counts_58 : decode cX4_counts 58 = .ok (.aload_n 0, 1) := by decide +kernel
theorem dX4_counts_59 : decode cX4_counts 59 = .ok (.getfield 22, 3) := by decide +kernel
theorem dX4_counts_62 : decode cX4_counts 62 = .ok (.iload 5, 2) := by decide +kernel
theorem dX4_counts_64 : decode cX4_counts 64 = .ok (.iaload, 1) := by decide +kernel
theorem dX4_counts_65 : decode cX4_counts 65 = .ok (.istore 6, 2) := by decide +kernel
theorem dX4_counts_67 : decode cX4_counts 67 = .ok (.aload_n 0, 1) := by decide +kernel
theorem dX4_counts_68 : decode cX4_counts 68 = .ok (.getfield 25, 3) := by decide +kernel
theorem dX4_counts_71 : decode cX4_counts 71 = .ok (.iload 5, 2) := by decide +kernel
theorem dX4_counts_73 : decode cX4_counts 73 = .ok (.iaload, 1) := by decide +kernel
theorem dX4_counts_74 : decode cX4_counts 74 = .ok (.istore 7, 2) := by decide +kernel
theorem dX4_counts_76 : decode cX4_counts 76 = .ok (.iload 6, 2) := by decide +kernel
theorem dX4_counts_78 : decode cX4_counts 78 = .ok (.iconst (-1), 1) := by decide +kernel
theorem dX4_counts_79 : decode cX4_counts 79 = .ok (.if_icmp .eq 27, 3) := by decide +kernel
theorem dX4_counts_82 : decode cX4_counts 82 = .ok (.aload_n 0, 1) := by decide +kernel
theorem dX4_counts_83 : decode cX4_counts 83 = .ok (.getfield 80, 3) := by decide +kernel
theorem dX4_counts_86 : decode cX4_counts 86 = .ok (.iload 4, 2) := by decide +kernel
theorem dX4_counts_88 : decode cX4_counts 88 = .ok (.aload_n 0, 1) := by decide +kernel
theorem dX4_counts_89 : decode cX4_counts 89 = .ok (.getfield 80, 3) := by decide +kernel
theorem dX4_counts_92 : decode cX4_counts 92 = .ok (.iload 4, 2) := by decide +kernel
theorem dX4_counts_94 : decode cX4_counts 94 = .ok (.iaload, 1) := by decide +kernel
theorem dX4_counts_95 : decode cX4_counts 95 = .ok (.iconst 1, 1) := by decide +kernel
theorem dX4_counts_96 : decode cX4_counts 96 = .ok (.aload_n 0, 1) := by decide +kernel
theorem dX4_counts_97 : decode cX4_counts 97 = .ok (.iload_n 1, 1) := by decide +kernel
theorem dX4_counts_98 : decode cX4_counts 98 = .ok (.iload 6, 2) := by decide +kernel
theorem dX4_counts_100 : decode cX4_counts 100 = .ok (.invokevirtual 101, 3) := by decide +kernel
theorem dX4_counts_103 : decode cX4_counts 103 = .ok (.ishl, 1) := by decide +kernel
theorem dX4_counts_104 : decode cX4_counts 104 = .ok (.ior, 1) := by decide +kernel
theorem dX4_counts_105 : decode cX4_counts 105 = .ok (.iastore, 1) := by decide +kernel
theorem dX4_counts_106 : decode cX4_counts 106 = .ok (.iload 7, 2) := by decide +kernel
theorem dX4_counts_108 : decode cX4_counts 108 = .ok (.bipush 60, 2) := by decide +kernel
theorem dX4_counts_110 : decode cX4_counts 110 = .ok (.if_icmp .eq 32, 3) := by decide +kernel
theorem dX4_counts_113 : decode cX4_counts 113 = .ok (.aload_n 0, 1) := by decide +kernel
theorem dX4_counts_114 : decode cX4_counts 114 = .ok (.getfield 80, 3) := by decide +kernel
theorem dX4_counts_117 : decode cX4_counts 117 = .ok (.aload_n 0, 1) := by decide +kernel
theorem dX4_counts_118 : decode cX4_counts 118 = .ok (.iload_n 1, 1) := by decide +kernel
theorem dX4_counts_119 : decode cX4_counts 119 = .ok (.iload 7, 2) := by decide +kernel
theorem dX4_counts_121 : decode cX4_counts 121 = .ok (.invokevirtual 101, 3) := by decide +kernel
theorem dX4_counts_124 : decode cX4_counts 124 = .ok (.aload_n 0, 1) := by decide +kernel
theorem dX4_counts_125 : decode cX4_counts 125 = .ok (.getfield 80, 3) := by decide +kernel
theorem dX4_counts_128 : decode cX4_counts 128 = .ok (.aload_n 0, 1) := by decide +kernel
theorem dX4_counts_129 : decode cX4_counts 129 = .ok (.iload_n 1, 1) := by decide +kernel
theorem dX4_counts_130 : decode cX4_counts 130 = .ok (.iload 7, 2) := by decide +kernel
theorem dX4_counts_132 : decode cX4_counts 132 = .ok (.invokevirtual 101, 3) := by decide +kernel
theorem dX4_counts_135 : decode cX4_counts 135 = .ok (.iaload, 1) := by decide +kernel
theorem dX4_counts_136 : decode cX4_counts 136 = .ok (.iconst 1, 1) := by decide +kernel
theorem dX4_counts_137 : decode cX4_counts 137 = .ok (.iload 4, 2) := by decide +kernel
theorem dX4_counts_139 : decode cX4_counts 139 = .ok (.ishl, 1) := by decide +kernel
theorem dX4_counts_140 : decode cX4_counts 140 = .ok (.ior, 1) := by decide +kernel
theorem dX4_counts_141 : decode cX4_counts 141 = .ok (.iastore, 1) := by decide +kernel
theorem dX4_counts_142 : decode cX4_counts 142 = .ok (.iinc 4 1, 3) := by decide +kernel
theorem dX4_counts_145 : decode cX4_counts 145 = .ok (.goto (-112), 3) := by decide +kernel
theorem dX4_counts_148 : decode cX4_counts 148 = .ok (.iconst 1, 1) := by decide +kernel
theorem dX4_counts_149 : decode cX4_counts 149 = .ok (.iload_n 3, 1) := by decide +kernel
theorem dX4_counts_150 : decode cX4_counts 150 = .ok (.ishl, 1) := by decide +kernel
theorem dX4_counts_151 : decode cX4_counts 151 = .ok (.iconst 1, 1) := by decide +kernel
theorem dX4_counts_152 : decode cX4_counts 152 = .ok (.isub, 1) := by decide +kernel
theorem dX4_counts_153 : decode cX4_counts 153 = .ok (.istore 4, 2) := by decide +kernel
theorem dX4_counts_155 : decode cX4_counts 155 = .ok (.aload_n 0, 1) := by decide +kernel
theorem dX4_counts_156 : decode cX4_counts 156 = .ok (.getfield 83, 3) := by decide +kernel
theorem dX4_counts_159 : decode cX4_counts 159 = .ok (.iload 4, 2) := by decide +kernel
theorem dX4_counts_161 : decode cX4_counts 161 = .ok (.lconst 1, 1) := by decide +kernel
theorem dX4_counts_162 : decode cX4_counts 162 = .ok (.lastore, 1) := by decide +kernel
theorem dX4_counts_163 : decode cX4_counts 163 = .ok (.iload 4, 2) := by decide +kernel
theorem dX4_counts_165 : decode cX4_counts 165 = .ok (.iconst 1, 1) := by decide +kernel
theorem dX4_counts_166 : decode cX4_counts 166 = .ok (.isub, 1) := by decide +kernel
theorem dX4_counts_167 : decode cX4_counts 167 = .ok (.istore 5, 2) := by decide +kernel
theorem dX4_counts_169 : decode cX4_counts 169 = .ok (.iload 5, 2) := by decide +kernel
theorem dX4_counts_171 : decode cX4_counts 171 = .ok (.ifCond .lt 78, 3) := by decide +kernel
theorem dX4_counts_174 : decode cX4_counts 174 = .ok (.lconst 0, 1) := by decide +kernel
theorem dX4_counts_175 : decode cX4_counts 175 = .ok (.lstore 6, 2) := by decide +kernel
theorem dX4_counts_177 : decode cX4_counts 177 = .ok (.iconst 0, 1) := by decide +kernel
theorem dX4_counts_178 : decode cX4_counts 178 = .ok (.istore 8, 2) := by decide +kernel
theorem dX4_counts_180 : decode cX4_counts 180 = .ok (.iload 8, 2) := by decide +kernel
theorem dX4_counts_182 : decode cX4_counts 182 = .ok (.iload_n 3, 1) := by decide +kernel
theorem dX4_counts_183 : decode cX4_counts 183 = .ok (.if_icmp .ge 51, 3) := by decide +kernel
theorem dX4_counts_186 : decode cX4_counts 186 = .ok (.iload 5, 2) := by decide +kernel
theorem dX4_counts_188 : decode cX4_counts 188 = .ok (.iload 8, 2) := by decide +kernel
theorem dX4_counts_190 : decode cX4_counts 190 = .ok (.ishr, 1) := by decide +kernel
theorem dX4_counts_191 : decode cX4_counts 191 = .ok (.iconst 1, 1) := by decide +kernel
theorem dX4_counts_192 : decode cX4_counts 192 = .ok (.iand, 1) := by decide +kernel
theorem dX4_counts_193 : decode cX4_counts 193 = .ok (.ifCond .ne 35, 3) := by decide +kernel
theorem dX4_counts_196 : decode cX4_counts 196 = .ok (.aload_n 0, 1) := by decide +kernel
theorem dX4_counts_197 : decode cX4_counts 197 = .ok (.getfield 80, 3) := by decide +kernel
theorem dX4_counts_200 : decode cX4_counts 200 = .ok (.iload 8, 2) := by decide +kernel
theorem dX4_counts_202 : decode cX4_counts 202 = .ok (.iaload, 1) := by decide +kernel
theorem dX4_counts_203 : decode cX4_counts 203 = .ok (.iload 5, 2) := by decide +kernel
theorem dX4_counts_205 : decode cX4_counts 205 = .ok (.iconst (-1), 1) := by decide +kernel
theorem dX4_counts_206 : decode cX4_counts 206 = .ok (.ixor, 1) := by decide +kernel
theorem dX4_counts_207 : decode cX4_counts 207 = .ok (.iand, 1) := by decide +kernel
theorem dX4_counts_208 : decode cX4_counts 208 = .ok (.ifCond .ne 20, 3) := by decide +kernel
theorem dX4_counts_211 : decode cX4_counts 211 = .ok (.lload 6, 2) := by decide +kernel
theorem dX4_counts_213 : decode cX4_counts 213 = .ok (.aload_n 0, 1) := by decide +kernel
theorem dX4_counts_214 : decode cX4_counts 214 = .ok (.getfield 83, 3) := by decide +kernel
theorem dX4_counts_217 : decode cX4_counts 217 = .ok (.iload 5, 2) := by decide +kernel
theorem dX4_counts_219 : decode cX4_counts 219 = .ok (.iconst 1, 1) := by decide +kernel
theorem dX4_counts_220 : decode cX4_counts 220 = .ok (.iload 8, 2) := by decide +kernel
theorem dX4_counts_222 : decode cX4_counts 222 = .ok (.ishl, 1) := by decide +kernel
theorem dX4_counts_223 : decode cX4_counts 223 = .ok (.ior, 1) := by decide +kernel
theorem dX4_counts_224 : decode cX4_counts 224 = .ok (.laload, 1) := by decide +kernel
theorem dX4_counts_225 : decode cX4_counts 225 = .ok (.ladd, 1) := by decide +kernel
theorem dX4_counts_226 : decode cX4_counts 226 = .ok (.lstore 6, 2) := by decide +kernel
theorem dX4_counts_228 : decode cX4_counts 228 = .ok (.iinc 8 1, 3) := by decide +kernel
theorem dX4_counts_231 : decode cX4_counts 231 = .ok (.goto (-51), 3) := by decide +kernel
theorem dX4_counts_234 : decode cX4_counts 234 = .ok (.aload_n 0, 1) := by decide +kernel
theorem dX4_counts_235 : decode cX4_counts 235 = .ok (.getfield 83, 3) := by decide +kernel
theorem dX4_counts_238 : decode cX4_counts 238 = .ok (.iload 5, 2) := by decide +kernel
theorem dX4_counts_240 : decode cX4_counts 240 = .ok (.lload 6, 2) := by decide +kernel
theorem dX4_counts_242 : decode cX4_counts 242 = .ok (.lastore, 1) := by decide +kernel
theorem dX4_counts_243 : decode cX4_counts 243 = .ok (.iinc 5 (-1), 3) := by decide +kernel
theorem dX4_counts_246 : decode cX4_counts 246 = .ok (.goto (-77), 3) := by decide +kernel
theorem dX4_counts_249 : decode cX4_counts 249 = .ok (.return_, 1) := by decide +kernel
set_option maxRecDepth 20000 in
theorem ggX4_orders_X4_isText : GoodIn wsX4_orders wsX4_isText := goodIn_r _ [9] (by decide +kernel) (by decide +kernel)
set_option maxRecDepth 20000 in
theorem gX4_orders_X4_isText : GoodIn wsX4_orders (wsV RX4 132 RX4 yX4_isText wsX4_isText) := goodIn_app (goodIn_of _ (by decide +kernel)) ggX4_orders_X4_isText
set_option maxRecDepth 20000 in
theorem ggX4_orders_X4_isSite : GoodIn wsX4_orders wsX4_isSite := goodIn_r _ [13] (by decide +kernel) (by decide +kernel)
set_option maxRecDepth 20000 in
theorem gX4_orders_X4_isSite : GoodIn wsX4_orders (wsV RX4 136 RX4 yX4_isSite wsX4_isSite) := goodIn_app (goodIn_of _ (by decide +kernel)) ggX4_orders_X4_isSite
set_option maxRecDepth 20000 in
theorem ggX4_orders_X4_counts : GoodIn wsX4_orders wsX4_counts := goodIn_r _ [17, 2, 18, 19, 20, 21, 4, 22, 23, 24, 8, 25, 26, 27, 28, 29, 30, 31, 32, 33, 34, 35, 36, 37, 38, 39, 40, 41, 42, 43, 44, 45, 46, 47, 48, 49, 50, 51, 52, 53, 54] (by decide +kernel) (by decide +kernel)
set_option maxRecDepth 20000 in
theorem gX4_orders_X4_counts : GoodIn wsX4_orders (wsV RX4 176 RX4 yX4_counts wsX4_counts) := goodIn_app (goodIn_of _ (by decide +kernel)) ggX4_orders_X4_counts
theorem dX4_orders_0 : decode cX4_orders 0 = .ok (.aload_n 0, 1) := by decide +kernel
theorem dX4_orders_1 : decode cX4_orders 1 = .ok (.iconst 0, 1) := by decide +kernel
theorem dX4_orders_2 : decode cX4_orders 2 = .ok (.putfield 87, 3) := by decide +kernel
theorem dX4_orders_5 : decode cX4_orders 5 = .ok (.aload_n 0, 1) := by decide +kernel
theorem dX4_orders_6 : decode cX4_orders 6 = .ok (.iload_n 1, 1) := by decide +kernel
theorem dX4_orders_7 : decode cX4_orders 7 = .ok (.invokevirtual 132, 3) := by decide +kernel
theorem dX4_orders_10 : decode cX4_orders 10 = .ok (.ifCond .eq 26, 3) := by decide +kernel
theorem dX4_orders_13 : decode cX4_orders 13 = .ok (.aload_n 0, 1) := by decide +kernel
theorem dX4_orders_14 : decode cX4_orders 14 = .ok (.iload_n 2, 1) := by decide +kernel
theorem dX4_orders_15 : decode cX4_orders 15 = .ok (.invokevirtual 136, 3) := by decide +kernel
theorem dX4_orders_18 : decode cX4_orders 18 = .ok (.ifCond .eq 18, 3) := by decide +kernel
theorem dX4_orders_21 : decode cX4_orders 21 = .ok (.aload_n 0, 1) := by decide +kernel
theorem dX4_orders_22 : decode cX4_orders 22 = .ok (.getfield 50, 3) := by decide +kernel
theorem dX4_orders_25 : decode cX4_orders 25 = .ok (.iconst 5, 1) := by decide +kernel
theorem dX4_orders_26 : decode cX4_orders 26 = .ok (.iload_n 1, 1) := by decide +kernel
theorem dX4_orders_27 : decode cX4_orders 27 = .ok (.imul, 1) := by decide +kernel
theorem dX4_orders_28 : decode cX4_orders 28 = .ok (.iload_n 2, 1) := by decide +kernel
theorem dX4_orders_29 : decode cX4_orders 29 = .ok (.iadd, 1) := by decide +kernel
theorem dX4_orders_30 : decode cX4_orders 30 = .ok (.iaload, 1) := by decide +kernel
theorem dX4_orders_31 : decode cX4_orders 31 = .ok (.bipush 12, 2) := by decide +kernel
theorem dX4_orders_33 : decode cX4_orders 33 = .ok (.if_icmp .le 7, 3) := by decide +kernel
theorem dX4_orders_36 : decode cX4_orders 36 = .ok (.ldc2_w 174, 3) := by decide +kernel
theorem dX4_orders_39 : decode cX4_orders 39 = .ok (.lreturn, 1) := by decide +kernel
theorem dX4_orders_40 : decode cX4_orders 40 = .ok (.aload_n 0, 1) := by decide +kernel
theorem dX4_orders_41 : decode cX4_orders 41 = .ok (.iconst 5, 1) := by decide +kernel
theorem dX4_orders_42 : decode cX4_orders 42 = .ok (.iload_n 1, 1) := by decide +kernel
theorem dX4_orders_43 : decode cX4_orders 43 = .ok (.imul, 1) := by decide +kernel
theorem dX4_orders_44 : decode cX4_orders 44 = .ok (.iload_n 2, 1) := by decide +kernel
theorem dX4_orders_45 : decode cX4_orders 45 = .ok (.iadd, 1) := by decide +kernel
theorem dX4_orders_46 : decode cX4_orders 46 = .ok (.iload_n 1, 1) := by decide +kernel
theorem dX4_orders_47 : decode cX4_orders 47 = .ok (.invokevirtual 176, 3) := by decide +kernel
theorem dX4_orders_50 : decode cX4_orders 50 = .ok (.aload_n 0, 1) := by decide +kernel
theorem dX4_orders_51 : decode cX4_orders 51 = .ok (.getfield 83, 3) := by decide +kernel
theorem dX4_orders_54 : decode cX4_orders 54 = .ok (.iconst 0, 1) := by decide +kernel
theorem dX4_orders_55 : decode cX4_orders 55 = .ok (.laload, 1) := by decide +kernel
theorem dX4_orders_56 : decode cX4_orders 56 = .ok (.lreturn, 1) := by decide +kernel
set_option maxRecDepth 20000 in
theorem ggX4_number_X4_isText : GoodIn wsX4_number wsX4_isText := goodIn_r _ [11] (by decide +kernel) (by decide +kernel)
set_option maxRecDepth 20000 in
theorem gX4_number_X4_isText : GoodIn wsX4_number (wsV RX4 132 RX4 yX4_isText wsX4_isText) := goodIn_app (goodIn_of _ (by decide +kernel)) ggX4_number_X4_isText
set_option maxRecDepth 20000 in
theorem ggX4_number_X4_isSite : GoodIn wsX4_number wsX4_isSite := goodIn_r _ [15] (by decide +kernel) (by decide +kernel)
set_option maxRecDepth 20000 in
theorem gX4_number_X4_isSite : GoodIn wsX4_number (wsV RX4 136 RX4 yX4_isSite wsX4_isSite) := goodIn_app (goodIn_of _ (by decide +kernel)) ggX4_number_X4_isSite
set_option maxRecDepth 20000 in
theorem ggX4_number_X4_counts : GoodIn wsX4_number wsX4_counts := goodIn_r _ [19, 2, 5, 4, 20, 21, 6, 22, 23, 24, 10, 25, 32, 33, 34, 35, 36, 37, 38, 39, 40, 41, 42, 43, 44, 45, 46, 47, 48, 49, 50, 51, 52, 53, 54, 55, 56, 57, 58, 59, 60] (by decide +kernel) (by decide +kernel)
set_option maxRecDepth 20000 in
theorem gX4_number_X4_counts : GoodIn wsX4_number (wsV RX4 176 RX4 yX4_counts wsX4_counts) := goodIn_app (goodIn_of _ (by decide +kernel)) ggX4_number_X4_counts
set_option maxRecDepth 20000 in
theorem ggX4_number_X4_mark : GoodIn wsX4_number wsX4_mark := goodIn_r _ [29, 30, 31, 32, 33, 34, 35, 36, 37, 38, 39, 40, 41, 42, 43, 44, 45, 46, 47, 48, 49, 50, 51, 52, 53, 54, 55, 56, 57, 58, 59, 60] (by decide +kernel) (by decide +kernel)
set_option maxRecDepth 20000 in
theorem gX4_number_X4_mark : GoodIn wsX4_number (wsV RX4 108 RX4 yX4_mark wsX4_mark) := goodIn_app (goodIn_of _ (by decide +kernel)) ggX4_number_X4_mark
theorem dX4_number_0 : decode cX4_number 0 = .ok (.aload_n 0, 1) := by decide +kernel
theorem dX4_number_1 : decode cX4_number 1 = .ok (.iconst 0, 1) := by decide +kernel
theorem dX4_number_2 : decode cX4_number 2 = .ok (.putfield 87, 3) := by decide +kernel
theorem dX4_number_5 : decode cX4_number 5 = .ok (.aload_n 0, 1) := by decide +kernel
theorem dX4_number_6 : decode cX4_number 6 = .ok (.iload_n 1, 1) := by decide +kernel
theorem dX4_number_7 : decode cX4_number 7 = .ok (.invokevirtual 132, 3) := by decide +kernel
theorem dX4_number_10 : decode cX4_number 10 = .ok (.ifCond .eq 26, 3) := by decide +kernel
theorem dX4_number_13 : decode cX4_number 13 = .ok (.aload_n 0, 1) := by decide +kernel
theorem dX4_number_14 : decode cX4_number 14 = .ok (.iload_n 2, 1) := by decide +kernel
theorem dX4_number_15 : decode cX4_number 15 = .ok (.invokevirtual 136, 3) := by decide +kernel
theorem dX4_number_18 : decode cX4_number 18 = .ok (.ifCond .eq 18, 3) := by decide +kernel
theorem dX4_number_21 : decode cX4_number 21 = .ok (.aload_n 0, 1) := by decide +kernel
theorem dX4_number_22 : decode cX4_number 22 = .ok (.getfield 50, 3) := by decide +kernel
theorem dX4_number_25 : decode cX4_number 25 = .ok (.iconst 5, 1) := by decide +kernel
theorem dX4_number_26 : decode cX4_number 26 = .ok (.iload_n 1, 1) := by decide +kernel
theorem dX4_number_27 : decode cX4_number 27 = .ok (.imul, 1) := by decide +kernel
theorem dX4_number_28 : decode cX4_number 28 = .ok (.iload_n 2, 1) := by decide +kernel
theorem dX4_number_29 : decode cX4_number 29 = .ok (.iadd, 1) := by decide +kernel
theorem dX4_number_30 : decode cX4_number 30 = .ok (.iaload, 1) := by decide +kernel
theorem dX4_number_31 : decode cX4_number 31 = .ok (.bipush 12, 2) := by decide +kernel
theorem dX4_number_33 : decode cX4_number 33 = .ok (.if_icmp .le 7, 3) := by decide +kernel
theorem dX4_number_36 : decode cX4_number 36 = .ok (.ldc2_w 174, 3) := by decide +kernel
theorem dX4_number_39 : decode cX4_number 39 = .ok (.lreturn, 1) := by decide +kernel
theorem dX4_number_40 : decode cX4_number 40 = .ok (.iconst 5, 1) := by decide +kernel
theorem dX4_number_41 : decode cX4_number 41 = .ok (.iload_n 1, 1) := by decide +kernel
theorem dX4_number_42 : decode cX4_number 42 = .ok (.imul, 1) := by decide +kernel
theorem dX4_number_43 : decode cX4_number 43 = .ok (.iload_n 2, 1) := by decide +kernel
theorem dX4_number_44 : decode cX4_number 44 = .ok (.iadd, 1) := by decide +kernel
theorem dX4_number_45 : decode cX4_number 45 = .ok (.istore_n 3, 1) := by decide +kernel
theorem dX4_number_46 : decode cX4_number 46 = .ok (.aload_n 0, 1) := by decide +kernel
theorem dX4_number_47 : decode cX4_number 47 = .ok (.iload_n 3, 1) := by decide +kernel
theorem dX4_number_48 : decode cX4_number 48 = .ok (.iload_n 1, 1) := by decide +kernel
theorem dX4_number_49 : decode cX4_number 49 = .ok (.invokevirtual 176, 3) := by decide +kernel
theorem dX4_number_52 : decode cX4_number 52 = .ok (.lconst 0, 1) := by decide +kernel
theorem dX4_number_53 : decode cX4_number 53 = .ok (.lstore 4, 2) := by decide +kernel
theorem dX4_number_55 : decode cX4_number 55 = .ok (.iconst 0, 1) := by decide +kernel
theorem dX4_number_56 : decode cX4_number 56 = .ok (.istore 6, 2) := by decide +kernel
theorem dX4_number_58 : decode cX4_number 58 = .ok (.iconst 0, 1) := by decide +kernel
theorem dX4_number_59 : decode cX4_number 59 = .ok (.istore 7, 2) := by decide +kernel
theorem dX4_number_61 : decode cX4_number 61 = .ok (.iload 7, 2) := by decide +kernel
theorem dX4_number_63 : decode cX4_number 63 = .ok (.aload_n 0, 1) := by decide +kernel
theorem dX4_number_64 : decode cX4_number 64 = .ok (.getfield 50, 3) := by decide +kernel
theorem dX4_number_67 : decode cX4_number 67 = .ok (.iload_n 3, 1) := by decide +kernel
theorem dX4_number_68 : decode cX4_number 68 = .ok (.iaload, 1) := by decide +kernel
theorem dX4_number_69 : decode cX4_number 69 = .ok (.if_icmp .ge 133, 3) := by decide +kernel
theorem dX4_number_72 : decode cX4_number 72 = .ok (.aload_n 0, 1) := by decide +kernel
theorem dX4_number_73 : decode cX4_number 73 = .ok (.iload_n 1, 1) := by decide +kernel
theorem dX4_number_74 : decode cX4_number 74 = .ok (.aload_n 0, 1) := by decide +kernel
theorem dX4_number_75 : decode cX4_number 75 = .ok (.getfield 47, 3) := by decide +kernel
theorem dX4_number_78 : decode cX4_number 78 = .ok (.bipush 60, 2) := by decide +kernel
theorem dX4_number_80 : decode cX4_number 80 = .ok (.iload_n 3, 1) := by decide +kernel
theorem dX4_number_81 : decode cX4_number 81 = .ok (.imul, 1) := by decide +kernel
theorem dX4_number_82 : decode cX4_number 82 = .ok (.iload 7, 2) := by decide +kernel
theorem dX4_number_84 : decode cX4_number 84 = .ok (.iadd, 1) := by decide +kernel
theorem dX4_number_85 : decode cX4_number 85 = .ok (.iaload, 1) := by decide +kernel
theorem dX4_number_86 : decode cX4_number 86 = .ok (.invokevirtual 108, 3) := by decide +kernel
theorem dX4_number_89 : decode cX4_number 89 = .ok (.istore 8, 2) := by decide +kernel
theorem dX4_number_91 : decode cX4_number 91 = .ok (.iconst 0, 1) := by decide +kernel
theorem dX4_number_92 : decode cX4_number 92 = .ok (.istore 9, 2) := by decide +kernel
theorem dX4_number_94 : decode cX4_number 94 = .ok (.iload 9, 2) := by decide +kernel
theorem dX4_number_96 : decode cX4_number 96 = .ok (.aload_n 0, 1) := by decide +kernel
theorem dX4_number_97 : decode cX4_number 97 = .ok (.getfield 50, 3) := by decide +kernel
theorem dX4_number_100 : decode cX4_number 100 = .ok (.iload_n 3, 1) := by decide +kernel
theorem dX4_number_101 : decode cX4_number 101 = .ok (.iaload, 1) := by decide +kernel
theorem dX4_number_102 : decode cX4_number 102 = .ok (.if_icmp .ge 85, 3) := by decide +kernel
theorem dX4_number_105 : decode cX4_number 105 = .ok (.iload 6, 2) := by decide +kernel
theorem dX4_number_107 : decode cX4_number 107 = .ok (.iload 9, 2) := by decide +kernel
theorem dX4_number_109 : decode cX4_number 109 = .ok (.ishr, 1) := by decide +kernel
theorem dX4_number_110 : decode cX4_number 110 = .ok (.iconst 1, 1) := by decide +kernel
theorem dX4_number_111 : decode cX4_number 111 = .ok (.iand, 1) := by decide +kernel
theorem dX4_number_112 : decode cX4_number 112 = .ok (.ifCond .ne 22, 3) := by decide +kernel
theorem dX4_number_115 : decode cX4_number 115 = .ok (.aload_n 0, 1) := by decide +kernel
theorem dX4_number_116 : decode cX4_number 116 = .ok (.getfield 80, 3) := by decide +kernel
theorem dX4_number_119 : decode cX4_number 119 = .ok (.iload 9, 2) := by decide +kernel
theorem dX4_number_121 : decode cX4_number 121 = .ok (.iaload, 1) := by decide +kernel
theorem dX4_number_122 : decode cX4_number 122 = .ok (.iload 6, 2) := by decide +kernel
theorem dX4_number_124 : decode cX4_number 124 = .ok (.iconst (-1), 1) := by decide +kernel
theorem dX4_number_125 : decode cX4_number 125 = .ok (.ixor, 1) := by decide +kernel
theorem dX4_number_126 : decode cX4_number 126 = .ok (.iand, 1) := by decide +kernel
theorem dX4_number_127 : decode cX4_number 127 = .ok (.ifCond .ne 7, 3) := by decide +kernel
theorem dX4_number_130 : decode cX4_number 130 = .ok (.iconst 1, 1) := by decide +kernel
theorem dX4_number_131 : decode cX4_number 131 = .ok (.goto 4, 3) := by decide +kernel
theorem dX4_number_134 : decode cX4_number 134 = .ok (.iconst 0, 1) := by decide +kernel
theorem dX4_number_135 : decode cX4_number 135 = .ok (.istore 10, 2) := by decide +kernel
theorem dX4_number_137 : decode cX4_number 137 = .ok (.iload 10, 2) := by decide +kernel
theorem dX4_number_139 : decode cX4_number 139 = .ok (.ifCond .eq 42, 3) := by decide +kernel
theorem dX4_number_142 : decode cX4_number 142 = .ok (.aload_n 0, 1) := by decide +kernel
theorem dX4_number_143 : decode cX4_number 143 = .ok (.iload_n 1, 1) := by decide +kernel
theorem dX4_number_144 : decode cX4_number 144 = .ok (.aload_n 0, 1) := by decide +kernel
theorem dX4_number_145 : decode cX4_number 145 = .ok (.getfield 47, 3) := by decide +kernel
theorem dX4_number_148 : decode cX4_number 148 = .ok (.bipush 60, 2) := by decide +kernel
theorem dX4_number_150 : decode cX4_number 150 = .ok (.iload_n 3, 1) := by decide +kernel
theorem dX4_number_151 : decode cX4_number 151 = .ok (.imul, 1) := by decide +kernel
theorem dX4_number_152 : decode cX4_number 152 = .ok (.iload 9, 2) := by decide +kernel
theorem dX4_number_154 : decode cX4_number 154 = .ok (.iadd, 1) := by decide +kernel
theorem dX4_number_155 : decode cX4_number 155 = .ok (.iaload, 1) := by decide +kernel
theorem dX4_number_156 : decode cX4_number 156 = .ok (.invokevirtual 108, 3) := by decide +kernel
theorem dX4_number_159 : decode cX4_number 159 = .ok (.iload 8, 2) := by decide +kernel
theorem dX4_number_161 : decode cX4_number 161 = .ok (.if_icmp .ge 20, 3) := by decide +kernel
theorem dX4_number_164 : decode cX4_number 164 = .ok (.lload 4, 2) := by decide +kernel
theorem dX4_number_166 : decode cX4_number 166 = .ok (.aload_n 0, 1) := by decide +kernel
theorem dX4_number_167 : decode cX4_number 167 = .ok (.getfield 83, 3) := by decide +kernel
theorem dX4_number_170 : decode cX4_number 170 = .ok (.iload 6, 2) := by decide +kernel
theorem dX4_number_172 : decode cX4_number 172 = .ok (.iconst 1, 1) := by decide +kernel
theorem dX4_number_173 : decode cX4_number 173 = .ok (.iload 9, 2) := by decide +kernel
theorem dX4_number_175 : decode cX4_number 175 = .ok (.ishl, 1) := by decide +kernel
theorem dX4_number_176 : decode cX4_number 176 = .ok (.ior, 1) := by decide +kernel
theorem dX4_number_177 : decode cX4_number 177 = .ok (.laload, 1) := by decide +kernel
theorem dX4_number_178 : decode cX4_number 178 = .ok (.ladd, 1) := by decide +kernel
theorem dX4_number_179 : decode cX4_number 179 = .ok (.lstore 4, 2) := by decide +kernel
theorem dX4_number_181 : decode cX4_number 181 = .ok (.iinc 9 1, 3) := by decide +kernel
theorem dX4_number_184 : decode cX4_number 184 = .ok (.goto (-90), 3) := by decide +kernel
theorem dX4_number_187 : decode cX4_number 187 = .ok (.iload 6, 2) := by decide +kernel
theorem dX4_number_189 : decode cX4_number 189 = .ok (.iconst 1, 1) := by decide +kernel
theorem dX4_number_190 : decode cX4_number 190 = .ok (.iload 7, 2) := by decide +kernel
theorem dX4_number_192 : decode cX4_number 192 = .ok (.ishl, 1) := by decide +kernel
theorem dX4_number_193 : decode cX4_number 193 = .ok (.ior, 1) := by decide +kernel
theorem dX4_number_194 : decode cX4_number 194 = .ok (.istore 6, 2) := by decide +kernel
theorem dX4_number_196 : decode cX4_number 196 = .ok (.iinc 7 1, 3) := by decide +kernel
theorem dX4_number_199 : decode cX4_number 199 = .ok (.goto (-138), 3) := by decide +kernel
theorem dX4_number_202 : decode cX4_number 202 = .ok (.lload 4, 2) := by decide +kernel
theorem dX4_number_204 : decode cX4_number 204 = .ok (.lreturn, 1) := by decide +kernel
theorem dJ9_min_7cf53_0 : decode cJ9_min_7cf53 0 = .ok (.iload_n 0, 1) := by decide +kernel
theorem dJ9_min_7cf53_1 : decode cJ9_min_7cf53 1 = .ok (.iload_n 1, 1) := by decide +kernel
theorem dJ9_min_7cf53_2 : decode cJ9_min_7cf53 2 = .ok (.if_icmp .gt 7, 3) := by decide +kernel
theorem dJ9_min_7cf53_5 : decode cJ9_min_7cf53 5 = .ok (.iload_n 0, 1) := by decide +kernel
theorem dJ9_min_7cf53_6 : decode cJ9_min_7cf53 6 = .ok (.goto 4, 3) := by decide +kernel
theorem dJ9_min_7cf53_9 : decode cJ9_min_7cf53 9 = .ok (.iload_n 1, 1) := by decide +kernel
theorem dJ9_min_7cf53_10 : decode cJ9_min_7cf53 10 = .ok (.ireturn, 1) := by decide +kernel
set_option maxRecDepth 20000 in
theorem ggL_law_X3_init : GoodIn wsL_law wsX3_init := goodIn_r _ [8, 9, 10, 11, 12, 13, 14, 15, 16, 17, 18, 19, 20, 21, 22, 23, 24, 25, 26, 27, 28, 29, 30, 31, 32, 33, 34, 35, 36, 37, 38, 39, 40, 41, 42, 43, 44, 45, 46, 47, 48, 49, 50, 51, 52, 53, 54, 55, 56, 57, 58, 59, 60, 61, 62, 63, 64, 65, 66, 67, 68, 69, 70, 71, 72, 73, 536, 537, 538, 539, 540, 541, 542, 572, 573, 574, 575, 576, 577, 578, 579, 580, 581, 582, 583, 584, 585, 586, 587, 588, 589, 590, 591, 592, 593, 594, 595, 596, 597, 598] (by decide +kernel) (by decide +kernel)
set_option maxRecDepth 20000 in
theorem gL_law_X3_init : GoodIn wsL_law (wsX3_init) := ggL_law_X3_init
set_option maxRecDepth 20000 in
theorem ggL_law_X4_init : GoodIn wsL_law wsX4_init := goodIn_r _ [76, 77, 10, 11, 25, 78, 79, 80, 81, 82, 83, 84, 85, 86, 53, 87, 88, 89, 90, 91, 92, 93, 94, 95, 96, 97, 98, 99, 100, 101, 71, 102, 543, 544, 545, 546, 547, 548, 549, 550, 551, 552, 553, 554, 555, 556, 557, 558, 559, 560, 561, 562, 563, 564, 565, 566, 567, 568, 569, 570, 571] (by decide +kernel) (by decide +kernel)
set_option maxRecDepth 20000 in
theorem gL_law_X4_init : GoodIn wsL_law (wsX4_init) := ggL_law_X4_init
set_option maxRecDepth 20000 in
theorem ggL_law_X3_insert : GoodIn wsL_law wsX3_insert := goodIn_r _ [106, 107, 108, 109, 110, 111, 2, 112, 15, 113, 114, 115, 20, 116, 117, 118, 119, 120, 60, 121, 122, 123, 124, 51, 125, 126, 127, 128, 52, 54, 129, 130, 131, 132, 50, 133, 134, 135, 136, 137, 138, 139, 140, 141, 18, 142, 43, 34, 35, 42, 36, 37, 38, 143, 144, 145, 146, 44, 39, 40, 41, 147, 148, 149, 150, 151, 152, 153, 154, 155, 156, 157, 158, 65, 66, 159, 160, 161, 162, 62, 163, 164, 165, 166, 167, 168, 169, 170, 171, 55, 172, 173, 174, 175, 176, 177, 178, 179, 61, 180, 181, 182, 183, 184, 185, 186, 187, 188, 189, 190, 191, 192, 193, 194, 195, 196, 197, 198, 199, 200, 201, 202, 203, 204, 205, 206, 207, 208, 209, 210, 211, 212, 213, 214, 215, 216, 217, 218, 219, 220, 221, 222, 223, 64, 585, 586, 587, 588, 589, 590, 591, 592, 593, 594, 595, 596, 536, 537, 538, 539, 540, 541, 542, 572, 573, 574, 575, 576, 577, 578, 579, 580, 581, 582, 583, 584] (by decide +kernel) (by decide +kernel)
set_option maxRecDepth 20000 in
theorem gL_law_X3_insert : GoodIn wsL_law (wsV RL 13 RX3 yX3_insert wsX3_insert) := goodIn_app (goodIn_of _ (by decide +kernel)) ggL_law_X3_insert
set_option maxRecDepth 20000 in
theorem ggL_law_X4_insert : GoodIn wsL_law wsX4_insert := goodIn_r _ [227, 228, 78, 91, 79, 80, 84, 81, 82, 90, 83, 229, 230, 231, 5, 232, 233, 234, 235, 236, 237, 238, 239, 240, 93, 241, 242, 243, 244, 245, 246, 247, 248, 85, 87, 88, 89, 249, 250, 251, 252, 253, 254, 255, 256, 257, 258, 94, 259, 260, 261, 262, 263, 264, 265, 266, 92, 267, 268, 269, 270, 271, 272, 273, 274, 275, 276, 277, 278, 97, 279, 280, 281, 282, 283, 284, 285, 286, 287, 288, 289, 290, 291, 292, 293, 294, 98, 99, 295, 296, 297, 298, 299, 300, 301, 302, 95, 543, 544, 545, 546, 547, 548, 549, 550, 551, 552, 553, 554, 555, 556, 557, 558, 559, 560, 561, 562, 563, 564, 565, 566, 567, 568, 569, 570, 571] (by decide +kernel) (by decide +kernel)
set_option maxRecDepth 20000 in
theorem gL_law_X4_insert : GoodIn wsL_law (wsV RL 17 RX4 yX4_insert wsX4_insert) := goodIn_app (goodIn_of _ (by decide +kernel)) ggL_law_X4_insert
set_option maxRecDepth 20000 in
theorem ggL_law_X3_erase : GoodIn wsL_law wsX3_erase := goodIn_r _ [306, 107, 108, 109, 110, 111, 2, 112, 15, 307, 118, 119, 20, 120, 60, 121, 122, 123, 124, 51, 125, 126, 127, 128, 52, 54, 308, 309, 310, 18, 311, 45, 143, 144, 145, 146, 44, 39, 40, 41, 147, 148, 149, 150, 50, 151, 152, 153, 154, 155, 156, 157, 158, 65, 66, 159, 160, 161, 162, 62, 133, 163, 164, 165, 166, 167, 168, 169, 170, 171, 55, 172, 173, 174, 175, 176, 177, 178, 179, 61, 180, 181, 182, 183, 184, 185, 186, 187, 37, 188, 189, 190, 191, 43, 135, 136, 137, 138, 192, 193, 194, 195, 38, 196, 197, 198, 199, 35, 200, 201, 202, 203, 204, 205, 206, 207, 208, 209, 210, 211, 34, 212, 213, 214, 215, 216, 217, 218, 219, 220, 221, 222, 223, 64, 585, 586, 587, 588, 589, 590, 591, 592, 593, 594, 595, 596, 536, 537, 538, 539, 540, 541, 542, 572, 573, 574, 575, 576, 577, 578, 579, 580, 581, 582, 583, 584] (by decide +kernel) (by decide +kernel)
