theorem dX4_woot_6 : decode cX4_woot 6 = .ok (.iload_n 2, 1) := by decide +kernel
theorem dX4_woot_7 : decode cX4_woot 7 = .ok (.iaload, 1) := by decide +kernel
theorem dX4_woot_8 : decode cX4_woot 8 = .ok (.invokevirtual 101, 3) := by decide +kernel
theorem dX4_woot_11 : decode cX4_woot 11 = .ok (.istore_n 3, 1) := by decide +kernel
theorem dX4_woot_12 : decode cX4_woot 12 = .ok (.aload_n 0, 1) := by decide +kernel
theorem dX4_woot_13 : decode cX4_woot 13 = .ok (.iload_n 1, 1) := by decide +kernel
theorem dX4_woot_14 : decode cX4_woot 14 = .ok (.aload_n 0, 1) := by decide +kernel
theorem dX4_woot_15 : decode cX4_woot 15 = .ok (.getfield 25, 3) := by decide +kernel
theorem dX4_woot_18 : decode cX4_woot 18 = .ok (.iload_n 2, 1) := by decide +kernel
theorem dX4_woot_19 : decode cX4_woot 19 = .ok (.iaload, 1) := by decide +kernel
theorem dX4_woot_20 : decode cX4_woot 20 = .ok (.invokevirtual 101, 3) := by decide +kernel
theorem dX4_woot_23 : decode cX4_woot 23 = .ok (.istore 4, 2) := by decide +kernel
theorem dX4_woot_25 : decode cX4_woot 25 = .ok (.iload 4, 2) := by decide +kernel
theorem dX4_woot_27 : decode cX4_woot 27 = .ok (.iload_n 3, 1) := by decide +kernel
theorem dX4_woot_28 : decode cX4_woot 28 = .ok (.isub, 1) := by decide +kernel
theorem dX4_woot_29 : decode cX4_woot 29 = .ok (.iconst 1, 1) := by decide +kernel
theorem dX4_woot_30 : decode cX4_woot 30 = .ok (.if_icmp .le 214, 3) := by decide +kernel
theorem dX4_woot_33 : decode cX4_woot 33 = .ok (.iconst 1, 1) := by decide +kernel
theorem dX4_woot_34 : decode cX4_woot 34 = .ok (.istore 5, 2) := by decide +kernel
theorem dX4_woot_36 : decode cX4_woot 36 = .ok (.aload_n 0, 1) := by decide +kernel
theorem dX4_woot_37 : decode cX4_woot 37 = .ok (.getfield 68, 3) := by decide +kernel
theorem dX4_woot_40 : decode cX4_woot 40 = .ok (.iconst 0, 1) := by decide +kernel
theorem dX4_woot_41 : decode cX4_woot 41 = .ok (.iload_n 3, 1) := by decide +kernel
theorem dX4_woot_42 : decode cX4_woot 42 = .ok (.iastore, 1) := by decide +kernel
theorem dX4_woot_43 : decode cX4_woot 43 = .ok (.iload_n 3, 1) := by decide +kernel
theorem dX4_woot_44 : decode cX4_woot 44 = .ok (.iconst 1, 1) := by decide +kernel
theorem dX4_woot_45 : decode cX4_woot 45 = .ok (.iadd, 1) := by decide +kernel
theorem dX4_woot_46 : decode cX4_woot 46 = .ok (.istore 6, 2) := by decide +kernel
theorem dX4_woot_48 : decode cX4_woot 48 = .ok (.iload 6, 2) := by decide +kernel
theorem dX4_woot_50 : decode cX4_woot 50 = .ok (.iload 4, 2) := by decide +kernel
theorem dX4_woot_52 : decode cX4_woot 52 = .ok (.if_icmp .ge 81, 3) := by decide +kernel
theorem dX4_woot_55 : decode cX4_woot 55 = .ok (.aload_n 0, 1) := by decide +kernel
theorem dX4_woot_56 : decode cX4_woot 56 = .ok (.aload_n 0, 1) := by decide +kernel
theorem dX4_woot_57 : decode cX4_woot 57 = .ok (.getfield 105, 3) := by decide +kernel
theorem dX4_woot_60 : decode cX4_woot 60 = .ok (.iconst 1, 1) := by decide +kernel
theorem dX4_woot_61 : decode cX4_woot 61 = .ok (.iadd, 1) := by decide +kernel
theorem dX4_woot_62 : decode cX4_woot 62 = .ok (.putfield 105, 3) := by decide +kernel
theorem dX4_woot_65 : decode cX4_woot 65 = .ok (.aload_n 0, 1) := by decide +kernel
theorem dX4_woot_66 : decode cX4_woot 66 = .ok (.getfield 47, 3) := by decide +kernel
theorem dX4_woot_69 : decode cX4_woot 69 = .ok (.bipush 60, 2) := by decide +kernel
theorem dX4_woot_71 : decode cX4_woot 71 = .ok (.iload_n 1, 1) := by decide +kernel
theorem dX4_woot_72 : decode cX4_woot 72 = .ok (.imul, 1) := by decide +kernel
theorem dX4_woot_73 : decode cX4_woot 73 = .ok (.iload 6, 2) := by decide +kernel
theorem dX4_woot_75 : decode cX4_woot 75 = .ok (.iadd, 1) := by decide +kernel
theorem dX4_woot_76 : decode cX4_woot 76 = .ok (.iaload, 1) := by decide +kernel
theorem dX4_woot_77 : decode cX4_woot 77 = .ok (.istore 7, 2) := by decide +kernel
theorem dX4_woot_79 : decode cX4_woot 79 = .ok (.aload_n 0, 1) := by decide +kernel
theorem dX4_woot_80 : decode cX4_woot 80 = .ok (.iload_n 1, 1) := by decide +kernel
theorem dX4_woot_81 : decode cX4_woot 81 = .ok (.aload_n 0, 1) := by decide +kernel
theorem dX4_woot_82 : decode cX4_woot 82 = .ok (.getfield 22, 3) := by decide +kernel
theorem dX4_woot_85 : decode cX4_woot 85 = .ok (.iload 7, 2) := by decide +kernel
theorem dX4_woot_87 : decode cX4_woot 87 = .ok (.iaload, 1) := by decide +kernel
theorem dX4_woot_88 : decode cX4_woot 88 = .ok (.invokevirtual 101, 3) := by decide +kernel
theorem dX4_woot_91 : decode cX4_woot 91 = .ok (.iload_n 3, 1) := by decide +kernel
theorem dX4_woot_92 : decode cX4_woot 92 = .ok (.if_icmp .gt 35, 3) := by decide +kernel
theorem dX4_woot_95 : decode cX4_woot 95 = .ok (.aload_n 0, 1) := by decide +kernel
theorem dX4_woot_96 : decode cX4_woot 96 = .ok (.iload_n 1, 1) := by decide +kernel
theorem dX4_woot_97 : decode cX4_woot 97 = .ok (.aload_n 0, 1) := by decide +kernel
theorem dX4_woot_98 : decode cX4_woot 98 = .ok (.getfield 25, 3) := by decide +kernel
theorem dX4_woot_101 : decode cX4_woot 101 = .ok (.iload 7, 2) := by decide +kernel
theorem dX4_woot_103 : decode cX4_woot 103 = .ok (.iaload, 1) := by decide +kernel
theorem dX4_woot_104 : decode cX4_woot 104 = .ok (.invokevirtual 101, 3) := by decide +kernel
theorem dX4_woot_107 : decode cX4_woot 107 = .ok (.iload 4, 2) := by decide +kernel
theorem dX4_woot_109 : decode cX4_woot 109 = .ok (.if_icmp .lt 18, 3) := by decide +kernel
theorem dX4_woot_112 : decode cX4_woot 112 = .ok (.aload_n 0, 1) := by decide +kernel
theorem dX4_woot_113 : decode cX4_woot 113 = .ok (.getfield 68, 3) := by decide +kernel
theorem dX4_woot_116 : decode cX4_woot 116 = .ok (.iload 5, 2) := by decide +kernel
theorem dX4_woot_118 : decode cX4_woot 118 = .ok (.iload 6, 2) := by decide +kernel
theorem dX4_woot_120 : decode cX4_woot 120 = .ok (.iastore, 1) := by decide +kernel
theorem dX4_woot_121 : decode cX4_woot 121 = .ok (.iload 5, 2) := by decide +kernel
theorem dX4_woot_123 : decode cX4_woot 123 = .ok (.iconst 1, 1) := by decide +kernel
theorem dX4_woot_124 : decode cX4_woot 124 = .ok (.iadd, 1) := by decide +kernel
theorem dX4_woot_125 : decode cX4_woot 125 = .ok (.istore 5, 2) := by decide +kernel
theorem dX4_woot_127 : decode cX4_woot 127 = .ok (.iinc 6 1, 3) := by decide +kernel
theorem dX4_woot_130 : decode cX4_woot 130 = .ok (.goto (-82), 3) := by decide +kernel
theorem dX4_woot_133 : decode cX4_woot 133 = .ok (.aload_n 0, 1) := by decide +kernel
theorem dX4_woot_134 : decode cX4_woot 134 = .ok (.getfield 68, 3) := by decide +kernel
theorem dX4_woot_137 : decode cX4_woot 137 = .ok (.iload 5, 2) := by decide +kernel
theorem dX4_woot_139 : decode cX4_woot 139 = .ok (.iload 4, 2) := by decide +kernel
theorem dX4_woot_141 : decode cX4_woot 141 = .ok (.iastore, 1) := by decide +kernel
theorem dX4_woot_142 : decode cX4_woot 142 = .ok (.iconst 1, 1) := by decide +kernel
theorem dX4_woot_143 : decode cX4_woot 143 = .ok (.istore 6, 2) := by decide +kernel
theorem dX4_woot_145 : decode cX4_woot 145 = .ok (.iconst 1, 1) := by decide +kernel
theorem dX4_woot_146 : decode cX4_woot 146 = .ok (.istore 7, 2) := by decide +kernel
theorem dX4_woot_148 : decode cX4_woot 148 = .ok (.iload 7, 2) := by decide +kernel
theorem dX4_woot_150 : decode cX4_woot 150 = .ok (.ifCond .eq 72, 3) := by decide +kernel
theorem dX4_woot_153 : decode cX4_woot 153 = .ok (.iload 6, 2) := by decide +kernel
theorem dX4_woot_155 : decode cX4_woot 155 = .ok (.iload 5, 2) := by decide +kernel
theorem dX4_woot_157 : decode cX4_woot 157 = .ok (.if_icmp .ge 65, 3) := by decide +kernel
theorem dX4_woot_160 : decode cX4_woot 160 = .ok (.aload_n 0, 1) := by decide +kernel
theorem dX4_woot_161 : decode cX4_woot 161 = .ok (.aload_n 0, 1) := by decide +kernel
theorem dX4_woot_162 : decode cX4_woot 162 = .ok (.getfield 105, 3) := by decide +kernel
theorem dX4_woot_165 : decode cX4_woot 165 = .ok (.iconst 1, 1) := by decide +kernel
theorem dX4_woot_166 : decode cX4_woot 166 = .ok (.iadd, 1) := by decide +kernel
theorem dX4_woot_167 : decode cX4_woot 167 = .ok (.putfield 105, 3) := by decide +kernel
theorem dX4_woot_170 : decode cX4_woot 170 = .ok (.aload_n 0, 1) := by decide +kernel
theorem dX4_woot_171 : decode cX4_woot 171 = .ok (.iconst 0, 1) := by decide +kernel
theorem dX4_woot_172 : decode cX4_woot 172 = .ok (.aload_n 0, 1) := by decide +kernel
theorem dX4_woot_173 : decode cX4_woot 173 = .ok (.getfield 47, 3) := by decide +kernel
theorem dX4_woot_176 : decode cX4_woot 176 = .ok (.bipush 60, 2) := by decide +kernel
theorem dX4_woot_178 : decode cX4_woot 178 = .ok (.iload_n 1, 1) := by decide +kernel
theorem dX4_woot_179 : decode cX4_woot 179 = .ok (.imul, 1) := by decide +kernel
theorem dX4_woot_180 : decode cX4_woot 180 = .ok (.aload_n 0, 1) := by decide +kernel
theorem dX4_woot_181 : decode cX4_woot 181 = .ok (.getfield 68, 3) := by decide +kernel
theorem dX4_woot_184 : decode cX4_woot 184 = .ok (.iload 6, 2) := by decide +kernel
theorem dX4_woot_186 : decode cX4_woot 186 = .ok (.iaload, 1) := by decide +kernel
theorem dX4_woot_187 : decode cX4_woot 187 = .ok (.iadd, 1) := by decide +kernel
theorem dX4_woot_188 : decode cX4_woot 188 = .ok (.iaload, 1) := by decide +kernel
theorem dX4_woot_189 : decode cX4_woot 189 = .ok (.invokevirtual 108, 3) := by decide +kernel
theorem dX4_woot_192 : decode cX4_woot 192 = .ok (.aload_n 0, 1) := by decide +kernel
theorem dX4_woot_193 : decode cX4_woot 193 = .ok (.iconst 0, 1) := by decide +kernel
theorem dX4_woot_194 : decode cX4_woot 194 = .ok (.iload_n 2, 1) := by decide +kernel
theorem dX4_woot_195 : decode cX4_woot 195 = .ok (.invokevirtual 108, 3) := by decide +kernel
theorem dX4_woot_198 : decode cX4_woot 198 = .ok (.if_icmp .ge 7, 3) := by decide +kernel
theorem dX4_woot_201 : decode cX4_woot 201 = .ok (.iconst 1, 1) := by decide +kernel
theorem dX4_woot_202 : decode cX4_woot 202 = .ok (.goto 4, 3) := by decide +kernel
theorem dX4_woot_205 : decode cX4_woot 205 = .ok (.iconst 0, 1) := by decide +kernel
theorem dX4_woot_206 : decode cX4_woot 206 = .ok (.istore 7, 2) := by decide +kernel
theorem dX4_woot_208 : decode cX4_woot 208 = .ok (.iload 7, 2) := by decide +kernel
theorem dX4_woot_210 : decode cX4_woot 210 = .ok (.ifCond .eq (-62), 3) := by decide +kernel
theorem dX4_woot_213 : decode cX4_woot 213 = .ok (.iload 6, 2) := by decide +kernel
theorem dX4_woot_215 : decode cX4_woot 215 = .ok (.iconst 1, 1) := by decide +kernel
theorem dX4_woot_216 : decode cX4_woot 216 = .ok (.iadd, 1) := by decide +kernel
theorem dX4_woot_217 : decode cX4_woot 217 = .ok (.istore 6, 2) := by decide +kernel
theorem dX4_woot_219 : decode cX4_woot 219 = .ok (.goto (-71), 3) := by decide +kernel
theorem dX4_woot_222 : decode cX4_woot 222 = .ok (.aload_n 0, 1) := by decide +kernel
theorem dX4_woot_223 : decode cX4_woot 223 = .ok (.getfield 68, 3) := by decide +kernel
theorem dX4_woot_226 : decode cX4_woot 226 = .ok (.iload 6, 2) := by decide +kernel
theorem dX4_woot_228 : decode cX4_woot 228 = .ok (.iconst 1, 1) := by decide +kernel
theorem dX4_woot_229 : decode cX4_woot 229 = .ok (.isub, 1) := by decide +kernel
theorem dX4_woot_230 : decode cX4_woot 230 = .ok (.iaload, 1) := by decide +kernel
theorem dX4_woot_231 : decode cX4_woot 231 = .ok (.istore_n 3, 1) := by decide +kernel
theorem dX4_woot_232 : decode cX4_woot 232 = .ok (.aload_n 0, 1) := by decide +kernel
theorem dX4_woot_233 : decode cX4_woot 233 = .ok (.getfield 68, 3) := by decide +kernel
theorem dX4_woot_236 : decode cX4_woot 236 = .ok (.iload 6, 2) := by decide +kernel
theorem dX4_woot_238 : decode cX4_woot 238 = .ok (.iaload, 1) := by decide +kernel
theorem dX4_woot_239 : decode cX4_woot 239 = .ok (.istore 4, 2) := by decide +kernel
theorem dX4_woot_241 : decode cX4_woot 241 = .ok (.goto (-216), 3) := by decide +kernel
theorem dX4_woot_244 : decode cX4_woot 244 = .ok (.aload_n 0, 1) := by decide +kernel
theorem dX4_woot_245 : decode cX4_woot 245 = .ok (.iload_n 1, 1) := by decide +kernel
theorem dX4_woot_246 : decode cX4_woot 246 = .ok (.iload_n 2, 1) := by decide +kernel
theorem dX4_woot_247 : decode cX4_woot 247 = .ok (.iload 4, 2) := by decide +kernel
theorem dX4_woot_249 : decode cX4_woot 249 = .ok (.invokevirtual 111, 3) := by decide +kernel
theorem dX4_woot_252 : decode cX4_woot 252 = .ok (.return_, 1) := by decide +kernel
theorem dX4_none_0 : decode cX4_none 0 = .ok (.iconst 0, 1) := by decide +kernel
theorem dX4_none_1 : decode cX4_none 1 = .ok (.istore_n 1, 1) := by decide +kernel
theorem dX4_none_2 : decode cX4_none 2 = .ok (.iload_n 1, 1) := by decide +kernel
theorem dX4_none_3 : decode cX4_none 3 = .ok (.bipush 60, 2) := by decide +kernel
theorem dX4_none_5 : decode cX4_none 5 = .ok (.if_icmp .ge 16, 3) := by decide +kernel
theorem dX4_none_8 : decode cX4_none 8 = .ok (.aload_n 0, 1) := by decide +kernel
theorem dX4_none_9 : decode cX4_none 9 = .ok (.getfield 74, 3) := by decide +kernel
theorem dX4_none_12 : decode cX4_none 12 = .ok (.iload_n 1, 1) := by decide +kernel
theorem dX4_none_13 : decode cX4_none 13 = .ok (.iconst 0, 1) := by decide +kernel
theorem dX4_none_14 : decode cX4_none 14 = .ok (.bastore, 1) := by decide +kernel
theorem dX4_none_15 : decode cX4_none 15 = .ok (.iinc 1 1, 3) := by decide +kernel
theorem dX4_none_18 : decode cX4_none 18 = .ok (.goto (-16), 3) := by decide +kernel
theorem dX4_none_21 : decode cX4_none 21 = .ok (.return_, 1) := by decide +kernel
set_option maxRecDepth 20000 in
theorem ggX4_yata_X4_none : GoodIn wsX4_yata wsX4_none := goodIn_r _ [12, 6, 23, 24, 25, 26, 27, 28, 29, 30, 31, 32, 33, 34, 35, 36, 37, 38, 39, 40, 41, 42, 43, 44, 45, 46, 47, 48, 49, 50, 51] (by decide +kernel) (by decide +kernel)
set_option maxRecDepth 20000 in
theorem gX4_yata_X4_none : GoodIn wsX4_yata (wsV RX4 115 RX4 yX4_none wsX4_none) := goodIn_app (goodIn_of _ (by decide +kernel)) ggX4_yata_X4_none
set_option maxRecDepth 20000 in
theorem ggX4_yata_X4_place : GoodIn wsX4_yata wsX4_place := goodIn_r _ [16, 17, 5, 23, 24, 25, 26, 27, 28, 29, 30, 31, 32, 33, 34, 35, 36, 37, 38, 39, 40, 41, 42, 43, 44, 45, 46, 47, 48, 49, 50, 51] (by decide +kernel) (by decide +kernel)
set_option maxRecDepth 20000 in
theorem gX4_yata_X4_place : GoodIn wsX4_yata (wsV RX4 101 RX4 yX4_place wsX4_place) := goodIn_app (goodIn_of _ (by decide +kernel)) ggX4_yata_X4_place
set_option maxRecDepth 20000 in
theorem ggX4_yata_X4_lay : GoodIn wsX4_yata wsX4_lay := goodIn_r _ [21, 17, 5, 22, 23, 24, 25, 26, 27, 28, 29, 30, 31, 32, 33, 34, 35, 36, 37, 38, 39, 40, 41, 42, 43, 44, 45, 46, 47, 48, 49, 50, 51] (by decide +kernel) (by decide +kernel)
set_option maxRecDepth 20000 in
theorem gX4_yata_X4_lay : GoodIn wsX4_yata (wsV RX4 111 RX4 yX4_lay wsX4_lay) := goodIn_app (goodIn_of _ (by decide +kernel)) ggX4_yata_X4_lay
theorem dX4_yata_0 : decode cX4_yata 0 = .ok (.iconst 0, 1) := by decide +kernel
theorem dX4_yata_1 : decode cX4_yata 1 = .ok (.istore_n 3, 1) := by decide +kernel
theorem dX4_yata_2 : decode cX4_yata 2 = .ok (.iload_n 3, 1) := by decide +kernel
theorem dX4_yata_3 : decode cX4_yata 3 = .ok (.bipush 60, 2) := by decide +kernel
theorem dX4_yata_5 : decode cX4_yata 5 = .ok (.if_icmp .ge 16, 3) := by decide +kernel
theorem dX4_yata_8 : decode cX4_yata 8 = .ok (.aload_n 0, 1) := by decide +kernel
theorem dX4_yata_9 : decode cX4_yata 9 = .ok (.getfield 71, 3) := by decide +kernel
theorem dX4_yata_12 : decode cX4_yata 12 = .ok (.iload_n 3, 1) := by decide +kernel
theorem dX4_yata_13 : decode cX4_yata 13 = .ok (.iconst 0, 1) := by decide +kernel
theorem dX4_yata_14 : decode cX4_yata 14 = .ok (.bastore, 1) := by decide +kernel
theorem dX4_yata_15 : decode cX4_yata 15 = .ok (.iinc 3 1, 3) := by decide +kernel
theorem dX4_yata_18 : decode cX4_yata 18 = .ok (.goto (-16), 3) := by decide +kernel
theorem dX4_yata_21 : decode cX4_yata 21 = .ok (.aload_n 0, 1) := by decide +kernel
theorem dX4_yata_22 : decode cX4_yata 22 = .ok (.invokevirtual 115, 3) := by decide +kernel
theorem dX4_yata_25 : decode cX4_yata 25 = .ok (.aload_n 0, 1) := by decide +kernel
theorem dX4_yata_26 : decode cX4_yata 26 = .ok (.getfield 22, 3) := by decide +kernel
theorem dX4_yata_29 : decode cX4_yata 29 = .ok (.bipush 60, 2) := by decide +kernel
theorem dX4_yata_31 : decode cX4_yata 31 = .ok (.iload_n 2, 1) := by decide +kernel
theorem dX4_yata_32 : decode cX4_yata 32 = .ok (.iadd, 1) := by decide +kernel
theorem dX4_yata_33 : decode cX4_yata 33 = .ok (.iaload, 1) := by decide +kernel
theorem dX4_yata_34 : decode cX4_yata 34 = .ok (.istore_n 3, 1) := by decide +kernel
theorem dX4_yata_35 : decode cX4_yata 35 = .ok (.aload_n 0, 1) := by decide +kernel
theorem dX4_yata_36 : decode cX4_yata 36 = .ok (.iload_n 1, 1) := by decide +kernel
theorem dX4_yata_37 : decode cX4_yata 37 = .ok (.iload_n 3, 1) := by decide +kernel
theorem dX4_yata_38 : decode cX4_yata 38 = .ok (.invokevirtual 101, 3) := by decide +kernel
theorem dX4_yata_41 : decode cX4_yata 41 = .ok (.istore 4, 2) := by decide +kernel
theorem dX4_yata_43 : decode cX4_yata 43 = .ok (.aload_n 0, 1) := by decide +kernel
theorem dX4_yata_44 : decode cX4_yata 44 = .ok (.iload_n 1, 1) := by decide +kernel
theorem dX4_yata_45 : decode cX4_yata 45 = .ok (.aload_n 0, 1) := by decide +kernel
theorem dX4_yata_46 : decode cX4_yata 46 = .ok (.getfield 25, 3) := by decide +kernel
theorem dX4_yata_49 : decode cX4_yata 49 = .ok (.bipush 60, 2) := by decide +kernel
theorem dX4_yata_51 : decode cX4_yata 51 = .ok (.iload_n 2, 1) := by decide +kernel
theorem dX4_yata_52 : decode cX4_yata 52 = .ok (.iadd, 1) := by decide +kernel
theorem dX4_yata_53 : decode cX4_yata 53 = .ok (.iaload, 1) := by decide +kernel
theorem dX4_yata_54 : decode cX4_yata 54 = .ok (.invokevirtual 101, 3) := by decide +kernel
theorem dX4_yata_57 : decode cX4_yata 57 = .ok (.istore 5, 2) := by decide +kernel
theorem dX4_yata_59 : decode cX4_yata 59 = .ok (.iconst 1, 1) := by decide +kernel
theorem dX4_yata_60 : decode cX4_yata 60 = .ok (.istore 6, 2) := by decide +kernel
theorem dX4_yata_62 : decode cX4_yata 62 = .ok (.iload 4, 2) := by decide +kernel
theorem dX4_yata_64 : decode cX4_yata 64 = .ok (.iconst 1, 1) := by decide +kernel
theorem dX4_yata_65 : decode cX4_yata 65 = .ok (.iadd, 1) := by decide +kernel
theorem dX4_yata_66 : decode cX4_yata 66 = .ok (.istore 7, 2) := by decide +kernel
theorem dX4_yata_68 : decode cX4_yata 68 = .ok (.iload 6, 2) := by decide +kernel
theorem dX4_yata_70 : decode cX4_yata 70 = .ok (.ifCond .eq 175, 3) := by decide +kernel
theorem dX4_yata_73 : decode cX4_yata 73 = .ok (.iload 7, 2) := by decide +kernel
theorem dX4_yata_75 : decode cX4_yata 75 = .ok (.iload 5, 2) := by decide +kernel
theorem dX4_yata_77 : decode cX4_yata 77 = .ok (.if_icmp .ge 168, 3) := by decide +kernel
theorem dX4_yata_80 : decode cX4_yata 80 = .ok (.aload_n 0, 1) := by decide +kernel
theorem dX4_yata_81 : decode cX4_yata 81 = .ok (.aload_n 0, 1) := by decide +kernel
theorem dX4_yata_82 : decode cX4_yata 82 = .ok (.getfield 105, 3) := by decide +kernel
theorem dX4_yata_85 : decode cX4_yata 85 = .ok (.iconst 1, 1) := by decide +kernel
theorem dX4_yata_86 : decode cX4_yata 86 = .ok (.iadd, 1) := by decide +kernel
theorem dX4_yata_87 : decode cX4_yata 87 = .ok (.putfield 105, 3) := by decide +kernel
theorem dX4_yata_90 : decode cX4_yata 90 = .ok (.aload_n 0, 1) := by decide +kernel
theorem dX4_yata_91 : decode cX4_yata 91 = .ok (.getfield 47, 3) := by decide +kernel
theorem dX4_yata_94 : decode cX4_yata 94 = .ok (.bipush 60, 2) := by decide +kernel
theorem dX4_yata_96 : decode cX4_yata 96 = .ok (.iload_n 1, 1) := by decide +kernel
theorem dX4_yata_97 : decode cX4_yata 97 = .ok (.imul, 1) := by decide +kernel
theorem dX4_yata_98 : decode cX4_yata 98 = .ok (.iload 7, 2) := by decide +kernel
theorem dX4_yata_100 : decode cX4_yata 100 = .ok (.iadd, 1) := by decide +kernel
theorem dX4_yata_101 : decode cX4_yata 101 = .ok (.iaload, 1) := by decide +kernel
theorem dX4_yata_102 : decode cX4_yata 102 = .ok (.istore 8, 2) := by decide +kernel
theorem dX4_yata_104 : decode cX4_yata 104 = .ok (.aload_n 0, 1) := by decide +kernel
theorem dX4_yata_105 : decode cX4_yata 105 = .ok (.getfield 71, 3) := by decide +kernel
theorem dX4_yata_108 : decode cX4_yata 108 = .ok (.iload 8, 2) := by decide +kernel
theorem dX4_yata_110 : decode cX4_yata 110 = .ok (.iconst 1, 1) := by decide +kernel
theorem dX4_yata_111 : decode cX4_yata 111 = .ok (.bastore, 1) := by decide +kernel
theorem dX4_yata_112 : decode cX4_yata 112 = .ok (.aload_n 0, 1) := by decide +kernel
theorem dX4_yata_113 : decode cX4_yata 113 = .ok (.getfield 74, 3) := by decide +kernel
theorem dX4_yata_116 : decode cX4_yata 116 = .ok (.iload 8, 2) := by decide +kernel
theorem dX4_yata_118 : decode cX4_yata 118 = .ok (.iconst 1, 1) := by decide +kernel
theorem dX4_yata_119 : decode cX4_yata 119 = .ok (.bastore, 1) := by decide +kernel
theorem dX4_yata_120 : decode cX4_yata 120 = .ok (.aload_n 0, 1) := by decide +kernel
theorem dX4_yata_121 : decode cX4_yata 121 = .ok (.getfield 22, 3) := by decide +kernel
theorem dX4_yata_124 : decode cX4_yata 124 = .ok (.bipush 60, 2) := by decide +kernel
theorem dX4_yata_126 : decode cX4_yata 126 = .ok (.iload 8, 2) := by decide +kernel
theorem dX4_yata_128 : decode cX4_yata 128 = .ok (.iadd, 1) := by decide +kernel
theorem dX4_yata_129 : decode cX4_yata 129 = .ok (.iaload, 1) := by decide +kernel
theorem dX4_yata_130 : decode cX4_yata 130 = .ok (.istore 9, 2) := by decide +kernel
theorem dX4_yata_132 : decode cX4_yata 132 = .ok (.iload 9, 2) := by decide +kernel
theorem dX4_yata_134 : decode cX4_yata 134 = .ok (.iload_n 3, 1) := by decide +kernel
theorem dX4_yata_135 : decode cX4_yata 135 = .ok (.if_icmp .ne 64, 3) := by decide +kernel
theorem dX4_yata_138 : decode cX4_yata 138 = .ok (.aload_n 0, 1) := by decide +kernel
theorem dX4_yata_139 : decode cX4_yata 139 = .ok (.getfield 13, 3) := by decide +kernel
theorem dX4_yata_142 : decode cX4_yata 142 = .ok (.bipush 60, 2) := by decide +kernel
theorem dX4_yata_144 : decode cX4_yata 144 = .ok (.iload 8, 2) := by decide +kernel
theorem dX4_yata_146 : decode cX4_yata 146 = .ok (.iadd, 1) := by decide +kernel
theorem dX4_yata_147 : decode cX4_yata 147 = .ok (.iaload, 1) := by decide +kernel
theorem dX4_yata_148 : decode cX4_yata 148 = .ok (.aload_n 0, 1) := by decide +kernel
theorem dX4_yata_149 : decode cX4_yata 149 = .ok (.getfield 13, 3) := by decide +kernel
theorem dX4_yata_152 : decode cX4_yata 152 = .ok (.bipush 60, 2) := by decide +kernel
theorem dX4_yata_154 : decode cX4_yata 154 = .ok (.iload_n 2, 1) := by decide +kernel
theorem dX4_yata_155 : decode cX4_yata 155 = .ok (.iadd, 1) := by decide +kernel
theorem dX4_yata_156 : decode cX4_yata 156 = .ok (.iaload, 1) := by decide +kernel
theorem dX4_yata_157 : decode cX4_yata 157 = .ok (.if_icmp .ge 14, 3) := by decide +kernel
theorem dX4_yata_160 : decode cX4_yata 160 = .ok (.iload 7, 2) := by decide +kernel
theorem dX4_yata_162 : decode cX4_yata 162 = .ok (.istore 4, 2) := by decide +kernel
theorem dX4_yata_164 : decode cX4_yata 164 = .ok (.aload_n 0, 1) := by decide +kernel
theorem dX4_yata_165 : decode cX4_yata 165 = .ok (.invokevirtual 115, 3) := by decide +kernel
theorem dX4_yata_168 : decode cX4_yata 168 = .ok (.goto 71, 3) := by decide +kernel
theorem dX4_yata_171 : decode cX4_yata 171 = .ok (.aload_n 0, 1) := by decide +kernel
theorem dX4_yata_172 : decode cX4_yata 172 = .ok (.getfield 25, 3) := by decide +kernel
theorem dX4_yata_175 : decode cX4_yata 175 = .ok (.bipush 60, 2) := by decide +kernel
theorem dX4_yata_177 : decode cX4_yata 177 = .ok (.iload 8, 2) := by decide +kernel
theorem dX4_yata_179 : decode cX4_yata 179 = .ok (.iadd, 1) := by decide +kernel
theorem dX4_yata_180 : decode cX4_yata 180 = .ok (.iaload, 1) := by decide +kernel
theorem dX4_yata_181 : decode cX4_yata 181 = .ok (.aload_n 0, 1) := by decide +kernel
theorem dX4_yata_182 : decode cX4_yata 182 = .ok (.getfield 25, 3) := by decide +kernel
theorem dX4_yata_185 : decode cX4_yata 185 = .ok (.bipush 60, 2) := by decide +kernel
theorem dX4_yata_187 : decode cX4_yata 187 = .ok (.iload_n 2, 1) := by decide +kernel
theorem dX4_yata_188 : decode cX4_yata 188 = .ok (.iadd, 1) := by decide +kernel
theorem dX4_yata_189 : decode cX4_yata 189 = .ok (.iaload, 1) := by decide +kernel
theorem dX4_yata_190 : decode cX4_yata 190 = .ok (.if_icmp .ne 49, 3) := by decide +kernel
theorem dX4_yata_193 : decode cX4_yata 193 = .ok (.iconst 0, 1) := by decide +kernel
theorem dX4_yata_194 : decode cX4_yata 194 = .ok (.istore 6, 2) := by decide +kernel
theorem dX4_yata_196 : decode cX4_yata 196 = .ok (.goto 43, 3) := by decide +kernel
theorem dX4_yata_199 : decode cX4_yata 199 = .ok (.iload 9, 2) := by decide +kernel
theorem dX4_yata_201 : decode cX4_yata 201 = .ok (.iconst (-1), 1) := by decide +kernel
theorem dX4_yata_202 : decode cX4_yata 202 = .ok (.if_icmp .eq 34, 3) := by decide +kernel
theorem dX4_yata_205 : decode cX4_yata 205 = .ok (.aload_n 0, 1) := by decide +kernel
theorem dX4_yata_206 : decode cX4_yata 206 = .ok (.getfield 71, 3) := by decide +kernel
theorem dX4_yata_209 : decode cX4_yata 209 = .ok (.iload 9, 2) := by decide +kernel
theorem dX4_yata_211 : decode cX4_yata 211 = .ok (.baload, 1) := by decide +kernel
theorem dX4_yata_212 : decode cX4_yata 212 = .ok (.ifCond .eq 24, 3) := by decide +kernel
theorem dX4_yata_215 : decode cX4_yata 215 = .ok (.aload_n 0, 1) := by decide +kernel
theorem dX4_yata_216 : decode cX4_yata 216 = .ok (.getfield 74, 3) := by decide +kernel
theorem dX4_yata_219 : decode cX4_yata 219 = .ok (.iload 9, 2) := by decide +kernel
theorem dX4_yata_221 : decode cX4_yata 221 = .ok (.baload, 1) := by decide +kernel
theorem dX4_yata_222 : decode cX4_yata 222 = .ok (.ifCond .ne 17, 3) := by decide +kernel
theorem dX4_yata_225 : decode cX4_yata 225 = .ok (.iload 7, 2) := by decide +kernel
theorem dX4_yata_227 : decode cX4_yata 227 = .ok (.istore 4, 2) := by decide +kernel
theorem dX4_yata_229 : decode cX4_yata 229 = .ok (.aload_n 0, 1) := by decide +kernel
theorem dX4_yata_230 : decode cX4_yata 230 = .ok (.invokevirtual 115, 3) := by decide +kernel
theorem dX4_yata_233 : decode cX4_yata 233 = .ok (.goto 6, 3) := by decide +kernel
theorem dX4_yata_236 : decode cX4_yata 236 = .ok (.iconst 0, 1) := by decide +kernel
theorem dX4_yata_237 : decode cX4_yata 237 = .ok (.istore 6, 2) := by decide +kernel
theorem dX4_yata_239 : decode cX4_yata 239 = .ok (.iinc 7 1, 3) := by decide +kernel
theorem dX4_yata_242 : decode cX4_yata 242 = .ok (.goto (-174), 3) := by decide +kernel
theorem dX4_yata_245 : decode cX4_yata 245 = .ok (.aload_n 0, 1) := by decide +kernel
theorem dX4_yata_246 : decode cX4_yata 246 = .ok (.iload_n 1, 1) := by decide +kernel
theorem dX4_yata_247 : decode cX4_yata 247 = .ok (.iload_n 2, 1) := by decide +kernel
theorem dX4_yata_248 : decode cX4_yata 248 = .ok (.iload 4, 2) := by decide +kernel
theorem dX4_yata_250 : decode cX4_yata 250 = .ok (.iconst 1, 1) := by decide +kernel
theorem dX4_yata_251 : decode cX4_yata 251 = .ok (.iadd, 1) := by decide +kernel
theorem dX4_yata_252 : decode cX4_yata 252 = .ok (.invokevirtual 111, 3) := by decide +kernel
theorem dX4_yata_255 : decode cX4_yata 255 = .ok (.return_, 1) := by decide +kernel
theorem dX4_isThere_0 : decode cX4_isThere 0 = .ok (.iload_n 2, 1) := by decide +kernel
theorem dX4_isThere_1 : decode cX4_isThere 1 = .ok (.iconst (-1), 1) := by decide +kernel
theorem dX4_isThere_2 : decode cX4_isThere 2 = .ok (.if_icmp .eq 23, 3) := by decide +kernel
theorem dX4_isThere_5 : decode cX4_isThere 5 = .ok (.iload_n 2, 1) := by decide +kernel
theorem dX4_isThere_6 : decode cX4_isThere 6 = .ok (.bipush 60, 2) := by decide +kernel
theorem dX4_isThere_8 : decode cX4_isThere 8 = .ok (.if_icmp .eq 17, 3) := by decide +kernel
theorem dX4_isThere_11 : decode cX4_isThere 11 = .ok (.aload_n 0, 1) := by decide +kernel
theorem dX4_isThere_12 : decode cX4_isThere 12 = .ok (.getfield 53, 3) := by decide +kernel
theorem dX4_isThere_15 : decode cX4_isThere 15 = .ok (.bipush 60, 2) := by decide +kernel
theorem dX4_isThere_17 : decode cX4_isThere 17 = .ok (.iload_n 1, 1) := by decide +kernel
theorem dX4_isThere_18 : decode cX4_isThere 18 = .ok (.imul, 1) := by decide +kernel
theorem dX4_isThere_19 : decode cX4_isThere 19 = .ok (.iload_n 2, 1) := by decide +kernel
theorem dX4_isThere_20 : decode cX4_isThere 20 = .ok (.iadd, 1) := by decide +kernel
theorem dX4_isThere_21 : decode cX4_isThere 21 = .ok (.baload, 1) := by decide +kernel
theorem dX4_isThere_22 : decode cX4_isThere 22 = .ok (.ifCond .eq 7, 3) := by decide +kernel
theorem dX4_isThere_25 : decode cX4_isThere 25 = .ok (.iconst 1, 1) := by decide +kernel
theorem dX4_isThere_26 : decode cX4_isThere 26 = .ok (.goto 4, 3) := by decide +kernel
theorem dX4_isThere_29 : decode cX4_isThere 29 = .ok (.iconst 0, 1) := by decide +kernel
theorem dX4_isThere_30 : decode cX4_isThere 30 = .ok (.ireturn, 1) := by decide +kernel
set_option maxRecDepth 20000 in
theorem ggX4_can_X4_isThere : GoodIn wsX4_can wsX4_isThere := goodIn_r _ [9, 10, 11, 12, 13, 14, 15, 16, 17, 18, 19, 20, 21, 22, 23, 24, 25, 26, 27, 28, 29, 30, 31, 32, 33, 34, 35, 36, 37, 38, 39] (by decide +kernel) (by decide +kernel)
set_option maxRecDepth 20000 in
theorem gX4_can_X4_isThere : GoodIn wsX4_can (wsV RX4 118 RX4 yX4_isThere wsX4_isThere) := goodIn_app (goodIn_of _ (by decide +kernel)) ggX4_can_X4_isThere
theorem dX4_can_0 : decode cX4_can 0 = .ok (.aload_n 0, 1) := by decide +kernel
theorem dX4_can_1 : decode cX4_can 1 = .ok (.getfield 41, 3) := by decide +kernel
theorem dX4_can_4 : decode cX4_can 4 = .ok (.sipush 160, 3) := by decide +kernel
theorem dX4_can_7 : decode cX4_can 7 = .ok (.iload_n 2, 1) := by decide +kernel
theorem dX4_can_8 : decode cX4_can 8 = .ok (.imul, 1) := by decide +kernel
theorem dX4_can_9 : decode cX4_can 9 = .ok (.iload_n 3, 1) := by decide +kernel
theorem dX4_can_10 : decode cX4_can 10 = .ok (.iadd, 1) := by decide +kernel
theorem dX4_can_11 : decode cX4_can 11 = .ok (.iaload, 1) := by decide +kernel
theorem dX4_can_12 : decode cX4_can 12 = .ok (.istore 4, 2) := by decide +kernel
theorem dX4_can_14 : decode cX4_can 14 = .ok (.aload_n 0, 1) := by decide +kernel
theorem dX4_can_15 : decode cX4_can 15 = .ok (.getfield 37, 3) := by decide +kernel
theorem dX4_can_18 : decode cX4_can 18 = .ok (.sipush 160, 3) := by decide +kernel
theorem dX4_can_21 : decode cX4_can 21 = .ok (.iload_n 2, 1) := by decide +kernel
theorem dX4_can_22 : decode cX4_can 22 = .ok (.imul, 1) := by decide +kernel
theorem dX4_can_23 : decode cX4_can 23 = .ok (.iload_n 3, 1) := by decide +kernel
theorem dX4_can_24 : decode cX4_can 24 = .ok (.iadd, 1) := by decide +kernel
theorem dX4_can_25 : decode cX4_can 25 = .ok (.baload, 1) := by decide +kernel
theorem dX4_can_26 : decode cX4_can 26 = .ok (.ifCond .eq 11, 3) := by decide +kernel
theorem dX4_can_29 : decode cX4_can 29 = .ok (.aload_n 0, 1) := by decide +kernel
theorem dX4_can_30 : decode cX4_can 30 = .ok (.iload_n 1, 1) := by decide +kernel
theorem dX4_can_31 : decode cX4_can 31 = .ok (.iload 4, 2) := by decide +kernel
theorem dX4_can_33 : decode cX4_can 33 = .ok (.invokevirtual 118, 3) := by decide +kernel
theorem dX4_can_36 : decode cX4_can 36 = .ok (.ireturn, 1) := by decide +kernel
theorem dX4_can_37 : decode cX4_can 37 = .ok (.aload_n 0, 1) := by decide +kernel
theorem dX4_can_38 : decode cX4_can 38 = .ok (.iload_n 1, 1) := by decide +kernel
theorem dX4_can_39 : decode cX4_can 39 = .ok (.aload_n 0, 1) := by decide +kernel
theorem dX4_can_40 : decode cX4_can 40 = .ok (.getfield 22, 3) := by decide +kernel
theorem dX4_can_43 : decode cX4_can 43 = .ok (.bipush 60, 2) := by decide +kernel
theorem dX4_can_45 : decode cX4_can 45 = .ok (.iload_n 2, 1) := by decide +kernel
theorem dX4_can_46 : decode cX4_can 46 = .ok (.imul, 1) := by decide +kernel
theorem dX4_can_47 : decode cX4_can 47 = .ok (.iload 4, 2) := by decide +kernel
theorem dX4_can_49 : decode cX4_can 49 = .ok (.iadd, 1) := by decide +kernel
theorem dX4_can_50 : decode cX4_can 50 = .ok (.iaload, 1) := by decide +kernel
theorem dX4_can_51 : decode cX4_can 51 = .ok (.invokevirtual 118, 3) := by decide +kernel
theorem dX4_can_54 : decode cX4_can 54 = .ok (.ifCond .eq 27, 3) := by decide +kernel
theorem dX4_can_57 : decode cX4_can 57 = .ok (.aload_n 0, 1) := by decide +kernel
theorem dX4_can_58 : decode cX4_can 58 = .ok (.iload_n 1, 1) := by decide +kernel
theorem dX4_can_59 : decode cX4_can 59 = .ok (.aload_n 0, 1) := by decide +kernel
theorem dX4_can_60 : decode cX4_can 60 = .ok (.getfield 25, 3) := by decide +kernel
theorem dX4_can_63 : decode cX4_can 63 = .ok (.bipush 60, 2) := by decide +kernel
theorem dX4_can_65 : decode cX4_can 65 = .ok (.iload_n 2, 1) := by decide +kernel
theorem dX4_can_66 : decode cX4_can 66 = .ok (.imul, 1) := by decide +kernel
theorem dX4_can_67 : decode cX4_can 67 = .ok (.iload 4, 2) := by decide +kernel
theorem dX4_can_69 : decode cX4_can 69 = .ok (.iadd, 1) := by decide +kernel
theorem dX4_can_70 : decode cX4_can 70 = .ok (.iaload, 1) := by decide +kernel
theorem dX4_can_71 : decode cX4_can 71 = .ok (.invokevirtual 118, 3) := by decide +kernel
theorem dX4_can_74 : decode cX4_can 74 = .ok (.ifCond .eq 7, 3) := by decide +kernel
theorem dX4_can_77 : decode cX4_can 77 = .ok (.iconst 1, 1) := by decide +kernel
theorem dX4_can_78 : decode cX4_can 78 = .ok (.goto 4, 3) := by decide +kernel
theorem dX4_can_81 : decode cX4_can 81 = .ok (.iconst 0, 1) := by decide +kernel
theorem dX4_can_82 : decode cX4_can 82 = .ok (.ireturn, 1) := by decide +kernel
set_option maxRecDepth 20000 in
theorem ggX4_does_X4_integrate : GoodIn wsX4_does wsX4_integrate := goodIn_r _ [9, 10, 11, 12, 13, 8, 14, 15, 16, 17, 18, 19, 20, 21, 22, 23, 24, 25, 26, 27, 28, 29, 30, 31, 32, 33, 34, 35, 36, 37, 38, 39, 40, 41, 42, 43, 44, 45, 46, 47, 48, 49, 50, 51, 52, 53, 54, 55, 56, 57, 58, 59, 60, 61, 62, 63, 64, 65, 66, 67, 68, 69, 70, 71, 72, 73, 74] (by decide +kernel) (by decide +kernel)
set_option maxRecDepth 20000 in
theorem gX4_does_X4_integrate : GoodIn wsX4_does (wsV RX4 122 RX4 yX4_integrate wsX4_integrate) := goodIn_app (goodIn_of _ (by decide +kernel)) ggX4_does_X4_integrate
theorem dX4_does_0 : decode cX4_does 0 = .ok (.aload_n 0, 1) := by decide +kernel
theorem dX4_does_1 : decode cX4_does 1 = .ok (.getfield 41, 3) := by decide +kernel
theorem dX4_does_4 : decode cX4_does 4 = .ok (.sipush 160, 3) := by decide +kernel
theorem dX4_does_7 : decode cX4_does 7 = .ok (.iload_n 2, 1) := by decide +kernel
theorem dX4_does_8 : decode cX4_does 8 = .ok (.imul, 1) := by decide +kernel
theorem dX4_does_9 : decode cX4_does 9 = .ok (.iload_n 3, 1) := by decide +kernel
theorem dX4_does_10 : decode cX4_does 10 = .ok (.iadd, 1) := by decide +kernel
theorem dX4_does_11 : decode cX4_does 11 = .ok (.iaload, 1) := by decide +kernel
theorem dX4_does_12 : decode cX4_does 12 = .ok (.istore 4, 2) := by decide +kernel
theorem dX4_does_14 : decode cX4_does 14 = .ok (.aload_n 0, 1) := by decide +kernel
theorem dX4_does_15 : decode cX4_does 15 = .ok (.getfield 59, 3) := by decide +kernel
theorem dX4_does_18 : decode cX4_does 18 = .ok (.sipush 160, 3) := by decide +kernel
theorem dX4_does_21 : decode cX4_does 21 = .ok (.iload_n 1, 1) := by decide +kernel
theorem dX4_does_22 : decode cX4_does 22 = .ok (.imul, 1) := by decide +kernel
theorem dX4_does_23 : decode cX4_does 23 = .ok (.iload_n 3, 1) := by decide +kernel
theorem dX4_does_24 : decode cX4_does 24 = .ok (.iadd, 1) := by decide +kernel
theorem dX4_does_25 : decode cX4_does 25 = .ok (.iconst 2, 1) := by decide +kernel
theorem dX4_does_26 : decode cX4_does 26 = .ok (.iastore, 1) := by decide +kernel
theorem dX4_does_27 : decode cX4_does 27 = .ok (.aload_n 0, 1) := by decide +kernel
theorem dX4_does_28 : decode cX4_does 28 = .ok (.getfield 37, 3) := by decide +kernel
theorem dX4_does_31 : decode cX4_does 31 = .ok (.sipush 160, 3) := by decide +kernel
theorem dX4_does_34 : decode cX4_does 34 = .ok (.iload_n 2, 1) := by decide +kernel
theorem dX4_does_35 : decode cX4_does 35 = .ok (.imul, 1) := by decide +kernel
theorem dX4_does_36 : decode cX4_does 36 = .ok (.iload_n 3, 1) := by decide +kernel
theorem dX4_does_37 : decode cX4_does 37 = .ok (.iadd, 1) := by decide +kernel
theorem dX4_does_38 : decode cX4_does 38 = .ok (.baload, 1) := by decide +kernel
theorem dX4_does_39 : decode cX4_does 39 = .ok (.ifCond .eq 19, 3) := by decide +kernel
theorem dX4_does_42 : decode cX4_does 42 = .ok (.aload_n 0, 1) := by decide +kernel
theorem dX4_does_43 : decode cX4_does 43 = .ok (.getfield 56, 3) := by decide +kernel
theorem dX4_does_46 : decode cX4_does 46 = .ok (.bipush 60, 2) := by decide +kernel
theorem dX4_does_48 : decode cX4_does 48 = .ok (.iload_n 1, 1) := by decide +kernel
theorem dX4_does_49 : decode cX4_does 49 = .ok (.imul, 1) := by decide +kernel
theorem dX4_does_50 : decode cX4_does 50 = .ok (.iload 4, 2) := by decide +kernel
theorem dX4_does_52 : decode cX4_does 52 = .ok (.iadd, 1) := by decide +kernel
theorem dX4_does_53 : decode cX4_does 53 = .ok (.iconst 1, 1) := by decide +kernel
theorem dX4_does_54 : decode cX4_does 54 = .ok (.bastore, 1) := by decide +kernel
theorem dX4_does_55 : decode cX4_does 55 = .ok (.goto 11, 3) := by decide +kernel
theorem dX4_does_58 : decode cX4_does 58 = .ok (.aload_n 0, 1) := by decide +kernel
theorem dX4_does_59 : decode cX4_does 59 = .ok (.iload_n 1, 1) := by decide +kernel
theorem dX4_does_60 : decode cX4_does 60 = .ok (.iload_n 2, 1) := by decide +kernel
theorem dX4_does_61 : decode cX4_does 61 = .ok (.iload 4, 2) := by decide +kernel
theorem dX4_does_63 : decode cX4_does 63 = .ok (.invokevirtual 122, 3) := by decide +kernel
theorem dX4_does_66 : decode cX4_does 66 = .ok (.return_, 1) := by decide +kernel
set_option maxRecDepth 20000 in
theorem ggX4_hears_X4_can : GoodIn wsX4_hears wsX4_can := goodIn_r _ [7, 8, 9, 10, 11, 12, 13, 14, 6, 15, 16, 59, 60, 61, 62, 63, 64, 65, 66, 67, 68, 69, 70, 71, 72, 73, 74, 75, 76, 77, 78, 79, 80, 81, 82, 83, 84, 85, 86, 87] (by decide +kernel) (by decide +kernel)
set_option maxRecDepth 20000 in
theorem gX4_hears_X4_can : GoodIn wsX4_hears (wsV RX4 125 RX4 yX4_can wsX4_can) := goodIn_app (goodIn_of _ (by decide +kernel)) ggX4_hears_X4_can
set_option maxRecDepth 20000 in
theorem ggX4_hears_X4_does : GoodIn wsX4_hears wsX4_does := goodIn_r _ [20, 8, 1, 9, 21, 22, 23, 24, 6, 25, 26, 27, 28, 29, 30, 10, 11, 31, 32, 33, 34, 35, 36, 37, 38, 39, 40, 41, 42, 43, 44, 45, 46, 47, 48, 16, 49, 50, 51, 52, 53, 54, 55, 56, 57, 58, 59, 60, 61, 62, 63, 64, 65, 66, 67, 68, 69, 70, 71, 72, 73, 74, 75, 76, 77, 78, 79, 80, 81, 82, 83, 84, 85, 86, 87] (by decide +kernel) (by decide +kernel)
set_option maxRecDepth 20000 in
theorem gX4_hears_X4_does : GoodIn wsX4_hears (wsV RX4 129 RX4 yX4_does wsX4_does) := goodIn_app (goodIn_of _ (by decide +kernel)) ggX4_hears_X4_does
theorem dX4_hears_0 : decode cX4_hears 0 = .ok (.aload_n 0, 1) := by decide +kernel
theorem dX4_hears_1 : decode cX4_hears 1 = .ok (.getfield 59, 3) := by decide +kernel
theorem dX4_hears_4 : decode cX4_hears 4 = .ok (.sipush 160, 3) := by decide +kernel
theorem dX4_hears_7 : decode cX4_hears 7 = .ok (.iload_n 1, 1) := by decide +kernel
theorem dX4_hears_8 : decode cX4_hears 8 = .ok (.imul, 1) := by decide +kernel
theorem dX4_hears_9 : decode cX4_hears 9 = .ok (.iload_n 3, 1) := by decide +kernel
theorem dX4_hears_10 : decode cX4_hears 10 = .ok (.iadd, 1) := by decide +kernel
theorem dX4_hears_11 : decode cX4_hears 11 = .ok (.iaload, 1) := by decide +kernel
theorem dX4_hears_12 : decode cX4_hears 12 = .ok (.ifCond .eq 5, 3) := by decide +kernel
theorem dX4_hears_15 : decode cX4_hears 15 = .ok (.iconst 0, 1) := by decide +kernel
theorem dX4_hears_16 : decode cX4_hears 16 = .ok (.ireturn, 1) := by decide +kernel
theorem dX4_hears_17 : decode cX4_hears 17 = .ok (.aload_n 0, 1) := by decide +kernel
theorem dX4_hears_18 : decode cX4_hears 18 = .ok (.iload_n 1, 1) := by decide +kernel
theorem dX4_hears_19 : decode cX4_hears 19 = .ok (.iload_n 2, 1) := by decide +kernel
theorem dX4_hears_20 : decode cX4_hears 20 = .ok (.iload_n 3, 1) := by decide +kernel
theorem dX4_hears_21 : decode cX4_hears 21 = .ok (.invokevirtual 125, 3) := by decide +kernel
theorem dX4_hears_24 : decode cX4_hears 24 = .ok (.ifCond .ne 18, 3) := by decide +kernel
theorem dX4_hears_27 : decode cX4_hears 27 = .ok (.aload_n 0, 1) := by decide +kernel
theorem dX4_hears_28 : decode cX4_hears 28 = .ok (.getfield 59, 3) := by decide +kernel
theorem dX4_hears_31 : decode cX4_hears 31 = .ok (.sipush 160, 3) := by decide +kernel
theorem dX4_hears_34 : decode cX4_hears 34 = .ok (.iload_n 1, 1) := by decide +kernel
theorem dX4_hears_35 : decode cX4_hears 35 = .ok (.imul, 1) := by decide +kernel
theorem dX4_hears_36 : decode cX4_hears 36 = .ok (.iload_n 3, 1) := by decide +kernel
theorem dX4_hears_37 : decode cX4_hears 37 = .ok (.iadd, 1) := by decide +kernel
theorem dX4_hears_38 : decode cX4_hears 38 = .ok (.iconst 1, 1) := by decide +kernel
theorem dX4_hears_39 : decode cX4_hears 39 = .ok (.iastore, 1) := by decide +kernel
theorem dX4_hears_40 : decode cX4_hears 40 = .ok (.iconst 0, 1) := by decide +kernel
theorem dX4_hears_41 : decode cX4_hears 41 = .ok (.ireturn, 1) := by decide +kernel
theorem dX4_hears_42 : decode cX4_hears 42 = .ok (.aload_n 0, 1) := by decide +kernel
theorem dX4_hears_43 : decode cX4_hears 43 = .ok (.iload_n 1, 1) := by decide +kernel
theorem dX4_hears_44 : decode cX4_hears 44 = .ok (.iload_n 2, 1) := by decide +kernel
theorem dX4_hears_45 : decode cX4_hears 45 = .ok (.iload_n 3, 1) := by decide +kernel
theorem dX4_hears_46 : decode cX4_hears 46 = .ok (.invokevirtual 129, 3) := by decide +kernel
theorem dX4_hears_49 : decode cX4_hears 49 = .ok (.iconst 1, 1) := by decide +kernel
theorem dX4_hears_50 : decode cX4_hears 50 = .ok (.istore 4, 2) := by decide +kernel
theorem dX4_hears_52 : decode cX4_hears 52 = .ok (.iconst 0, 1) := by decide +kernel
theorem dX4_hears_53 : decode cX4_hears 53 = .ok (.istore 5, 2) := by decide +kernel
theorem dX4_hears_55 : decode cX4_hears 55 = .ok (.iload 5, 2) := by decide +kernel
theorem dX4_hears_57 : decode cX4_hears 57 = .ok (.aload_n 0, 1) := by decide +kernel
theorem dX4_hears_58 : decode cX4_hears 58 = .ok (.getfield 31, 3) := by decide +kernel
theorem dX4_hears_61 : decode cX4_hears 61 = .ok (.iload_n 2, 1) := by decide +kernel
theorem dX4_hears_62 : decode cX4_hears 62 = .ok (.iaload, 1) := by decide +kernel
theorem dX4_hears_63 : decode cX4_hears 63 = .ok (.if_icmp .ge 60, 3) := by decide +kernel
theorem dX4_hears_66 : decode cX4_hears 66 = .ok (.aload_n 0, 1) := by decide +kernel
theorem dX4_hears_67 : decode cX4_hears 67 = .ok (.getfield 59, 3) := by decide +kernel
theorem dX4_hears_70 : decode cX4_hears 70 = .ok (.sipush 160, 3) := by decide +kernel
theorem dX4_hears_73 : decode cX4_hears 73 = .ok (.iload_n 1, 1) := by decide +kernel
theorem dX4_hears_74 : decode cX4_hears 74 = .ok (.imul, 1) := by decide +kernel
theorem dX4_hears_75 : decode cX4_hears 75 = .ok (.iload 5, 2) := by decide +kernel
theorem dX4_hears_77 : decode cX4_hears 77 = .ok (.iadd, 1) := by decide +kernel
theorem dX4_hears_78 : decode cX4_hears 78 = .ok (.iaload, 1) := by decide +kernel
theorem dX4_hears_79 : decode cX4_hears 79 = .ok (.iconst 1, 1) := by decide +kernel
theorem dX4_hears_80 : decode cX4_hears 80 = .ok (.if_icmp .ne 34, 3) := by decide +kernel
theorem dX4_hears_83 : decode cX4_hears 83 = .ok (.aload_n 0, 1) := by decide +kernel
theorem dX4_hears_84 : decode cX4_hears 84 = .ok (.iload_n 1, 1) := by decide +kernel
theorem dX4_hears_85 : decode cX4_hears 85 = .ok (.iload_n 2, 1) := by decide +kernel
theorem dX4_hears_86 : decode cX4_hears 86 = .ok (.iload 5, 2) := by decide +kernel
theorem dX4_hears_88 : decode cX4_hears 88 = .ok (.invokevirtual 125, 3) := by decide +kernel
theorem dX4_hears_91 : decode cX4_hears 91 = .ok (.ifCond .eq 23, 3) := by decide +kernel
theorem dX4_hears_94 : decode cX4_hears 94 = .ok (.aload_n 0, 1) := by decide +kernel
theorem dX4_hears_95 : decode cX4_hears 95 = .ok (.iload_n 1, 1) := by decide +kernel
theorem dX4_hears_96 : decode cX4_hears 96 = .ok (.iload_n 2, 1) := by decide +kernel
theorem dX4_hears_97 : decode cX4_hears 97 = .ok (.iload 5, 2) := by decide +kernel
theorem dX4_hears_99 : decode cX4_hears 99 = .ok (.invokevirtual 129, 3) := by decide +kernel
theorem dX4_hears_102 : decode cX4_hears 102 = .ok (.iload 4, 2) := by decide +kernel
theorem dX4_hears_104 : decode cX4_hears 104 = .ok (.iconst 1, 1) := by decide +kernel
theorem dX4_hears_105 : decode cX4_hears 105 = .ok (.iadd, 1) := by decide +kernel
theorem dX4_hears_106 : decode cX4_hears 106 = .ok (.istore 4, 2) := by decide +kernel
theorem dX4_hears_108 : decode cX4_hears 108 = .ok (.iconst 0, 1) := by decide +kernel
theorem dX4_hears_109 : decode cX4_hears 109 = .ok (.istore 5, 2) := by decide +kernel
theorem dX4_hears_111 : decode cX4_hears 111 = .ok (.goto (-56), 3) := by decide +kernel
theorem dX4_hears_114 : decode cX4_hears 114 = .ok (.iload 5, 2) := by decide +kernel
theorem dX4_hears_116 : decode cX4_hears 116 = .ok (.iconst 1, 1) := by decide +kernel
theorem dX4_hears_117 : decode cX4_hears 117 = .ok (.iadd, 1) := by decide +kernel
theorem dX4_hears_118 : decode cX4_hears 118 = .ok (.istore 5, 2) := by decide +kernel
theorem dX4_hears_120 : decode cX4_hears 120 = .ok (.goto (-65), 3) := by decide +kernel
theorem dX4_hears_123 : decode cX4_hears 123 = .ok (.iload 4, 2) := by decide +kernel
theorem dX4_hears_125 : decode cX4_hears 125 = .ok (.ireturn, 1) := by decide +kernel
theorem dX4_begins_0 : decode cX4_begins 0 = .ok (.aload_n 0, 1) := by decide +kernel
theorem dX4_begins_1 : decode cX4_begins 1 = .ok (.iconst 0, 1) := by decide +kernel
theorem dX4_begins_2 : decode cX4_begins 2 = .ok (.putfield 105, 3) := by decide +kernel
theorem dX4_begins_5 : decode cX4_begins 5 = .ok (.aload_n 0, 1) := by decide +kernel
theorem dX4_begins_6 : decode cX4_begins 6 = .ok (.iconst 0, 1) := by decide +kernel
theorem dX4_begins_7 : decode cX4_begins 7 = .ok (.putfield 91, 3) := by decide +kernel
theorem dX4_begins_10 : decode cX4_begins 10 = .ok (.return_, 1) := by decide +kernel
theorem dX4_ends_0 : decode cX4_ends 0 = .ok (.aload_n 0, 1) := by decide +kernel
theorem dX4_ends_1 : decode cX4_ends 1 = .ok (.getfield 91, 3) := by decide +kernel
theorem dX4_ends_4 : decode cX4_ends 4 = .ok (.ifCond .le 13, 3) := by decide +kernel
theorem dX4_ends_7 : decode cX4_ends 7 = .ok (.aload_n 0, 1) := by decide +kernel
theorem dX4_ends_8 : decode cX4_ends 8 = .ok (.getfield 62, 3) := by decide +kernel
theorem dX4_ends_11 : decode cX4_ends 11 = .ok (.iload_n 1, 1) := by decide +kernel
theorem dX4_ends_12 : decode cX4_ends 12 = .ok (.aload_n 0, 1) := by decide +kernel
theorem dX4_ends_13 : decode cX4_ends 13 = .ok (.getfield 105, 3) := by decide +kernel
theorem dX4_ends_16 : decode cX4_ends 16 = .ok (.iastore, 1) := by decide +kernel
theorem dX4_ends_17 : decode cX4_ends 17 = .ok (.return_, 1) := by decide +kernel
theorem dX4_seen_0 : decode cX4_seen 0 = .ok (.iconst 0, 1) := by decide +kernel
theorem dX4_seen_1 : decode cX4_seen 1 = .ok (.istore_n 3, 1) := by decide +kernel
theorem dX4_seen_2 : decode cX4_seen 2 = .ok (.iconst 0, 1) := by decide +kernel
theorem dX4_seen_3 : decode cX4_seen 3 = .ok (.istore 4, 2) := by decide +kernel
theorem dX4_seen_5 : decode cX4_seen 5 = .ok (.iload 4, 2) := by decide +kernel
theorem dX4_seen_7 : decode cX4_seen 7 = .ok (.aload_n 0, 1) := by decide +kernel
theorem dX4_seen_8 : decode cX4_seen 8 = .ok (.getfield 50, 3) := by decide +kernel
theorem dX4_seen_11 : decode cX4_seen 11 = .ok (.iload_n 1, 1) := by decide +kernel
theorem dX4_seen_12 : decode cX4_seen 12 = .ok (.iaload, 1) := by decide +kernel
theorem dX4_seen_13 : decode cX4_seen 13 = .ok (.if_icmp .ge 49, 3) := by decide +kernel
theorem dX4_seen_16 : decode cX4_seen 16 = .ok (.aload_n 0, 1) := by decide +kernel
theorem dX4_seen_17 : decode cX4_seen 17 = .ok (.getfield 56, 3) := by decide +kernel
theorem dX4_seen_20 : decode cX4_seen 20 = .ok (.bipush 60, 2) := by decide +kernel
theorem dX4_seen_22 : decode cX4_seen 22 = .ok (.iload_n 1, 1) := by decide +kernel
theorem dX4_seen_23 : decode cX4_seen 23 = .ok (.imul, 1) := by decide +kernel
theorem dX4_seen_24 : decode cX4_seen 24 = .ok (.aload_n 0, 1) := by decide +kernel
theorem dX4_seen_25 : decode cX4_seen 25 = .ok (.getfield 47, 3) := by decide +kernel
theorem dX4_seen_28 : decode cX4_seen 28 = .ok (.bipush 60, 2) := by decide +kernel
theorem dX4_seen_30 : decode cX4_seen 30 = .ok (.iload_n 1, 1) := by decide +kernel
theorem dX4_seen_31 : decode cX4_seen 31 = .ok (.imul, 1) := by decide +kernel
theorem dX4_seen_32 : decode cX4_seen 32 = .ok (.iload 4, 2) := by decide +kernel
theorem dX4_seen_34 : decode cX4_seen 34 = .ok (.iadd, 1) := by decide +kernel
theorem dX4_seen_35 : decode cX4_seen 35 = .ok (.iaload, 1) := by decide +kernel
theorem dX4_seen_36 : decode cX4_seen 36 = .ok (.iadd, 1) := by decide +kernel
theorem dX4_seen_37 : decode cX4_seen 37 = .ok (.baload, 1) := by decide +kernel
theorem dX4_seen_38 : decode cX4_seen 38 = .ok (.ifCond .eq 6, 3) := by decide +kernel
theorem dX4_seen_41 : decode cX4_seen 41 = .ok (.goto 15, 3) := by decide +kernel
theorem dX4_seen_44 : decode cX4_seen 44 = .ok (.iload_n 3, 1) := by decide +kernel
theorem dX4_seen_45 : decode cX4_seen 45 = .ok (.iload_n 2, 1) := by decide +kernel
theorem dX4_seen_46 : decode cX4_seen 46 = .ok (.if_icmp .ne 6, 3) := by decide +kernel
theorem dX4_seen_49 : decode cX4_seen 49 = .ok (.iload 4, 2) := by decide +kernel
theorem dX4_seen_51 : decode cX4_seen 51 = .ok (.ireturn, 1) := by decide +kernel
theorem dX4_seen_52 : decode cX4_seen 52 = .ok (.iload_n 3, 1) := by decide +kernel
theorem dX4_seen_53 : decode cX4_seen 53 = .ok (.iconst 1, 1) := by decide +kernel
theorem dX4_seen_54 : decode cX4_seen 54 = .ok (.iadd, 1) := by decide +kernel
theorem dX4_seen_55 : decode cX4_seen 55 = .ok (.istore_n 3, 1) := by decide +kernel
theorem dX4_seen_56 : decode cX4_seen 56 = .ok (.iinc 4 1, 3) := by decide +kernel
theorem dX4_seen_59 : decode cX4_seen 59 = .ok (.goto (-54), 3) := by decide +kernel
theorem dX4_seen_62 : decode cX4_seen 62 = .ok (.iconst (-1), 1) := by decide +kernel
theorem dX4_seen_63 : decode cX4_seen 63 = .ok (.ireturn, 1) := by decide +kernel
theorem dX4_allSeen_0 : decode cX4_allSeen 0 = .ok (.iconst 0, 1) := by decide +kernel
theorem dX4_allSeen_1 : decode cX4_allSeen 1 = .ok (.istore_n 2, 1) := by decide +kernel
theorem dX4_allSeen_2 : decode cX4_allSeen 2 = .ok (.iconst 0, 1) := by decide +kernel
theorem dX4_allSeen_3 : decode cX4_allSeen 3 = .ok (.istore_n 3, 1) := by decide +kernel
theorem dX4_allSeen_4 : decode cX4_allSeen 4 = .ok (.iload_n 3, 1) := by decide +kernel
theorem dX4_allSeen_5 : decode cX4_allSeen 5 = .ok (.aload_n 0, 1) := by decide +kernel
theorem dX4_allSeen_6 : decode cX4_allSeen 6 = .ok (.getfield 50, 3) := by decide +kernel
theorem dX4_allSeen_9 : decode cX4_allSeen 9 = .ok (.iload_n 1, 1) := by decide +kernel
theorem dX4_allSeen_10 : decode cX4_allSeen 10 = .ok (.iaload, 1) := by decide +kernel
theorem dX4_allSeen_11 : decode cX4_allSeen 11 = .ok (.if_icmp .ge 41, 3) := by decide +kernel
theorem dX4_allSeen_14 : decode cX4_allSeen 14 = .ok (.iload_n 2, 1) := by decide +kernel
theorem dX4_allSeen_15 : decode cX4_allSeen 15 = .ok (.aload_n 0, 1) := by decide +kernel
theorem dX4_allSeen_16 : decode cX4_allSeen 16 = .ok (.getfield 56, 3) := by decide +kernel
theorem dX4_allSeen_19 : decode cX4_allSeen 19 = .ok (.bipush 60, 2) := by decide +kernel
theorem dX4_allSeen_21 : decode cX4_allSeen 21 = .ok (.iload_n 1, 1) := by decide +kernel
theorem dX4_allSeen_22 : decode cX4_allSeen 22 = .ok (.imul, 1) := by decide +kernel
theorem dX4_allSeen_23 : decode cX4_allSeen 23 = .ok (.aload_n 0, 1) := by decide +kernel
theorem dX4_allSeen_24 : decode cX4_allSeen 24 = .ok (.getfield 47, 3) := by decide +kernel
theorem dX4_allSeen_27 : decode cX4_allSeen 27 = .ok (.bipush 60, 2) := by decide +kernel
theorem dX4_allSeen_29 : decode cX4_allSeen 29 = .ok (.iload_n 1, 1) := by decide +kernel
theorem dX4_allSeen_30 : decode cX4_allSeen 30 = .ok (.imul, 1) := by decide +kernel
theorem dX4_allSeen_31 : decode cX4_allSeen 31 = .ok (.iload_n 3, 1) := by decide +kernel
theorem dX4_allSeen_32 : decode cX4_allSeen 32 = .ok (.iadd, 1) := by decide +kernel
theorem dX4_allSeen_33 : decode cX4_allSeen 33 = .ok (.iaload, 1) := by decide +kernel
theorem dX4_allSeen_34 : decode cX4_allSeen 34 = .ok (.iadd, 1) := by decide +kernel
theorem dX4_allSeen_35 : decode cX4_allSeen 35 = .ok (.baload, 1) := by decide +kernel
theorem dX4_allSeen_36 : decode cX4_allSeen 36 = .ok (.ifCond .eq 7, 3) := by decide +kernel
theorem dX4_allSeen_39 : decode cX4_allSeen 39 = .ok (.iconst 0, 1) := by decide +kernel
theorem dX4_allSeen_40 : decode cX4_allSeen 40 = .ok (.goto 4, 3) := by decide +kernel
theorem dX4_allSeen_43 : decode cX4_allSeen 43 = .ok (.iconst 1, 1) := by decide +kernel
theorem dX4_allSeen_44 : decode cX4_allSeen 44 = .ok (.iadd, 1) := by decide +kernel
theorem dX4_allSeen_45 : decode cX4_allSeen 45 = .ok (.istore_n 2, 1) := by decide +kernel
theorem dX4_allSeen_46 : decode cX4_allSeen 46 = .ok (.iinc 3 1, 3) := by decide +kernel
theorem dX4_allSeen_49 : decode cX4_allSeen 49 = .ok (.goto (-45), 3) := by decide +kernel
theorem dX4_allSeen_52 : decode cX4_allSeen 52 = .ok (.iload_n 2, 1) := by decide +kernel
theorem dX4_allSeen_53 : decode cX4_allSeen 53 = .ok (.ireturn, 1) := by decide +kernel
theorem dX4_message_0 : decode cX4_message 0 = .ok (.aload_n 0, 1) := by decide +kernel
theorem dX4_message_1 : decode cX4_message 1 = .ok (.getfield 31, 3) := by decide +kernel
theorem dX4_message_4 : decode cX4_message 4 = .ok (.iload_n 1, 1) := by decide +kernel
theorem dX4_message_5 : decode cX4_message 5 = .ok (.iaload, 1) := by decide +kernel
theorem dX4_message_6 : decode cX4_message 6 = .ok (.istore 5, 2) := by decide +kernel
theorem dX4_message_8 : decode cX4_message 8 = .ok (.aload_n 0, 1) := by decide +kernel
theorem dX4_message_9 : decode cX4_message 9 = .ok (.getfield 37, 3) := by decide +kernel
theorem dX4_message_12 : decode cX4_message 12 = .ok (.sipush 160, 3) := by decide +kernel
theorem dX4_message_15 : decode cX4_message 15 = .ok (.iload_n 1, 1) := by decide +kernel
theorem dX4_message_16 : decode cX4_message 16 = .ok (.imul, 1) := by decide +kernel
theorem dX4_message_17 : decode cX4_message 17 = .ok (.iload 5, 2) := by decide +kernel
theorem dX4_message_19 : decode cX4_message 19 = .ok (.iadd, 1) := by decide +kernel
theorem dX4_message_20 : decode cX4_message 20 = .ok (.iload 4, 2) := by decide +kernel
theorem dX4_message_22 : decode cX4_message 22 = .ok (.bastore, 1) := by decide +kernel
theorem dX4_message_23 : decode cX4_message 23 = .ok (.aload_n 0, 1) := by decide +kernel
theorem dX4_message_24 : decode cX4_message 24 = .ok (.getfield 41, 3) := by decide +kernel
theorem dX4_message_27 : decode cX4_message 27 = .ok (.sipush 160, 3) := by decide +kernel
theorem dX4_message_30 : decode cX4_message 30 = .ok (.iload_n 1, 1) := by decide +kernel
theorem dX4_message_31 : decode cX4_message 31 = .ok (.imul, 1) := by decide +kernel
theorem dX4_message_32 : decode cX4_message 32 = .ok (.iload 5, 2) := by decide +kernel
theorem dX4_message_34 : decode cX4_message 34 = .ok (.iadd, 1) := by decide +kernel
theorem dX4_message_35 : decode cX4_message 35 = .ok (.iload_n 3, 1) := by decide +kernel
theorem dX4_message_36 : decode cX4_message 36 = .ok (.iastore, 1) := by decide +kernel
theorem dX4_message_37 : decode cX4_message 37 = .ok (.aload_n 0, 1) := by decide +kernel
theorem dX4_message_38 : decode cX4_message 38 = .ok (.getfield 44, 3) := by decide +kernel
theorem dX4_message_41 : decode cX4_message 41 = .ok (.sipush 160, 3) := by decide +kernel
theorem dX4_message_44 : decode cX4_message 44 = .ok (.iload_n 1, 1) := by decide +kernel
theorem dX4_message_45 : decode cX4_message 45 = .ok (.imul, 1) := by decide +kernel
theorem dX4_message_46 : decode cX4_message 46 = .ok (.iload 5, 2) := by decide +kernel
theorem dX4_message_48 : decode cX4_message 48 = .ok (.iadd, 1) := by decide +kernel
theorem dX4_message_49 : decode cX4_message 49 = .ok (.iload_n 2, 1) := by decide +kernel
theorem dX4_message_50 : decode cX4_message 50 = .ok (.iastore, 1) := by decide +kernel
theorem dX4_message_51 : decode cX4_message 51 = .ok (.aload_n 0, 1) := by decide +kernel
theorem dX4_message_52 : decode cX4_message 52 = .ok (.getfield 31, 3) := by decide +kernel
theorem dX4_message_55 : decode cX4_message 55 = .ok (.iload_n 1, 1) := by decide +kernel
theorem dX4_message_56 : decode cX4_message 56 = .ok (.iload 5, 2) := by decide +kernel
theorem dX4_message_58 : decode cX4_message 58 = .ok (.iconst 1, 1) := by decide +kernel
theorem dX4_message_59 : decode cX4_message 59 = .ok (.iadd, 1) := by decide +kernel
theorem dX4_message_60 : decode cX4_message 60 = .ok (.iastore, 1) := by decide +kernel
theorem dX4_message_61 : decode cX4_message 61 = .ok (.iload 5, 2) := by decide +kernel
theorem dX4_message_63 : decode cX4_message 63 = .ok (.ireturn, 1) := by decide +kernel
set_option maxRecDepth 20000 in
theorem ggX4_insert_X4_isText : GoodIn wsX4_insert wsX4_isText := goodIn_r _ [15] (by decide +kernel) (by decide +kernel)
set_option maxRecDepth 20000 in
theorem gX4_insert_X4_isText : GoodIn wsX4_insert (wsV RX4 132 RX4 yX4_isText wsX4_isText) := goodIn_app (goodIn_of _ (by decide +kernel)) ggX4_insert_X4_isText
set_option maxRecDepth 20000 in
theorem ggX4_insert_X4_isSite : GoodIn wsX4_insert wsX4_isSite := goodIn_r _ [19] (by decide +kernel) (by decide +kernel)
set_option maxRecDepth 20000 in
theorem gX4_insert_X4_isSite : GoodIn wsX4_insert (wsV RX4 136 RX4 yX4_isSite wsX4_isSite) := goodIn_app (goodIn_of _ (by decide +kernel)) ggX4_insert_X4_isSite
set_option maxRecDepth 20000 in
theorem ggX4_insert_X4_allSeen : GoodIn wsX4_insert wsX4_allSeen := goodIn_r _ [23, 3, 24, 9, 97, 98, 99, 100, 101, 102, 103, 104, 105, 106, 107, 108, 109, 110, 111, 112, 113, 114, 115, 116, 117, 118, 119, 120, 121, 122, 123, 124, 125] (by decide +kernel) (by decide +kernel)
set_option maxRecDepth 20000 in
theorem gX4_insert_X4_allSeen : GoodIn wsX4_insert (wsV RX4 139 RX4 yX4_allSeen wsX4_allSeen) := goodIn_app (goodIn_of _ (by decide +kernel)) ggX4_insert_X4_allSeen
set_option maxRecDepth 20000 in
theorem ggX4_insert_X4_seen : GoodIn wsX4_insert wsX4_seen := goodIn_r _ [28, 3, 24, 9, 97, 98, 99, 100, 101, 102, 103, 104, 105, 106, 107, 108, 109, 110, 111, 112, 113, 114, 115, 116, 117, 118, 119, 120, 121, 122, 123, 124, 125] (by decide +kernel) (by decide +kernel)
set_option maxRecDepth 20000 in
theorem gX4_insert_X4_seen : GoodIn wsX4_insert (wsV RX4 143 RX4 yX4_seen wsX4_seen) := goodIn_app (goodIn_of _ (by decide +kernel)) ggX4_insert_X4_seen
set_option maxRecDepth 20000 in
theorem ggX4_insert_X4_message : GoodIn wsX4_insert wsX4_message := goodIn_r _ [32, 33, 34, 35, 36, 97, 98, 99, 100, 101, 102, 103, 104, 105, 106, 107, 108, 109, 110, 111, 112, 113, 114, 115, 116, 117, 118, 119, 120, 121, 122, 123, 124, 125] (by decide +kernel) (by decide +kernel)
set_option maxRecDepth 20000 in
theorem gX4_insert_X4_message : GoodIn wsX4_insert (wsV RX4 146 RX4 yX4_message wsX4_message) := goodIn_app (goodIn_of _ (by decide +kernel)) ggX4_insert_X4_message
set_option maxRecDepth 20000 in
theorem ggX4_insert_X4_begins : GoodIn wsX4_insert wsX4_begins := goodIn_r _ [40, 41, 42, 97, 98, 99, 100, 101, 102, 103, 104, 105, 106, 107, 108, 109, 110, 111, 112, 113, 114, 115, 116, 117, 118, 119, 120, 121, 122, 123, 124, 125] (by decide +kernel) (by decide +kernel)
set_option maxRecDepth 20000 in
theorem gX4_insert_X4_begins : GoodIn wsX4_insert (wsV RX4 150 RX4 yX4_begins wsX4_begins) := goodIn_app (goodIn_of _ (by decide +kernel)) ggX4_insert_X4_begins
set_option maxRecDepth 20000 in
theorem ggX4_insert_X4_hears : GoodIn wsX4_insert wsX4_hears := goodIn_r _ [46, 47, 33, 48, 49, 50, 14, 51, 35, 34, 8, 10, 52, 53, 54, 55, 56, 57, 58, 59, 60, 24, 61, 62, 63, 64, 42, 65, 66, 67, 68, 69, 41, 9, 70, 71, 72, 73, 3, 74, 75, 76, 77, 4, 5, 78, 79, 80, 81, 82, 83, 84, 85, 86, 87, 88, 89, 90, 91, 97, 98, 99, 100, 101, 102, 103, 104, 105, 106, 107, 108, 109, 110, 111, 112, 113, 114, 115, 116, 117, 118, 119, 120, 121, 122, 123, 124, 125] (by decide +kernel) (by decide +kernel)
set_option maxRecDepth 20000 in
theorem gX4_insert_X4_hears : GoodIn wsX4_insert (wsV RX4 153 RX4 yX4_hears wsX4_hears) := goodIn_app (goodIn_of _ (by decide +kernel)) ggX4_insert_X4_hears
set_option maxRecDepth 20000 in
theorem ggX4_insert_X4_ends : GoodIn wsX4_insert wsX4_ends := goodIn_r _ [95, 42, 96, 41, 97, 98, 99, 100, 101, 102, 103, 104, 105, 106, 107, 108, 109, 110, 111, 112, 113, 114, 115, 116, 117, 118, 119, 120, 121, 122, 123, 124, 125] (by decide +kernel) (by decide +kernel)
set_option maxRecDepth 20000 in
theorem gX4_insert_X4_ends : GoodIn wsX4_insert (wsV RX4 157 RX4 yX4_ends wsX4_ends) := goodIn_app (goodIn_of _ (by decide +kernel)) ggX4_insert_X4_ends
theorem dX4_insert_0 : decode cX4_insert 0 = .ok (.aload_n 0, 1) := by decide +kernel
theorem dX4_insert_1 : decode cX4_insert 1 = .ok (.iconst 0, 1) := by decide +kernel
theorem dX4_insert_2 : decode cX4_insert 2 = .ok (.putfield 87, 3) := by decide +kernel
theorem dX4_insert_5 : decode cX4_insert 5 = .ok (.aload_n 0, 1) := by decide +kernel
theorem dX4_insert_6 : decode cX4_insert 6 = .ok (.iload_n 1, 1) := by decide +kernel
theorem dX4_insert_7 : decode cX4_insert 7 = .ok (.invokevirtual 132, 3) := by decide +kernel
theorem dX4_insert_10 : decode cX4_insert 10 = .ok (.ifCond .eq 25, 3) := by decide +kernel
theorem dX4_insert_13 : decode cX4_insert 13 = .ok (.aload_n 0, 1) := by decide +kernel
theorem dX4_insert_14 : decode cX4_insert 14 = .ok (.iload_n 2, 1) := by decide +kernel
theorem dX4_insert_15 : decode cX4_insert 15 = .ok (.invokevirtual 136, 3) := by decide +kernel
theorem dX4_insert_18 : decode cX4_insert 18 = .ok (.ifCond .eq 17, 3) := by decide +kernel
theorem dX4_insert_21 : decode cX4_insert 21 = .ok (.iload 4, 2) := by decide +kernel
theorem dX4_insert_23 : decode cX4_insert 23 = .ok (.bipush 32, 2) := by decide +kernel
theorem dX4_insert_25 : decode cX4_insert 25 = .ok (.if_icmp .lt 10, 3) := by decide +kernel
theorem dX4_insert_28 : decode cX4_insert 28 = .ok (.iload 4, 2) := by decide +kernel
theorem dX4_insert_30 : decode cX4_insert 30 = .ok (.bipush 126, 2) := by decide +kernel
theorem dX4_insert_32 : decode cX4_insert 32 = .ok (.if_icmp .le 5, 3) := by decide +kernel
theorem dX4_insert_35 : decode cX4_insert 35 = .ok (.iconst (-1), 1) := by decide +kernel
theorem dX4_insert_36 : decode cX4_insert 36 = .ok (.ireturn, 1) := by decide +kernel
theorem dX4_insert_37 : decode cX4_insert 37 = .ok (.iconst 5, 1) := by decide +kernel
theorem dX4_insert_38 : decode cX4_insert 38 = .ok (.iload_n 1, 1) := by decide +kernel
theorem dX4_insert_39 : decode cX4_insert 39 = .ok (.imul, 1) := by decide +kernel
theorem dX4_insert_40 : decode cX4_insert 40 = .ok (.iload_n 2, 1) := by decide +kernel
theorem dX4_insert_41 : decode cX4_insert 41 = .ok (.iadd, 1) := by decide +kernel
theorem dX4_insert_42 : decode cX4_insert 42 = .ok (.istore 5, 2) := by decide +kernel
theorem dX4_insert_44 : decode cX4_insert 44 = .ok (.iload_n 3, 1) := by decide +kernel
theorem dX4_insert_45 : decode cX4_insert 45 = .ok (.ifCond .lt 24, 3) := by decide +kernel
theorem dX4_insert_48 : decode cX4_insert 48 = .ok (.iload_n 3, 1) := by decide +kernel
theorem dX4_insert_49 : decode cX4_insert 49 = .ok (.aload_n 0, 1) := by decide +kernel
theorem dX4_insert_50 : decode cX4_insert 50 = .ok (.iload 5, 2) := by decide +kernel
theorem dX4_insert_52 : decode cX4_insert 52 = .ok (.invokevirtual 139, 3) := by decide +kernel
theorem dX4_insert_55 : decode cX4_insert 55 = .ok (.if_icmp .gt 14, 3) := by decide +kernel
theorem dX4_insert_58 : decode cX4_insert 58 = .ok (.aload_n 0, 1) := by decide +kernel
theorem dX4_insert_59 : decode cX4_insert 59 = .ok (.getfield 7, 3) := by decide +kernel
theorem dX4_insert_62 : decode cX4_insert 62 = .ok (.iload_n 1, 1) := by decide +kernel
theorem dX4_insert_63 : decode cX4_insert 63 = .ok (.iaload, 1) := by decide +kernel
theorem dX4_insert_64 : decode cX4_insert 64 = .ok (.bipush 60, 2) := by decide +kernel
theorem dX4_insert_66 : decode cX4_insert 66 = .ok (.if_icmp .ne 5, 3) := by decide +kernel
theorem dX4_insert_69 : decode cX4_insert 69 = .ok (.iconst (-1), 1) := by decide +kernel
theorem dX4_insert_70 : decode cX4_insert 70 = .ok (.ireturn, 1) := by decide +kernel
theorem dX4_insert_71 : decode cX4_insert 71 = .ok (.iload_n 3, 1) := by decide +kernel
theorem dX4_insert_72 : decode cX4_insert 72 = .ok (.ifCond .ne 7, 3) := by decide +kernel
theorem dX4_insert_75 : decode cX4_insert 75 = .ok (.iconst (-1), 1) := by decide +kernel
theorem dX4_insert_76 : decode cX4_insert 76 = .ok (.goto 12, 3) := by decide +kernel
theorem dX4_insert_79 : decode cX4_insert 79 = .ok (.aload_n 0, 1) := by decide +kernel
theorem dX4_insert_80 : decode cX4_insert 80 = .ok (.iload 5, 2) := by decide +kernel
theorem dX4_insert_82 : decode cX4_insert 82 = .ok (.iload_n 3, 1) := by decide +kernel
theorem dX4_insert_83 : decode cX4_insert 83 = .ok (.iconst 1, 1) := by decide +kernel
theorem dX4_insert_84 : decode cX4_insert 84 = .ok (.isub, 1) := by decide +kernel
theorem dX4_insert_85 : decode cX4_insert 85 = .ok (.invokevirtual 143, 3) := by decide +kernel
theorem dX4_insert_88 : decode cX4_insert 88 = .ok (.istore 6, 2) := by decide +kernel
theorem dX4_insert_90 : decode cX4_insert 90 = .ok (.iload_n 1, 1) := by decide +kernel
theorem dX4_insert_91 : decode cX4_insert 91 = .ok (.ifCond .ne 13, 3) := by decide +kernel
theorem dX4_insert_94 : decode cX4_insert 94 = .ok (.aload_n 0, 1) := by decide +kernel
theorem dX4_insert_95 : decode cX4_insert 95 = .ok (.iload 5, 2) := by decide +kernel
theorem dX4_insert_97 : decode cX4_insert 97 = .ok (.iload_n 3, 1) := by decide +kernel
theorem dX4_insert_98 : decode cX4_insert 98 = .ok (.invokevirtual 143, 3) := by decide +kernel
theorem dX4_insert_101 : decode cX4_insert 101 = .ok (.goto 25, 3) := by decide +kernel
theorem dX4_insert_104 : decode cX4_insert 104 = .ok (.iload 6, 2) := by decide +kernel
theorem dX4_insert_106 : decode cX4_insert 106 = .ok (.iconst 1, 1) := by decide +kernel
theorem dX4_insert_107 : decode cX4_insert 107 = .ok (.iadd, 1) := by decide +kernel
theorem dX4_insert_108 : decode cX4_insert 108 = .ok (.aload_n 0, 1) := by decide +kernel
theorem dX4_insert_109 : decode cX4_insert 109 = .ok (.getfield 50, 3) := by decide +kernel
theorem dX4_insert_112 : decode cX4_insert 112 = .ok (.iload 5, 2) := by decide +kernel
theorem dX4_insert_114 : decode cX4_insert 114 = .ok (.iaload, 1) := by decide +kernel
theorem dX4_insert_115 : decode cX4_insert 115 = .ok (.if_icmp .ge 10, 3) := by decide +kernel
theorem dX4_insert_118 : decode cX4_insert 118 = .ok (.iload 6, 2) := by decide +kernel
theorem dX4_insert_120 : decode cX4_insert 120 = .ok (.iconst 1, 1) := by decide +kernel
theorem dX4_insert_121 : decode cX4_insert 121 = .ok (.iadd, 1) := by decide +kernel
theorem dX4_insert_122 : decode cX4_insert 122 = .ok (.goto 4, 3) := by decide +kernel
theorem dX4_insert_125 : decode cX4_insert 125 = .ok (.iconst (-1), 1) := by decide +kernel
theorem dX4_insert_126 : decode cX4_insert 126 = .ok (.istore 7, 2) := by decide +kernel
theorem dX4_insert_128 : decode cX4_insert 128 = .ok (.aload_n 0, 1) := by decide +kernel
theorem dX4_insert_129 : decode cX4_insert 129 = .ok (.getfield 7, 3) := by decide +kernel
theorem dX4_insert_132 : decode cX4_insert 132 = .ok (.iload_n 1, 1) := by decide +kernel
theorem dX4_insert_133 : decode cX4_insert 133 = .ok (.iaload, 1) := by decide +kernel
theorem dX4_insert_134 : decode cX4_insert 134 = .ok (.istore 8, 2) := by decide +kernel
theorem dX4_insert_136 : decode cX4_insert 136 = .ok (.aload_n 0, 1) := by decide +kernel
theorem dX4_insert_137 : decode cX4_insert 137 = .ok (.getfield 7, 3) := by decide +kernel
theorem dX4_insert_140 : decode cX4_insert 140 = .ok (.iload_n 1, 1) := by decide +kernel
theorem dX4_insert_141 : decode cX4_insert 141 = .ok (.iload 8, 2) := by decide +kernel
theorem dX4_insert_143 : decode cX4_insert 143 = .ok (.iconst 1, 1) := by decide +kernel
theorem dX4_insert_144 : decode cX4_insert 144 = .ok (.iadd, 1) := by decide +kernel
theorem dX4_insert_145 : decode cX4_insert 145 = .ok (.iastore, 1) := by decide +kernel
theorem dX4_insert_146 : decode cX4_insert 146 = .ok (.aload_n 0, 1) := by decide +kernel
theorem dX4_insert_147 : decode cX4_insert 147 = .ok (.getfield 13, 3) := by decide +kernel
theorem dX4_insert_150 : decode cX4_insert 150 = .ok (.bipush 60, 2) := by decide +kernel
theorem dX4_insert_152 : decode cX4_insert 152 = .ok (.iload_n 1, 1) := by decide +kernel
theorem dX4_insert_153 : decode cX4_insert 153 = .ok (.imul, 1) := by decide +kernel
theorem dX4_insert_154 : decode cX4_insert 154 = .ok (.iload 8, 2) := by decide +kernel
theorem dX4_insert_156 : decode cX4_insert 156 = .ok (.iadd, 1) := by decide +kernel
theorem dX4_insert_157 : decode cX4_insert 157 = .ok (.iload_n 2, 1) := by decide +kernel
theorem dX4_insert_158 : decode cX4_insert 158 = .ok (.iastore, 1) := by decide +kernel
theorem dX4_insert_159 : decode cX4_insert 159 = .ok (.aload_n 0, 1) := by decide +kernel
theorem dX4_insert_160 : decode cX4_insert 160 = .ok (.getfield 16, 3) := by decide +kernel
theorem dX4_insert_163 : decode cX4_insert 163 = .ok (.bipush 60, 2) := by decide +kernel
theorem dX4_insert_165 : decode cX4_insert 165 = .ok (.iload_n 1, 1) := by decide +kernel
theorem dX4_insert_166 : decode cX4_insert 166 = .ok (.imul, 1) := by decide +kernel
theorem dX4_insert_167 : decode cX4_insert 167 = .ok (.iload 8, 2) := by decide +kernel
theorem dX4_insert_169 : decode cX4_insert 169 = .ok (.iadd, 1) := by decide +kernel
theorem dX4_insert_170 : decode cX4_insert 170 = .ok (.aload_n 0, 1) := by decide +kernel
theorem dX4_insert_171 : decode cX4_insert 171 = .ok (.getfield 28, 3) := by decide +kernel
theorem dX4_insert_174 : decode cX4_insert 174 = .ok (.iload 5, 2) := by decide +kernel
theorem dX4_insert_176 : decode cX4_insert 176 = .ok (.iaload, 1) := by decide +kernel
theorem dX4_insert_177 : decode cX4_insert 177 = .ok (.iastore, 1) := by decide +kernel
theorem dX4_insert_178 : decode cX4_insert 178 = .ok (.aload_n 0, 1) := by decide +kernel
theorem dX4_insert_179 : decode cX4_insert 179 = .ok (.getfield 28, 3) := by decide +kernel
theorem dX4_insert_182 : decode cX4_insert 182 = .ok (.iload 5, 2) := by decide +kernel
theorem dX4_insert_184 : decode cX4_insert 184 = .ok (.aload_n 0, 1) := by decide +kernel
theorem dX4_insert_185 : decode cX4_insert 185 = .ok (.getfield 28, 3) := by decide +kernel
theorem dX4_insert_188 : decode cX4_insert 188 = .ok (.iload 5, 2) := by decide +kernel
theorem dX4_insert_190 : decode cX4_insert 190 = .ok (.iaload, 1) := by decide +kernel
theorem dX4_insert_191 : decode cX4_insert 191 = .ok (.iconst 1, 1) := by decide +kernel
theorem dX4_insert_192 : decode cX4_insert 192 = .ok (.iadd, 1) := by decide +kernel
theorem dX4_insert_193 : decode cX4_insert 193 = .ok (.iastore, 1) := by decide +kernel
theorem dX4_insert_194 : decode cX4_insert 194 = .ok (.aload_n 0, 1) := by decide +kernel
theorem dX4_insert_195 : decode cX4_insert 195 = .ok (.getfield 19, 3) := by decide +kernel
theorem dX4_insert_198 : decode cX4_insert 198 = .ok (.bipush 60, 2) := by decide +kernel
theorem dX4_insert_200 : decode cX4_insert 200 = .ok (.iload_n 1, 1) := by decide +kernel
theorem dX4_insert_201 : decode cX4_insert 201 = .ok (.imul, 1) := by decide +kernel
theorem dX4_insert_202 : decode cX4_insert 202 = .ok (.iload 8, 2) := by decide +kernel
theorem dX4_insert_204 : decode cX4_insert 204 = .ok (.iadd, 1) := by decide +kernel
theorem dX4_insert_205 : decode cX4_insert 205 = .ok (.iload 4, 2) := by decide +kernel
