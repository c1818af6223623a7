theorem dX4_insert_207 : decode cX4_insert 207 = .ok (.iastore, 1) := by decide +kernel
theorem dX4_insert_208 : decode cX4_insert 208 = .ok (.aload_n 0, 1) := by decide +kernel
theorem dX4_insert_209 : decode cX4_insert 209 = .ok (.getfield 22, 3) := by decide +kernel
theorem dX4_insert_212 : decode cX4_insert 212 = .ok (.bipush 60, 2) := by decide +kernel
theorem dX4_insert_214 : decode cX4_insert 214 = .ok (.iload_n 1, 1) := by decide +kernel
theorem dX4_insert_215 : decode cX4_insert 215 = .ok (.imul, 1) := by decide +kernel
theorem dX4_insert_216 : decode cX4_insert 216 = .ok (.iload 8, 2) := by decide +kernel
theorem dX4_insert_218 : decode cX4_insert 218 = .ok (.iadd, 1) := by decide +kernel
theorem dX4_insert_219 : decode cX4_insert 219 = .ok (.iload 6, 2) := by decide +kernel
theorem dX4_insert_221 : decode cX4_insert 221 = .ok (.ifCond .ge 7, 3) := by decide +kernel
theorem dX4_insert_224 : decode cX4_insert 224 = .ok (.iconst (-1), 1) := by decide +kernel
theorem dX4_insert_225 : decode cX4_insert 225 = .ok (.goto 16, 3) := by decide +kernel
theorem dX4_insert_228 : decode cX4_insert 228 = .ok (.aload_n 0, 1) := by decide +kernel
theorem dX4_insert_229 : decode cX4_insert 229 = .ok (.getfield 47, 3) := by decide +kernel
theorem dX4_insert_232 : decode cX4_insert 232 = .ok (.bipush 60, 2) := by decide +kernel
theorem dX4_insert_234 : decode cX4_insert 234 = .ok (.iload 5, 2) := by decide +kernel
theorem dX4_insert_236 : decode cX4_insert 236 = .ok (.imul, 1) := by decide +kernel
theorem dX4_insert_237 : decode cX4_insert 237 = .ok (.iload 6, 2) := by decide +kernel
theorem dX4_insert_239 : decode cX4_insert 239 = .ok (.iadd, 1) := by decide +kernel
theorem dX4_insert_240 : decode cX4_insert 240 = .ok (.iaload, 1) := by decide +kernel
theorem dX4_insert_241 : decode cX4_insert 241 = .ok (.iastore, 1) := by decide +kernel
theorem dX4_insert_242 : decode cX4_insert 242 = .ok (.aload_n 0, 1) := by decide +kernel
theorem dX4_insert_243 : decode cX4_insert 243 = .ok (.getfield 25, 3) := by decide +kernel
theorem dX4_insert_246 : decode cX4_insert 246 = .ok (.bipush 60, 2) := by decide +kernel
theorem dX4_insert_248 : decode cX4_insert 248 = .ok (.iload_n 1, 1) := by decide +kernel
theorem dX4_insert_249 : decode cX4_insert 249 = .ok (.imul, 1) := by decide +kernel
theorem dX4_insert_250 : decode cX4_insert 250 = .ok (.iload 8, 2) := by decide +kernel
theorem dX4_insert_252 : decode cX4_insert 252 = .ok (.iadd, 1) := by decide +kernel
theorem dX4_insert_253 : decode cX4_insert 253 = .ok (.iload 7, 2) := by decide +kernel
theorem dX4_insert_255 : decode cX4_insert 255 = .ok (.iconst (-1), 1) := by decide +kernel
theorem dX4_insert_256 : decode cX4_insert 256 = .ok (.if_icmp .ne 8, 3) := by decide +kernel
theorem dX4_insert_259 : decode cX4_insert 259 = .ok (.bipush 60, 2) := by decide +kernel
theorem dX4_insert_261 : decode cX4_insert 261 = .ok (.goto 16, 3) := by decide +kernel
theorem dX4_insert_264 : decode cX4_insert 264 = .ok (.aload_n 0, 1) := by decide +kernel
theorem dX4_insert_265 : decode cX4_insert 265 = .ok (.getfield 47, 3) := by decide +kernel
theorem dX4_insert_268 : decode cX4_insert 268 = .ok (.bipush 60, 2) := by decide +kernel
theorem dX4_insert_270 : decode cX4_insert 270 = .ok (.iload 5, 2) := by decide +kernel
theorem dX4_insert_272 : decode cX4_insert 272 = .ok (.imul, 1) := by decide +kernel
theorem dX4_insert_273 : decode cX4_insert 273 = .ok (.iload 7, 2) := by decide +kernel
theorem dX4_insert_275 : decode cX4_insert 275 = .ok (.iadd, 1) := by decide +kernel
theorem dX4_insert_276 : decode cX4_insert 276 = .ok (.iaload, 1) := by decide +kernel
theorem dX4_insert_277 : decode cX4_insert 277 = .ok (.iastore, 1) := by decide +kernel
theorem dX4_insert_278 : decode cX4_insert 278 = .ok (.aload_n 0, 1) := by decide +kernel
theorem dX4_insert_279 : decode cX4_insert 279 = .ok (.iload_n 1, 1) := by decide +kernel
theorem dX4_insert_280 : decode cX4_insert 280 = .ok (.iload_n 2, 1) := by decide +kernel
theorem dX4_insert_281 : decode cX4_insert 281 = .ok (.iload 8, 2) := by decide +kernel
theorem dX4_insert_283 : decode cX4_insert 283 = .ok (.iconst 0, 1) := by decide +kernel
theorem dX4_insert_284 : decode cX4_insert 284 = .ok (.invokevirtual 146, 3) := by decide +kernel
theorem dX4_insert_287 : decode cX4_insert 287 = .ok (.istore 9, 2) := by decide +kernel
theorem dX4_insert_289 : decode cX4_insert 289 = .ok (.aload_n 0, 1) := by decide +kernel
theorem dX4_insert_290 : decode cX4_insert 290 = .ok (.invokevirtual 150, 3) := by decide +kernel
theorem dX4_insert_293 : decode cX4_insert 293 = .ok (.aload_n 0, 1) := by decide +kernel
theorem dX4_insert_294 : decode cX4_insert 294 = .ok (.iload 5, 2) := by decide +kernel
theorem dX4_insert_296 : decode cX4_insert 296 = .ok (.iload_n 1, 1) := by decide +kernel
theorem dX4_insert_297 : decode cX4_insert 297 = .ok (.iload 9, 2) := by decide +kernel
theorem dX4_insert_299 : decode cX4_insert 299 = .ok (.invokevirtual 153, 3) := by decide +kernel
theorem dX4_insert_302 : decode cX4_insert 302 = .ok (.pop, 1) := by decide +kernel
theorem dX4_insert_303 : decode cX4_insert 303 = .ok (.aload_n 0, 1) := by decide +kernel
theorem dX4_insert_304 : decode cX4_insert 304 = .ok (.iload 5, 2) := by decide +kernel
theorem dX4_insert_306 : decode cX4_insert 306 = .ok (.invokevirtual 157, 3) := by decide +kernel
theorem dX4_insert_309 : decode cX4_insert 309 = .ok (.iload 9, 2) := by decide +kernel
theorem dX4_insert_311 : decode cX4_insert 311 = .ok (.ireturn, 1) := by decide +kernel
set_option maxRecDepth 20000 in
theorem ggX4_erase_X4_isText : GoodIn wsX4_erase wsX4_isText := goodIn_r _ [8] (by decide +kernel) (by decide +kernel)
set_option maxRecDepth 20000 in
theorem gX4_erase_X4_isText : GoodIn wsX4_erase (wsV RX4 132 RX4 yX4_isText wsX4_isText) := goodIn_app (goodIn_of _ (by decide +kernel)) ggX4_erase_X4_isText
set_option maxRecDepth 20000 in
theorem ggX4_erase_X4_isSite : GoodIn wsX4_erase wsX4_isSite := goodIn_r _ [12] (by decide +kernel) (by decide +kernel)
set_option maxRecDepth 20000 in
theorem gX4_erase_X4_isSite : GoodIn wsX4_erase (wsV RX4 136 RX4 yX4_isSite wsX4_isSite) := goodIn_app (goodIn_of _ (by decide +kernel)) ggX4_erase_X4_isSite
set_option maxRecDepth 20000 in
theorem ggX4_erase_X4_allSeen : GoodIn wsX4_erase wsX4_allSeen := goodIn_r _ [16, 17, 18, 3, 90, 91, 92, 93, 94, 95, 96, 97, 98, 99, 100, 101, 102, 103, 104, 105, 106, 107, 108, 109, 110, 111, 112, 113, 114, 115, 116, 117, 118] (by decide +kernel) (by decide +kernel)
set_option maxRecDepth 20000 in
theorem gX4_erase_X4_allSeen : GoodIn wsX4_erase (wsV RX4 139 RX4 yX4_allSeen wsX4_allSeen) := goodIn_app (goodIn_of _ (by decide +kernel)) ggX4_erase_X4_allSeen
set_option maxRecDepth 20000 in
theorem ggX4_erase_X4_seen : GoodIn wsX4_erase wsX4_seen := goodIn_r _ [22, 17, 18, 3, 90, 91, 92, 93, 94, 95, 96, 97, 98, 99, 100, 101, 102, 103, 104, 105, 106, 107, 108, 109, 110, 111, 112, 113, 114, 115, 116, 117, 118] (by decide +kernel) (by decide +kernel)
set_option maxRecDepth 20000 in
theorem gX4_erase_X4_seen : GoodIn wsX4_erase (wsV RX4 143 RX4 yX4_seen wsX4_seen) := goodIn_app (goodIn_of _ (by decide +kernel)) ggX4_erase_X4_seen
set_option maxRecDepth 20000 in
theorem ggX4_erase_X4_message : GoodIn wsX4_erase wsX4_message := goodIn_r _ [26, 27, 28, 29, 30, 90, 91, 92, 93, 94, 95, 96, 97, 98, 99, 100, 101, 102, 103, 104, 105, 106, 107, 108, 109, 110, 111, 112, 113, 114, 115, 116, 117, 118] (by decide +kernel) (by decide +kernel)
set_option maxRecDepth 20000 in
theorem gX4_erase_X4_message : GoodIn wsX4_erase (wsV RX4 146 RX4 yX4_message wsX4_message) := goodIn_app (goodIn_of _ (by decide +kernel)) ggX4_erase_X4_message
set_option maxRecDepth 20000 in
theorem ggX4_erase_X4_begins : GoodIn wsX4_erase wsX4_begins := goodIn_r _ [34, 35, 36, 90, 91, 92, 93, 94, 95, 96, 97, 98, 99, 100, 101, 102, 103, 104, 105, 106, 107, 108, 109, 110, 111, 112, 113, 114, 115, 116, 117, 118] (by decide +kernel) (by decide +kernel)
set_option maxRecDepth 20000 in
theorem gX4_erase_X4_begins : GoodIn wsX4_erase (wsV RX4 150 RX4 yX4_begins wsX4_begins) := goodIn_app (goodIn_of _ (by decide +kernel)) ggX4_erase_X4_begins
set_option maxRecDepth 20000 in
theorem ggX4_erase_X4_hears : GoodIn wsX4_erase wsX4_hears := goodIn_r _ [40, 41, 27, 42, 43, 44, 7, 45, 29, 28, 46, 47, 48, 49, 50, 51, 52, 53, 54, 55, 56, 18, 57, 58, 59, 60, 36, 61, 62, 63, 64, 65, 35, 3, 66, 67, 68, 69, 17, 70, 71, 72, 73, 74, 75, 76, 77, 78, 79, 80, 81, 82, 83, 84, 85, 86, 87, 88, 89, 90, 91, 92, 93, 94, 95, 96, 97, 98, 99, 100, 101, 102, 103, 104, 105, 106, 107, 108, 109, 110, 111, 112, 113, 114, 115, 116, 117, 118] (by decide +kernel) (by decide +kernel)
set_option maxRecDepth 20000 in
theorem gX4_erase_X4_hears : GoodIn wsX4_erase (wsV RX4 153 RX4 yX4_hears wsX4_hears) := goodIn_app (goodIn_of _ (by decide +kernel)) ggX4_erase_X4_hears
theorem dX4_erase_0 : decode cX4_erase 0 = .ok (.aload_n 0, 1) := by decide +kernel
theorem dX4_erase_1 : decode cX4_erase 1 = .ok (.iconst 0, 1) := by decide +kernel
theorem dX4_erase_2 : decode cX4_erase 2 = .ok (.putfield 87, 3) := by decide +kernel
theorem dX4_erase_5 : decode cX4_erase 5 = .ok (.aload_n 0, 1) := by decide +kernel
theorem dX4_erase_6 : decode cX4_erase 6 = .ok (.iload_n 1, 1) := by decide +kernel
theorem dX4_erase_7 : decode cX4_erase 7 = .ok (.invokevirtual 132, 3) := by decide +kernel
theorem dX4_erase_10 : decode cX4_erase 10 = .ok (.ifCond .eq 11, 3) := by decide +kernel
theorem dX4_erase_13 : decode cX4_erase 13 = .ok (.aload_n 0, 1) := by decide +kernel
theorem dX4_erase_14 : decode cX4_erase 14 = .ok (.iload_n 2, 1) := by decide +kernel
theorem dX4_erase_15 : decode cX4_erase 15 = .ok (.invokevirtual 136, 3) := by decide +kernel
theorem dX4_erase_18 : decode cX4_erase 18 = .ok (.ifCond .ne 5, 3) := by decide +kernel
theorem dX4_erase_21 : decode cX4_erase 21 = .ok (.iconst (-1), 1) := by decide +kernel
theorem dX4_erase_22 : decode cX4_erase 22 = .ok (.ireturn, 1) := by decide +kernel
theorem dX4_erase_23 : decode cX4_erase 23 = .ok (.iconst 5, 1) := by decide +kernel
theorem dX4_erase_24 : decode cX4_erase 24 = .ok (.iload_n 1, 1) := by decide +kernel
theorem dX4_erase_25 : decode cX4_erase 25 = .ok (.imul, 1) := by decide +kernel
theorem dX4_erase_26 : decode cX4_erase 26 = .ok (.iload_n 2, 1) := by decide +kernel
theorem dX4_erase_27 : decode cX4_erase 27 = .ok (.iadd, 1) := by decide +kernel
theorem dX4_erase_28 : decode cX4_erase 28 = .ok (.istore 4, 2) := by decide +kernel
theorem dX4_erase_30 : decode cX4_erase 30 = .ok (.iload_n 3, 1) := by decide +kernel
theorem dX4_erase_31 : decode cX4_erase 31 = .ok (.ifCond .lt 24, 3) := by decide +kernel
theorem dX4_erase_34 : decode cX4_erase 34 = .ok (.iload_n 3, 1) := by decide +kernel
theorem dX4_erase_35 : decode cX4_erase 35 = .ok (.aload_n 0, 1) := by decide +kernel
theorem dX4_erase_36 : decode cX4_erase 36 = .ok (.iload 4, 2) := by decide +kernel
theorem dX4_erase_38 : decode cX4_erase 38 = .ok (.invokevirtual 139, 3) := by decide +kernel
theorem dX4_erase_41 : decode cX4_erase 41 = .ok (.if_icmp .ge 14, 3) := by decide +kernel
theorem dX4_erase_44 : decode cX4_erase 44 = .ok (.aload_n 0, 1) := by decide +kernel
theorem dX4_erase_45 : decode cX4_erase 45 = .ok (.getfield 34, 3) := by decide +kernel
theorem dX4_erase_48 : decode cX4_erase 48 = .ok (.iload_n 1, 1) := by decide +kernel
theorem dX4_erase_49 : decode cX4_erase 49 = .ok (.iaload, 1) := by decide +kernel
theorem dX4_erase_50 : decode cX4_erase 50 = .ok (.bipush 100, 2) := by decide +kernel
theorem dX4_erase_52 : decode cX4_erase 52 = .ok (.if_icmp .ne 5, 3) := by decide +kernel
theorem dX4_erase_55 : decode cX4_erase 55 = .ok (.iconst (-1), 1) := by decide +kernel
theorem dX4_erase_56 : decode cX4_erase 56 = .ok (.ireturn, 1) := by decide +kernel
theorem dX4_erase_57 : decode cX4_erase 57 = .ok (.aload_n 0, 1) := by decide +kernel
theorem dX4_erase_58 : decode cX4_erase 58 = .ok (.getfield 34, 3) := by decide +kernel
theorem dX4_erase_61 : decode cX4_erase 61 = .ok (.iload_n 1, 1) := by decide +kernel
theorem dX4_erase_62 : decode cX4_erase 62 = .ok (.aload_n 0, 1) := by decide +kernel
theorem dX4_erase_63 : decode cX4_erase 63 = .ok (.getfield 34, 3) := by decide +kernel
theorem dX4_erase_66 : decode cX4_erase 66 = .ok (.iload_n 1, 1) := by decide +kernel
theorem dX4_erase_67 : decode cX4_erase 67 = .ok (.iaload, 1) := by decide +kernel
theorem dX4_erase_68 : decode cX4_erase 68 = .ok (.iconst 1, 1) := by decide +kernel
theorem dX4_erase_69 : decode cX4_erase 69 = .ok (.iadd, 1) := by decide +kernel
theorem dX4_erase_70 : decode cX4_erase 70 = .ok (.iastore, 1) := by decide +kernel
theorem dX4_erase_71 : decode cX4_erase 71 = .ok (.aload_n 0, 1) := by decide +kernel
theorem dX4_erase_72 : decode cX4_erase 72 = .ok (.iload_n 1, 1) := by decide +kernel
theorem dX4_erase_73 : decode cX4_erase 73 = .ok (.iload_n 2, 1) := by decide +kernel
theorem dX4_erase_74 : decode cX4_erase 74 = .ok (.aload_n 0, 1) := by decide +kernel
theorem dX4_erase_75 : decode cX4_erase 75 = .ok (.getfield 47, 3) := by decide +kernel
theorem dX4_erase_78 : decode cX4_erase 78 = .ok (.bipush 60, 2) := by decide +kernel
theorem dX4_erase_80 : decode cX4_erase 80 = .ok (.iload 4, 2) := by decide +kernel
theorem dX4_erase_82 : decode cX4_erase 82 = .ok (.imul, 1) := by decide +kernel
theorem dX4_erase_83 : decode cX4_erase 83 = .ok (.aload_n 0, 1) := by decide +kernel
theorem dX4_erase_84 : decode cX4_erase 84 = .ok (.iload 4, 2) := by decide +kernel
theorem dX4_erase_86 : decode cX4_erase 86 = .ok (.iload_n 3, 1) := by decide +kernel
theorem dX4_erase_87 : decode cX4_erase 87 = .ok (.invokevirtual 143, 3) := by decide +kernel
theorem dX4_erase_90 : decode cX4_erase 90 = .ok (.iadd, 1) := by decide +kernel
theorem dX4_erase_91 : decode cX4_erase 91 = .ok (.iaload, 1) := by decide +kernel
theorem dX4_erase_92 : decode cX4_erase 92 = .ok (.iconst 1, 1) := by decide +kernel
theorem dX4_erase_93 : decode cX4_erase 93 = .ok (.invokevirtual 146, 3) := by decide +kernel
theorem dX4_erase_96 : decode cX4_erase 96 = .ok (.istore 5, 2) := by decide +kernel
theorem dX4_erase_98 : decode cX4_erase 98 = .ok (.aload_n 0, 1) := by decide +kernel
theorem dX4_erase_99 : decode cX4_erase 99 = .ok (.invokevirtual 150, 3) := by decide +kernel
theorem dX4_erase_102 : decode cX4_erase 102 = .ok (.aload_n 0, 1) := by decide +kernel
theorem dX4_erase_103 : decode cX4_erase 103 = .ok (.iload 4, 2) := by decide +kernel
theorem dX4_erase_105 : decode cX4_erase 105 = .ok (.iload_n 1, 1) := by decide +kernel
theorem dX4_erase_106 : decode cX4_erase 106 = .ok (.iload 5, 2) := by decide +kernel
theorem dX4_erase_108 : decode cX4_erase 108 = .ok (.invokevirtual 153, 3) := by decide +kernel
theorem dX4_erase_111 : decode cX4_erase 111 = .ok (.pop, 1) := by decide +kernel
theorem dX4_erase_112 : decode cX4_erase 112 = .ok (.iload 5, 2) := by decide +kernel
theorem dX4_erase_114 : decode cX4_erase 114 = .ok (.ireturn, 1) := by decide +kernel
theorem dX4_isMessage_0 : decode cX4_isMessage 0 = .ok (.iload_n 2, 1) := by decide +kernel
theorem dX4_isMessage_1 : decode cX4_isMessage 1 = .ok (.ifCond .lt 17, 3) := by decide +kernel
theorem dX4_isMessage_4 : decode cX4_isMessage 4 = .ok (.iload_n 2, 1) := by decide +kernel
theorem dX4_isMessage_5 : decode cX4_isMessage 5 = .ok (.aload_n 0, 1) := by decide +kernel
theorem dX4_isMessage_6 : decode cX4_isMessage 6 = .ok (.getfield 31, 3) := by decide +kernel
theorem dX4_isMessage_9 : decode cX4_isMessage 9 = .ok (.iload_n 1, 1) := by decide +kernel
theorem dX4_isMessage_10 : decode cX4_isMessage 10 = .ok (.iaload, 1) := by decide +kernel
theorem dX4_isMessage_11 : decode cX4_isMessage 11 = .ok (.if_icmp .ge 7, 3) := by decide +kernel
theorem dX4_isMessage_14 : decode cX4_isMessage 14 = .ok (.iconst 1, 1) := by decide +kernel
theorem dX4_isMessage_15 : decode cX4_isMessage 15 = .ok (.goto 4, 3) := by decide +kernel
theorem dX4_isMessage_18 : decode cX4_isMessage 18 = .ok (.iconst 0, 1) := by decide +kernel
theorem dX4_isMessage_19 : decode cX4_isMessage 19 = .ok (.ireturn, 1) := by decide +kernel
set_option maxRecDepth 20000 in
theorem ggX4_tell_X4_isText : GoodIn wsX4_tell wsX4_isText := goodIn_r _ [6] (by decide +kernel) (by decide +kernel)
set_option maxRecDepth 20000 in
theorem gX4_tell_X4_isText : GoodIn wsX4_tell (wsV RX4 132 RX4 yX4_isText wsX4_isText) := goodIn_app (goodIn_of _ (by decide +kernel)) ggX4_tell_X4_isText
set_option maxRecDepth 20000 in
theorem ggX4_tell_X4_isSite : GoodIn wsX4_tell wsX4_isSite := goodIn_r _ [10] (by decide +kernel) (by decide +kernel)
set_option maxRecDepth 20000 in
theorem gX4_tell_X4_isSite : GoodIn wsX4_tell (wsV RX4 136 RX4 yX4_isSite wsX4_isSite) := goodIn_app (goodIn_of _ (by decide +kernel)) ggX4_tell_X4_isSite
set_option maxRecDepth 20000 in
theorem ggX4_tell_X4_isMessage : GoodIn wsX4_tell wsX4_isMessage := goodIn_r _ [14, 15, 85, 86, 87, 88, 89, 90, 91, 92, 93, 94, 95, 96, 97, 98, 99, 100, 101, 102, 103, 104, 105, 106, 107, 108, 109, 110, 111, 112, 113] (by decide +kernel) (by decide +kernel)
set_option maxRecDepth 20000 in
theorem gX4_tell_X4_isMessage : GoodIn wsX4_tell (wsV RX4 161 RX4 yX4_isMessage wsX4_isMessage) := goodIn_app (goodIn_of _ (by decide +kernel)) ggX4_tell_X4_isMessage
set_option maxRecDepth 20000 in
theorem ggX4_tell_X4_begins : GoodIn wsX4_tell wsX4_begins := goodIn_r _ [19, 20, 21, 85, 86, 87, 88, 89, 90, 91, 92, 93, 94, 95, 96, 97, 98, 99, 100, 101, 102, 103, 104, 105, 106, 107, 108, 109, 110, 111, 112, 113] (by decide +kernel) (by decide +kernel)
set_option maxRecDepth 20000 in
theorem gX4_tell_X4_begins : GoodIn wsX4_tell (wsV RX4 150 RX4 yX4_begins wsX4_begins) := goodIn_app (goodIn_of _ (by decide +kernel)) ggX4_tell_X4_begins
set_option maxRecDepth 20000 in
theorem ggX4_tell_X4_hears : GoodIn wsX4_tell wsX4_hears := goodIn_r _ [25, 26, 15, 27, 28, 29, 5, 30, 31, 32, 33, 34, 35, 36, 37, 38, 39, 40, 41, 42, 43, 44, 45, 46, 47, 48, 21, 49, 50, 51, 52, 53, 20, 54, 55, 56, 57, 58, 59, 60, 61, 62, 63, 64, 65, 66, 67, 68, 69, 70, 71, 72, 73, 74, 75, 76, 77, 78, 79, 85, 86, 87, 88, 89, 90, 91, 92, 93, 94, 95, 96, 97, 98, 99, 100, 101, 102, 103, 104, 105, 106, 107, 108, 109, 110, 111, 112, 113] (by decide +kernel) (by decide +kernel)
set_option maxRecDepth 20000 in
theorem gX4_tell_X4_hears : GoodIn wsX4_tell (wsV RX4 153 RX4 yX4_hears wsX4_hears) := goodIn_app (goodIn_of _ (by decide +kernel)) ggX4_tell_X4_hears
set_option maxRecDepth 20000 in
theorem ggX4_tell_X4_ends : GoodIn wsX4_tell wsX4_ends := goodIn_r _ [83, 21, 84, 20, 85, 86, 87, 88, 89, 90, 91, 92, 93, 94, 95, 96, 97, 98, 99, 100, 101, 102, 103, 104, 105, 106, 107, 108, 109, 110, 111, 112, 113] (by decide +kernel) (by decide +kernel)
set_option maxRecDepth 20000 in
theorem gX4_tell_X4_ends : GoodIn wsX4_tell (wsV RX4 157 RX4 yX4_ends wsX4_ends) := goodIn_app (goodIn_of _ (by decide +kernel)) ggX4_tell_X4_ends
theorem dX4_tell_0 : decode cX4_tell 0 = .ok (.aload_n 0, 1) := by decide +kernel
theorem dX4_tell_1 : decode cX4_tell 1 = .ok (.iconst 0, 1) := by decide +kernel
theorem dX4_tell_2 : decode cX4_tell 2 = .ok (.putfield 87, 3) := by decide +kernel
theorem dX4_tell_5 : decode cX4_tell 5 = .ok (.aload_n 0, 1) := by decide +kernel
theorem dX4_tell_6 : decode cX4_tell 6 = .ok (.iload_n 1, 1) := by decide +kernel
theorem dX4_tell_7 : decode cX4_tell 7 = .ok (.invokevirtual 132, 3) := by decide +kernel
theorem dX4_tell_10 : decode cX4_tell 10 = .ok (.ifCond .eq 20, 3) := by decide +kernel
theorem dX4_tell_13 : decode cX4_tell 13 = .ok (.aload_n 0, 1) := by decide +kernel
theorem dX4_tell_14 : decode cX4_tell 14 = .ok (.iload_n 2, 1) := by decide +kernel
theorem dX4_tell_15 : decode cX4_tell 15 = .ok (.invokevirtual 136, 3) := by decide +kernel
theorem dX4_tell_18 : decode cX4_tell 18 = .ok (.ifCond .eq 12, 3) := by decide +kernel
theorem dX4_tell_21 : decode cX4_tell 21 = .ok (.aload_n 0, 1) := by decide +kernel
theorem dX4_tell_22 : decode cX4_tell 22 = .ok (.iload_n 1, 1) := by decide +kernel
theorem dX4_tell_23 : decode cX4_tell 23 = .ok (.iload_n 3, 1) := by decide +kernel
theorem dX4_tell_24 : decode cX4_tell 24 = .ok (.invokevirtual 161, 3) := by decide +kernel
theorem dX4_tell_27 : decode cX4_tell 27 = .ok (.ifCond .ne 5, 3) := by decide +kernel
theorem dX4_tell_30 : decode cX4_tell 30 = .ok (.iconst (-1), 1) := by decide +kernel
theorem dX4_tell_31 : decode cX4_tell 31 = .ok (.ireturn, 1) := by decide +kernel
theorem dX4_tell_32 : decode cX4_tell 32 = .ok (.aload_n 0, 1) := by decide +kernel
theorem dX4_tell_33 : decode cX4_tell 33 = .ok (.invokevirtual 150, 3) := by decide +kernel
theorem dX4_tell_36 : decode cX4_tell 36 = .ok (.aload_n 0, 1) := by decide +kernel
theorem dX4_tell_37 : decode cX4_tell 37 = .ok (.iconst 5, 1) := by decide +kernel
theorem dX4_tell_38 : decode cX4_tell 38 = .ok (.iload_n 1, 1) := by decide +kernel
theorem dX4_tell_39 : decode cX4_tell 39 = .ok (.imul, 1) := by decide +kernel
theorem dX4_tell_40 : decode cX4_tell 40 = .ok (.iload_n 2, 1) := by decide +kernel
theorem dX4_tell_41 : decode cX4_tell 41 = .ok (.iadd, 1) := by decide +kernel
theorem dX4_tell_42 : decode cX4_tell 42 = .ok (.iload_n 1, 1) := by decide +kernel
theorem dX4_tell_43 : decode cX4_tell 43 = .ok (.iload_n 3, 1) := by decide +kernel
theorem dX4_tell_44 : decode cX4_tell 44 = .ok (.invokevirtual 153, 3) := by decide +kernel
theorem dX4_tell_47 : decode cX4_tell 47 = .ok (.istore 4, 2) := by decide +kernel
theorem dX4_tell_49 : decode cX4_tell 49 = .ok (.aload_n 0, 1) := by decide +kernel
theorem dX4_tell_50 : decode cX4_tell 50 = .ok (.iconst 5, 1) := by decide +kernel
theorem dX4_tell_51 : decode cX4_tell 51 = .ok (.iload_n 1, 1) := by decide +kernel
theorem dX4_tell_52 : decode cX4_tell 52 = .ok (.imul, 1) := by decide +kernel
theorem dX4_tell_53 : decode cX4_tell 53 = .ok (.iload_n 2, 1) := by decide +kernel
theorem dX4_tell_54 : decode cX4_tell 54 = .ok (.iadd, 1) := by decide +kernel
theorem dX4_tell_55 : decode cX4_tell 55 = .ok (.invokevirtual 157, 3) := by decide +kernel
theorem dX4_tell_58 : decode cX4_tell 58 = .ok (.iload 4, 2) := by decide +kernel
theorem dX4_tell_60 : decode cX4_tell 60 = .ok (.ireturn, 1) := by decide +kernel
set_option maxRecDepth 20000 in
theorem ggX4_share_X4_isText : GoodIn wsX4_share wsX4_isText := goodIn_r _ [8] (by decide +kernel) (by decide +kernel)
set_option maxRecDepth 20000 in
theorem gX4_share_X4_isText : GoodIn wsX4_share (wsV RX4 132 RX4 yX4_isText wsX4_isText) := goodIn_app (goodIn_of _ (by decide +kernel)) ggX4_share_X4_isText
set_option maxRecDepth 20000 in
theorem ggX4_share_X4_isSite : GoodIn wsX4_share wsX4_isSite := goodIn_r _ [12] (by decide +kernel) (by decide +kernel)
set_option maxRecDepth 20000 in
theorem gX4_share_X4_isSite : GoodIn wsX4_share (wsV RX4 136 RX4 yX4_isSite wsX4_isSite) := goodIn_app (goodIn_of _ (by decide +kernel)) ggX4_share_X4_isSite
set_option maxRecDepth 20000 in
theorem ggX4_share_X4_begins : GoodIn wsX4_share wsX4_begins := goodIn_r _ [16, 17, 18, 81, 82, 83, 84, 85, 86, 87, 88, 89, 90, 91, 92, 93, 94, 95, 96, 97, 98, 99, 100, 101, 102, 103, 104, 105, 106, 107, 108, 109] (by decide +kernel) (by decide +kernel)
set_option maxRecDepth 20000 in
theorem gX4_share_X4_begins : GoodIn wsX4_share (wsV RX4 150 RX4 yX4_begins wsX4_begins) := goodIn_app (goodIn_of _ (by decide +kernel)) ggX4_share_X4_begins
set_option maxRecDepth 20000 in
theorem ggX4_share_X4_hears : GoodIn wsX4_share wsX4_hears := goodIn_r _ [22, 3, 2, 23, 24, 25, 7, 26, 27, 28, 29, 30, 31, 32, 33, 34, 35, 36, 37, 38, 39, 40, 41, 42, 43, 44, 18, 45, 46, 47, 48, 49, 17, 50, 51, 52, 53, 54, 55, 56, 57, 58, 59, 60, 61, 62, 63, 64, 65, 66, 67, 68, 69, 70, 71, 72, 73, 74, 75, 81, 82, 83, 84, 85, 86, 87, 88, 89, 90, 91, 92, 93, 94, 95, 96, 97, 98, 99, 100, 101, 102, 103, 104, 105, 106, 107, 108, 109] (by decide +kernel) (by decide +kernel)
set_option maxRecDepth 20000 in
theorem gX4_share_X4_hears : GoodIn wsX4_share (wsV RX4 153 RX4 yX4_hears wsX4_hears) := goodIn_app (goodIn_of _ (by decide +kernel)) ggX4_share_X4_hears
set_option maxRecDepth 20000 in
theorem ggX4_share_X4_ends : GoodIn wsX4_share wsX4_ends := goodIn_r _ [79, 18, 80, 17, 81, 82, 83, 84, 85, 86, 87, 88, 89, 90, 91, 92, 93, 94, 95, 96, 97, 98, 99, 100, 101, 102, 103, 104, 105, 106, 107, 108, 109] (by decide +kernel) (by decide +kernel)
set_option maxRecDepth 20000 in
theorem gX4_share_X4_ends : GoodIn wsX4_share (wsV RX4 157 RX4 yX4_ends wsX4_ends) := goodIn_app (goodIn_of _ (by decide +kernel)) ggX4_share_X4_ends
theorem dX4_share_0 : decode cX4_share 0 = .ok (.aload_n 0, 1) := by decide +kernel
theorem dX4_share_1 : decode cX4_share 1 = .ok (.iconst 0, 1) := by decide +kernel
theorem dX4_share_2 : decode cX4_share 2 = .ok (.putfield 87, 3) := by decide +kernel
theorem dX4_share_5 : decode cX4_share 5 = .ok (.aload_n 0, 1) := by decide +kernel
theorem dX4_share_6 : decode cX4_share 6 = .ok (.iload_n 1, 1) := by decide +kernel
theorem dX4_share_7 : decode cX4_share 7 = .ok (.invokevirtual 132, 3) := by decide +kernel
theorem dX4_share_10 : decode cX4_share 10 = .ok (.ifCond .eq 19, 3) := by decide +kernel
theorem dX4_share_13 : decode cX4_share 13 = .ok (.aload_n 0, 1) := by decide +kernel
theorem dX4_share_14 : decode cX4_share 14 = .ok (.iload_n 2, 1) := by decide +kernel
theorem dX4_share_15 : decode cX4_share 15 = .ok (.invokevirtual 136, 3) := by decide +kernel
theorem dX4_share_18 : decode cX4_share 18 = .ok (.ifCond .eq 11, 3) := by decide +kernel
theorem dX4_share_21 : decode cX4_share 21 = .ok (.aload_n 0, 1) := by decide +kernel
theorem dX4_share_22 : decode cX4_share 22 = .ok (.iload_n 3, 1) := by decide +kernel
theorem dX4_share_23 : decode cX4_share 23 = .ok (.invokevirtual 136, 3) := by decide +kernel
theorem dX4_share_26 : decode cX4_share 26 = .ok (.ifCond .ne 5, 3) := by decide +kernel
theorem dX4_share_29 : decode cX4_share 29 = .ok (.iconst (-1), 1) := by decide +kernel
theorem dX4_share_30 : decode cX4_share 30 = .ok (.ireturn, 1) := by decide +kernel
theorem dX4_share_31 : decode cX4_share 31 = .ok (.iconst 5, 1) := by decide +kernel
theorem dX4_share_32 : decode cX4_share 32 = .ok (.iload_n 1, 1) := by decide +kernel
theorem dX4_share_33 : decode cX4_share 33 = .ok (.imul, 1) := by decide +kernel
theorem dX4_share_34 : decode cX4_share 34 = .ok (.iload_n 3, 1) := by decide +kernel
theorem dX4_share_35 : decode cX4_share 35 = .ok (.iadd, 1) := by decide +kernel
theorem dX4_share_36 : decode cX4_share 36 = .ok (.istore 5, 2) := by decide +kernel
theorem dX4_share_38 : decode cX4_share 38 = .ok (.iconst 0, 1) := by decide +kernel
theorem dX4_share_39 : decode cX4_share 39 = .ok (.istore 6, 2) := by decide +kernel
theorem dX4_share_41 : decode cX4_share 41 = .ok (.aload_n 0, 1) := by decide +kernel
theorem dX4_share_42 : decode cX4_share 42 = .ok (.invokevirtual 150, 3) := by decide +kernel
theorem dX4_share_45 : decode cX4_share 45 = .ok (.iconst 0, 1) := by decide +kernel
theorem dX4_share_46 : decode cX4_share 46 = .ok (.istore 7, 2) := by decide +kernel
theorem dX4_share_48 : decode cX4_share 48 = .ok (.iload 7, 2) := by decide +kernel
theorem dX4_share_50 : decode cX4_share 50 = .ok (.aload_n 0, 1) := by decide +kernel
theorem dX4_share_51 : decode cX4_share 51 = .ok (.getfield 31, 3) := by decide +kernel
theorem dX4_share_54 : decode cX4_share 54 = .ok (.iload_n 1, 1) := by decide +kernel
theorem dX4_share_55 : decode cX4_share 55 = .ok (.iaload, 1) := by decide +kernel
theorem dX4_share_56 : decode cX4_share 56 = .ok (.if_icmp .ge 67, 3) := by decide +kernel
theorem dX4_share_59 : decode cX4_share 59 = .ok (.iload 4, 2) := by decide +kernel
theorem dX4_share_61 : decode cX4_share 61 = .ok (.ifCond .eq 17, 3) := by decide +kernel
theorem dX4_share_64 : decode cX4_share 64 = .ok (.aload_n 0, 1) := by decide +kernel
theorem dX4_share_65 : decode cX4_share 65 = .ok (.getfield 31, 3) := by decide +kernel
theorem dX4_share_68 : decode cX4_share 68 = .ok (.iload_n 1, 1) := by decide +kernel
theorem dX4_share_69 : decode cX4_share 69 = .ok (.iaload, 1) := by decide +kernel
theorem dX4_share_70 : decode cX4_share 70 = .ok (.iconst 1, 1) := by decide +kernel
theorem dX4_share_71 : decode cX4_share 71 = .ok (.isub, 1) := by decide +kernel
theorem dX4_share_72 : decode cX4_share 72 = .ok (.iload 7, 2) := by decide +kernel
theorem dX4_share_74 : decode cX4_share 74 = .ok (.isub, 1) := by decide +kernel
theorem dX4_share_75 : decode cX4_share 75 = .ok (.goto 5, 3) := by decide +kernel
theorem dX4_share_78 : decode cX4_share 78 = .ok (.iload 7, 2) := by decide +kernel
theorem dX4_share_80 : decode cX4_share 80 = .ok (.istore 8, 2) := by decide +kernel
theorem dX4_share_82 : decode cX4_share 82 = .ok (.aload_n 0, 1) := by decide +kernel
theorem dX4_share_83 : decode cX4_share 83 = .ok (.getfield 59, 3) := by decide +kernel
theorem dX4_share_86 : decode cX4_share 86 = .ok (.sipush 160, 3) := by decide +kernel
theorem dX4_share_89 : decode cX4_share 89 = .ok (.iconst 5, 1) := by decide +kernel
theorem dX4_share_90 : decode cX4_share 90 = .ok (.iload_n 1, 1) := by decide +kernel
theorem dX4_share_91 : decode cX4_share 91 = .ok (.imul, 1) := by decide +kernel
theorem dX4_share_92 : decode cX4_share 92 = .ok (.iload_n 2, 1) := by decide +kernel
theorem dX4_share_93 : decode cX4_share 93 = .ok (.iadd, 1) := by decide +kernel
theorem dX4_share_94 : decode cX4_share 94 = .ok (.imul, 1) := by decide +kernel
theorem dX4_share_95 : decode cX4_share 95 = .ok (.iload 8, 2) := by decide +kernel
theorem dX4_share_97 : decode cX4_share 97 = .ok (.iadd, 1) := by decide +kernel
theorem dX4_share_98 : decode cX4_share 98 = .ok (.iaload, 1) := by decide +kernel
theorem dX4_share_99 : decode cX4_share 99 = .ok (.iconst 2, 1) := by decide +kernel
theorem dX4_share_100 : decode cX4_share 100 = .ok (.if_icmp .ne 17, 3) := by decide +kernel
theorem dX4_share_103 : decode cX4_share 103 = .ok (.iload 6, 2) := by decide +kernel
theorem dX4_share_105 : decode cX4_share 105 = .ok (.aload_n 0, 1) := by decide +kernel
theorem dX4_share_106 : decode cX4_share 106 = .ok (.iload 5, 2) := by decide +kernel
theorem dX4_share_108 : decode cX4_share 108 = .ok (.iload_n 1, 1) := by decide +kernel
theorem dX4_share_109 : decode cX4_share 109 = .ok (.iload 8, 2) := by decide +kernel
theorem dX4_share_111 : decode cX4_share 111 = .ok (.invokevirtual 153, 3) := by decide +kernel
theorem dX4_share_114 : decode cX4_share 114 = .ok (.iadd, 1) := by decide +kernel
theorem dX4_share_115 : decode cX4_share 115 = .ok (.istore 6, 2) := by decide +kernel
theorem dX4_share_117 : decode cX4_share 117 = .ok (.iinc 7 1, 3) := by decide +kernel
theorem dX4_share_120 : decode cX4_share 120 = .ok (.goto (-72), 3) := by decide +kernel
theorem dX4_share_123 : decode cX4_share 123 = .ok (.aload_n 0, 1) := by decide +kernel
theorem dX4_share_124 : decode cX4_share 124 = .ok (.iload 5, 2) := by decide +kernel
theorem dX4_share_126 : decode cX4_share 126 = .ok (.invokevirtual 157, 3) := by decide +kernel
theorem dX4_share_129 : decode cX4_share 129 = .ok (.iload 6, 2) := by decide +kernel
theorem dX4_share_131 : decode cX4_share 131 = .ok (.ireturn, 1) := by decide +kernel
theorem dX4_count_0 : decode cX4_count 0 = .ok (.iconst 0, 1) := by decide +kernel
theorem dX4_count_1 : decode cX4_count 1 = .ok (.istore 4, 2) := by decide +kernel
theorem dX4_count_3 : decode cX4_count 3 = .ok (.iconst 0, 1) := by decide +kernel
theorem dX4_count_4 : decode cX4_count 4 = .ok (.istore 5, 2) := by decide +kernel
theorem dX4_count_6 : decode cX4_count 6 = .ok (.iload 5, 2) := by decide +kernel
theorem dX4_count_8 : decode cX4_count 8 = .ok (.aload_n 0, 1) := by decide +kernel
theorem dX4_count_9 : decode cX4_count 9 = .ok (.getfield 31, 3) := by decide +kernel
theorem dX4_count_12 : decode cX4_count 12 = .ok (.iload_n 2, 1) := by decide +kernel
theorem dX4_count_13 : decode cX4_count 13 = .ok (.iaload, 1) := by decide +kernel
theorem dX4_count_14 : decode cX4_count 14 = .ok (.if_icmp .ge 36, 3) := by decide +kernel
theorem dX4_count_17 : decode cX4_count 17 = .ok (.iload 4, 2) := by decide +kernel
theorem dX4_count_19 : decode cX4_count 19 = .ok (.aload_n 0, 1) := by decide +kernel
theorem dX4_count_20 : decode cX4_count 20 = .ok (.getfield 59, 3) := by decide +kernel
theorem dX4_count_23 : decode cX4_count 23 = .ok (.sipush 160, 3) := by decide +kernel
theorem dX4_count_26 : decode cX4_count 26 = .ok (.iload_n 1, 1) := by decide +kernel
theorem dX4_count_27 : decode cX4_count 27 = .ok (.imul, 1) := by decide +kernel
theorem dX4_count_28 : decode cX4_count 28 = .ok (.iload 5, 2) := by decide +kernel
theorem dX4_count_30 : decode cX4_count 30 = .ok (.iadd, 1) := by decide +kernel
theorem dX4_count_31 : decode cX4_count 31 = .ok (.iaload, 1) := by decide +kernel
theorem dX4_count_32 : decode cX4_count 32 = .ok (.iload_n 3, 1) := by decide +kernel
theorem dX4_count_33 : decode cX4_count 33 = .ok (.if_icmp .ne 7, 3) := by decide +kernel
theorem dX4_count_36 : decode cX4_count 36 = .ok (.iconst 1, 1) := by decide +kernel
theorem dX4_count_37 : decode cX4_count 37 = .ok (.goto 4, 3) := by decide +kernel
theorem dX4_count_40 : decode cX4_count 40 = .ok (.iconst 0, 1) := by decide +kernel
theorem dX4_count_41 : decode cX4_count 41 = .ok (.iadd, 1) := by decide +kernel
theorem dX4_count_42 : decode cX4_count 42 = .ok (.istore 4, 2) := by decide +kernel
theorem dX4_count_44 : decode cX4_count 44 = .ok (.iinc 5 1, 3) := by decide +kernel
theorem dX4_count_47 : decode cX4_count 47 = .ok (.goto (-41), 3) := by decide +kernel
theorem dX4_count_50 : decode cX4_count 50 = .ok (.iload 4, 2) := by decide +kernel
theorem dX4_count_52 : decode cX4_count 52 = .ok (.ireturn, 1) := by decide +kernel
set_option maxRecDepth 20000 in
theorem ggX4_look_X4_isText : GoodIn wsX4_look wsX4_isText := goodIn_r _ [10] (by decide +kernel) (by decide +kernel)
set_option maxRecDepth 20000 in
theorem gX4_look_X4_isText : GoodIn wsX4_look (wsV RX4 132 RX4 yX4_isText wsX4_isText) := goodIn_app (goodIn_of _ (by decide +kernel)) ggX4_look_X4_isText
set_option maxRecDepth 20000 in
theorem ggX4_look_X4_isSite : GoodIn wsX4_look wsX4_isSite := goodIn_r _ [14] (by decide +kernel) (by decide +kernel)
set_option maxRecDepth 20000 in
theorem gX4_look_X4_isSite : GoodIn wsX4_look (wsV RX4 136 RX4 yX4_isSite wsX4_isSite) := goodIn_app (goodIn_of _ (by decide +kernel)) ggX4_look_X4_isSite
set_option maxRecDepth 20000 in
theorem ggX4_look_X4_allSeen : GoodIn wsX4_look wsX4_allSeen := goodIn_r _ [18, 4, 19, 20, 26, 27, 28, 29, 30, 31, 32, 33, 34, 35, 36, 37, 38, 39, 40, 41, 42, 43, 44, 45, 46, 47, 48, 49, 50, 51, 52, 53, 54] (by decide +kernel) (by decide +kernel)
set_option maxRecDepth 20000 in
theorem gX4_look_X4_allSeen : GoodIn wsX4_look (wsV RX4 139 RX4 yX4_allSeen wsX4_allSeen) := goodIn_app (goodIn_of _ (by decide +kernel)) ggX4_look_X4_allSeen
set_option maxRecDepth 20000 in
theorem ggX4_look_X4_count : GoodIn wsX4_look wsX4_count := goodIn_r _ [24, 2, 25, 26, 27, 28, 29, 30, 31, 32, 33, 34, 35, 36, 37, 38, 39, 40, 41, 42, 43, 44, 45, 46, 47, 48, 49, 50, 51, 52, 53, 54] (by decide +kernel) (by decide +kernel)
set_option maxRecDepth 20000 in
theorem gX4_look_X4_count : GoodIn wsX4_look (wsV RX4 164 RX4 yX4_count wsX4_count) := goodIn_app (goodIn_of _ (by decide +kernel)) ggX4_look_X4_count
theorem dX4_look_0 : decode cX4_look 0 = .ok (.aload_n 0, 1) := by decide +kernel
theorem dX4_look_1 : decode cX4_look 1 = .ok (.iconst 0, 1) := by decide +kernel
theorem dX4_look_2 : decode cX4_look 2 = .ok (.putfield 87, 3) := by decide +kernel
theorem dX4_look_5 : decode cX4_look 5 = .ok (.aload_n 0, 1) := by decide +kernel
theorem dX4_look_6 : decode cX4_look 6 = .ok (.iload_n 1, 1) := by decide +kernel
theorem dX4_look_7 : decode cX4_look 7 = .ok (.invokevirtual 132, 3) := by decide +kernel
theorem dX4_look_10 : decode cX4_look 10 = .ok (.ifCond .eq 11, 3) := by decide +kernel
theorem dX4_look_13 : decode cX4_look 13 = .ok (.aload_n 0, 1) := by decide +kernel
theorem dX4_look_14 : decode cX4_look 14 = .ok (.iload_n 2, 1) := by decide +kernel
theorem dX4_look_15 : decode cX4_look 15 = .ok (.invokevirtual 136, 3) := by decide +kernel
theorem dX4_look_18 : decode cX4_look 18 = .ok (.ifCond .ne 5, 3) := by decide +kernel
theorem dX4_look_21 : decode cX4_look 21 = .ok (.iconst (-1), 1) := by decide +kernel
theorem dX4_look_22 : decode cX4_look 22 = .ok (.ireturn, 1) := by decide +kernel
theorem dX4_look_23 : decode cX4_look 23 = .ok (.iconst 5, 1) := by decide +kernel
theorem dX4_look_24 : decode cX4_look 24 = .ok (.iload_n 1, 1) := by decide +kernel
theorem dX4_look_25 : decode cX4_look 25 = .ok (.imul, 1) := by decide +kernel
theorem dX4_look_26 : decode cX4_look 26 = .ok (.iload_n 2, 1) := by decide +kernel
theorem dX4_look_27 : decode cX4_look 27 = .ok (.iadd, 1) := by decide +kernel
theorem dX4_look_28 : decode cX4_look 28 = .ok (.istore 4, 2) := by decide +kernel
theorem dX4_look_30 : decode cX4_look 30 = .ok (.iload_n 3, 1) := by decide +kernel
theorem dX4_look_31 : decode cX4_look 31 = .ok (.ifCond .ne 10, 3) := by decide +kernel
theorem dX4_look_34 : decode cX4_look 34 = .ok (.aload_n 0, 1) := by decide +kernel
theorem dX4_look_35 : decode cX4_look 35 = .ok (.getfield 31, 3) := by decide +kernel
theorem dX4_look_38 : decode cX4_look 38 = .ok (.iload_n 1, 1) := by decide +kernel
theorem dX4_look_39 : decode cX4_look 39 = .ok (.iaload, 1) := by decide +kernel
theorem dX4_look_40 : decode cX4_look 40 = .ok (.ireturn, 1) := by decide +kernel
theorem dX4_look_41 : decode cX4_look 41 = .ok (.iload_n 3, 1) := by decide +kernel
theorem dX4_look_42 : decode cX4_look 42 = .ok (.iconst 1, 1) := by decide +kernel
theorem dX4_look_43 : decode cX4_look 43 = .ok (.if_icmp .ne 10, 3) := by decide +kernel
theorem dX4_look_46 : decode cX4_look 46 = .ok (.aload_n 0, 1) := by decide +kernel
theorem dX4_look_47 : decode cX4_look 47 = .ok (.getfield 7, 3) := by decide +kernel
theorem dX4_look_50 : decode cX4_look 50 = .ok (.iload_n 1, 1) := by decide +kernel
theorem dX4_look_51 : decode cX4_look 51 = .ok (.iaload, 1) := by decide +kernel
theorem dX4_look_52 : decode cX4_look 52 = .ok (.ireturn, 1) := by decide +kernel
theorem dX4_look_53 : decode cX4_look 53 = .ok (.iload_n 3, 1) := by decide +kernel
theorem dX4_look_54 : decode cX4_look 54 = .ok (.iconst 2, 1) := by decide +kernel
theorem dX4_look_55 : decode cX4_look 55 = .ok (.if_icmp .ne 11, 3) := by decide +kernel
theorem dX4_look_58 : decode cX4_look 58 = .ok (.aload_n 0, 1) := by decide +kernel
theorem dX4_look_59 : decode cX4_look 59 = .ok (.getfield 50, 3) := by decide +kernel
theorem dX4_look_62 : decode cX4_look 62 = .ok (.iload 4, 2) := by decide +kernel
theorem dX4_look_64 : decode cX4_look 64 = .ok (.iaload, 1) := by decide +kernel
theorem dX4_look_65 : decode cX4_look 65 = .ok (.ireturn, 1) := by decide +kernel
theorem dX4_look_66 : decode cX4_look 66 = .ok (.iload_n 3, 1) := by decide +kernel
theorem dX4_look_67 : decode cX4_look 67 = .ok (.iconst 3, 1) := by decide +kernel
theorem dX4_look_68 : decode cX4_look 68 = .ok (.if_icmp .ne 10, 3) := by decide +kernel
theorem dX4_look_71 : decode cX4_look 71 = .ok (.aload_n 0, 1) := by decide +kernel
theorem dX4_look_72 : decode cX4_look 72 = .ok (.iload 4, 2) := by decide +kernel
theorem dX4_look_74 : decode cX4_look 74 = .ok (.invokevirtual 139, 3) := by decide +kernel
theorem dX4_look_77 : decode cX4_look 77 = .ok (.ireturn, 1) := by decide +kernel
theorem dX4_look_78 : decode cX4_look 78 = .ok (.iload_n 3, 1) := by decide +kernel
theorem dX4_look_79 : decode cX4_look 79 = .ok (.iconst 4, 1) := by decide +kernel
theorem dX4_look_80 : decode cX4_look 80 = .ok (.if_icmp .ne 12, 3) := by decide +kernel
theorem dX4_look_83 : decode cX4_look 83 = .ok (.aload_n 0, 1) := by decide +kernel
theorem dX4_look_84 : decode cX4_look 84 = .ok (.iload 4, 2) := by decide +kernel
theorem dX4_look_86 : decode cX4_look 86 = .ok (.iload_n 1, 1) := by decide +kernel
theorem dX4_look_87 : decode cX4_look 87 = .ok (.iconst 2, 1) := by decide +kernel
theorem dX4_look_88 : decode cX4_look 88 = .ok (.invokevirtual 164, 3) := by decide +kernel
theorem dX4_look_91 : decode cX4_look 91 = .ok (.ireturn, 1) := by decide +kernel
theorem dX4_look_92 : decode cX4_look 92 = .ok (.iload_n 3, 1) := by decide +kernel
theorem dX4_look_93 : decode cX4_look 93 = .ok (.iconst 5, 1) := by decide +kernel
theorem dX4_look_94 : decode cX4_look 94 = .ok (.if_icmp .ne 12, 3) := by decide +kernel
theorem dX4_look_97 : decode cX4_look 97 = .ok (.aload_n 0, 1) := by decide +kernel
theorem dX4_look_98 : decode cX4_look 98 = .ok (.iload 4, 2) := by decide +kernel
theorem dX4_look_100 : decode cX4_look 100 = .ok (.iload_n 1, 1) := by decide +kernel
theorem dX4_look_101 : decode cX4_look 101 = .ok (.iconst 1, 1) := by decide +kernel
theorem dX4_look_102 : decode cX4_look 102 = .ok (.invokevirtual 164, 3) := by decide +kernel
theorem dX4_look_105 : decode cX4_look 105 = .ok (.ireturn, 1) := by decide +kernel
theorem dX4_look_106 : decode cX4_look 106 = .ok (.iload_n 3, 1) := by decide +kernel
theorem dX4_look_107 : decode cX4_look 107 = .ok (.bipush 6, 2) := by decide +kernel
theorem dX4_look_109 : decode cX4_look 109 = .ok (.if_icmp .ne 13, 3) := by decide +kernel
theorem dX4_look_112 : decode cX4_look 112 = .ok (.aload_n 0, 1) := by decide +kernel
theorem dX4_look_113 : decode cX4_look 113 = .ok (.getfield 62, 3) := by decide +kernel
theorem dX4_look_116 : decode cX4_look 116 = .ok (.iload 4, 2) := by decide +kernel
theorem dX4_look_118 : decode cX4_look 118 = .ok (.iaload, 1) := by decide +kernel
theorem dX4_look_119 : decode cX4_look 119 = .ok (.goto 4, 3) := by decide +kernel
theorem dX4_look_122 : decode cX4_look 122 = .ok (.iconst (-1), 1) := by decide +kernel
theorem dX4_look_123 : decode cX4_look 123 = .ok (.ireturn, 1) := by decide +kernel
set_option maxRecDepth 20000 in
theorem ggX4_message__X4_isText : GoodIn wsX4_message_ wsX4_isText := goodIn_r _ [12] (by decide +kernel) (by decide +kernel)
set_option maxRecDepth 20000 in
theorem gX4_message__X4_isText : GoodIn wsX4_message_ (wsV RX4 132 RX4 yX4_isText wsX4_isText) := goodIn_app (goodIn_of _ (by decide +kernel)) ggX4_message__X4_isText
set_option maxRecDepth 20000 in
theorem ggX4_message__X4_isMessage : GoodIn wsX4_message_ wsX4_isMessage := goodIn_r _ [16, 17, 24, 25, 26, 27, 28, 29, 30, 31, 32, 33, 34, 35, 36, 37, 38, 39, 40, 41, 42, 43, 44, 45, 46, 47, 48, 49, 50, 51, 52] (by decide +kernel) (by decide +kernel)
set_option maxRecDepth 20000 in
theorem gX4_message__X4_isMessage : GoodIn wsX4_message_ (wsV RX4 161 RX4 yX4_isMessage wsX4_isMessage) := goodIn_app (goodIn_of _ (by decide +kernel)) ggX4_message__X4_isMessage
set_option maxRecDepth 20000 in
theorem ggX4_message__X4_mark : GoodIn wsX4_message_ wsX4_mark := goodIn_r _ [21, 22, 23, 24, 25, 26, 27, 28, 29, 30, 31, 32, 33, 34, 35, 36, 37, 38, 39, 40, 41, 42, 43, 44, 45, 46, 47, 48, 49, 50, 51, 52] (by decide +kernel) (by decide +kernel)
set_option maxRecDepth 20000 in
theorem gX4_message__X4_mark : GoodIn wsX4_message_ (wsV RX4 108 RX4 yX4_mark wsX4_mark) := goodIn_app (goodIn_of _ (by decide +kernel)) ggX4_message__X4_mark
theorem dX4_message__0 : decode cX4_message_ 0 = .ok (.aload_n 0, 1) := by decide +kernel
theorem dX4_message__1 : decode cX4_message_ 1 = .ok (.iconst 0, 1) := by decide +kernel
theorem dX4_message__2 : decode cX4_message_ 2 = .ok (.putfield 87, 3) := by decide +kernel
theorem dX4_message__5 : decode cX4_message_ 5 = .ok (.aload_n 0, 1) := by decide +kernel
theorem dX4_message__6 : decode cX4_message_ 6 = .ok (.iload_n 1, 1) := by decide +kernel
theorem dX4_message__7 : decode cX4_message_ 7 = .ok (.invokevirtual 132, 3) := by decide +kernel
theorem dX4_message__10 : decode cX4_message_ 10 = .ok (.ifCond .eq 12, 3) := by decide +kernel
theorem dX4_message__13 : decode cX4_message_ 13 = .ok (.aload_n 0, 1) := by decide +kernel
theorem dX4_message__14 : decode cX4_message_ 14 = .ok (.iload_n 1, 1) := by decide +kernel
theorem dX4_message__15 : decode cX4_message_ 15 = .ok (.iload_n 2, 1) := by decide +kernel
theorem dX4_message__16 : decode cX4_message_ 16 = .ok (.invokevirtual 161, 3) := by decide +kernel
theorem dX4_message__19 : decode cX4_message_ 19 = .ok (.ifCond .ne 5, 3) := by decide +kernel
theorem dX4_message__22 : decode cX4_message_ 22 = .ok (.iconst (-1), 1) := by decide +kernel
theorem dX4_message__23 : decode cX4_message_ 23 = .ok (.ireturn, 1) := by decide +kernel
theorem dX4_message__24 : decode cX4_message_ 24 = .ok (.aload_n 0, 1) := by decide +kernel
theorem dX4_message__25 : decode cX4_message_ 25 = .ok (.getfield 41, 3) := by decide +kernel
theorem dX4_message__28 : decode cX4_message_ 28 = .ok (.sipush 160, 3) := by decide +kernel
theorem dX4_message__31 : decode cX4_message_ 31 = .ok (.iload_n 1, 1) := by decide +kernel
theorem dX4_message__32 : decode cX4_message_ 32 = .ok (.imul, 1) := by decide +kernel
theorem dX4_message__33 : decode cX4_message_ 33 = .ok (.iload_n 2, 1) := by decide +kernel
theorem dX4_message__34 : decode cX4_message_ 34 = .ok (.iadd, 1) := by decide +kernel
theorem dX4_message__35 : decode cX4_message_ 35 = .ok (.iaload, 1) := by decide +kernel
theorem dX4_message__36 : decode cX4_message_ 36 = .ok (.istore 4, 2) := by decide +kernel
theorem dX4_message__38 : decode cX4_message_ 38 = .ok (.iload_n 3, 1) := by decide +kernel
theorem dX4_message__39 : decode cX4_message_ 39 = .ok (.ifCond .ne 24, 3) := by decide +kernel
theorem dX4_message__42 : decode cX4_message_ 42 = .ok (.aload_n 0, 1) := by decide +kernel
theorem dX4_message__43 : decode cX4_message_ 43 = .ok (.getfield 37, 3) := by decide +kernel
theorem dX4_message__46 : decode cX4_message_ 46 = .ok (.sipush 160, 3) := by decide +kernel
theorem dX4_message__49 : decode cX4_message_ 49 = .ok (.iload_n 1, 1) := by decide +kernel
theorem dX4_message__50 : decode cX4_message_ 50 = .ok (.imul, 1) := by decide +kernel
theorem dX4_message__51 : decode cX4_message_ 51 = .ok (.iload_n 2, 1) := by decide +kernel
theorem dX4_message__52 : decode cX4_message_ 52 = .ok (.iadd, 1) := by decide +kernel
theorem dX4_message__53 : decode cX4_message_ 53 = .ok (.baload, 1) := by decide +kernel
theorem dX4_message__54 : decode cX4_message_ 54 = .ok (.ifCond .eq 7, 3) := by decide +kernel
theorem dX4_message__57 : decode cX4_message_ 57 = .ok (.iconst 1, 1) := by decide +kernel
theorem dX4_message__58 : decode cX4_message_ 58 = .ok (.goto 4, 3) := by decide +kernel
theorem dX4_message__61 : decode cX4_message_ 61 = .ok (.iconst 0, 1) := by decide +kernel
theorem dX4_message__62 : decode cX4_message_ 62 = .ok (.ireturn, 1) := by decide +kernel
theorem dX4_message__63 : decode cX4_message_ 63 = .ok (.iload_n 3, 1) := by decide +kernel
theorem dX4_message__64 : decode cX4_message_ 64 = .ok (.iconst 1, 1) := by decide +kernel
theorem dX4_message__65 : decode cX4_message_ 65 = .ok (.if_icmp .ne 16, 3) := by decide +kernel
theorem dX4_message__68 : decode cX4_message_ 68 = .ok (.aload_n 0, 1) := by decide +kernel
theorem dX4_message__69 : decode cX4_message_ 69 = .ok (.getfield 44, 3) := by decide +kernel
theorem dX4_message__72 : decode cX4_message_ 72 = .ok (.sipush 160, 3) := by decide +kernel
theorem dX4_message__75 : decode cX4_message_ 75 = .ok (.iload_n 1, 1) := by decide +kernel
theorem dX4_message__76 : decode cX4_message_ 76 = .ok (.imul, 1) := by decide +kernel
theorem dX4_message__77 : decode cX4_message_ 77 = .ok (.iload_n 2, 1) := by decide +kernel
theorem dX4_message__78 : decode cX4_message_ 78 = .ok (.iadd, 1) := by decide +kernel
theorem dX4_message__79 : decode cX4_message_ 79 = .ok (.iaload, 1) := by decide +kernel
theorem dX4_message__80 : decode cX4_message_ 80 = .ok (.ireturn, 1) := by decide +kernel
theorem dX4_message__81 : decode cX4_message_ 81 = .ok (.iload_n 3, 1) := by decide +kernel
theorem dX4_message__82 : decode cX4_message_ 82 = .ok (.iconst 2, 1) := by decide +kernel
theorem dX4_message__83 : decode cX4_message_ 83 = .ok (.if_icmp .ne 11, 3) := by decide +kernel
theorem dX4_message__86 : decode cX4_message_ 86 = .ok (.aload_n 0, 1) := by decide +kernel
theorem dX4_message__87 : decode cX4_message_ 87 = .ok (.iload_n 1, 1) := by decide +kernel
theorem dX4_message__88 : decode cX4_message_ 88 = .ok (.iload 4, 2) := by decide +kernel
theorem dX4_message__90 : decode cX4_message_ 90 = .ok (.invokevirtual 108, 3) := by decide +kernel
theorem dX4_message__93 : decode cX4_message_ 93 = .ok (.ireturn, 1) := by decide +kernel
theorem dX4_message__94 : decode cX4_message_ 94 = .ok (.iload_n 3, 1) := by decide +kernel
theorem dX4_message__95 : decode cX4_message_ 95 = .ok (.iconst 3, 1) := by decide +kernel
theorem dX4_message__96 : decode cX4_message_ 96 = .ok (.if_icmp .ne 21, 3) := by decide +kernel
theorem dX4_message__99 : decode cX4_message_ 99 = .ok (.aload_n 0, 1) := by decide +kernel
theorem dX4_message__100 : decode cX4_message_ 100 = .ok (.iload_n 1, 1) := by decide +kernel
theorem dX4_message__101 : decode cX4_message_ 101 = .ok (.aload_n 0, 1) := by decide +kernel
theorem dX4_message__102 : decode cX4_message_ 102 = .ok (.getfield 22, 3) := by decide +kernel
theorem dX4_message__105 : decode cX4_message_ 105 = .ok (.bipush 60, 2) := by decide +kernel
theorem dX4_message__107 : decode cX4_message_ 107 = .ok (.iload_n 1, 1) := by decide +kernel
theorem dX4_message__108 : decode cX4_message_ 108 = .ok (.imul, 1) := by decide +kernel
theorem dX4_message__109 : decode cX4_message_ 109 = .ok (.iload 4, 2) := by decide +kernel
theorem dX4_message__111 : decode cX4_message_ 111 = .ok (.iadd, 1) := by decide +kernel
theorem dX4_message__112 : decode cX4_message_ 112 = .ok (.iaload, 1) := by decide +kernel
theorem dX4_message__113 : decode cX4_message_ 113 = .ok (.invokevirtual 108, 3) := by decide +kernel
theorem dX4_message__116 : decode cX4_message_ 116 = .ok (.ireturn, 1) := by decide +kernel
theorem dX4_message__117 : decode cX4_message_ 117 = .ok (.iload_n 3, 1) := by decide +kernel
theorem dX4_message__118 : decode cX4_message_ 118 = .ok (.iconst 4, 1) := by decide +kernel
theorem dX4_message__119 : decode cX4_message_ 119 = .ok (.if_icmp .ne 21, 3) := by decide +kernel
theorem dX4_message__122 : decode cX4_message_ 122 = .ok (.aload_n 0, 1) := by decide +kernel
theorem dX4_message__123 : decode cX4_message_ 123 = .ok (.iload_n 1, 1) := by decide +kernel
theorem dX4_message__124 : decode cX4_message_ 124 = .ok (.aload_n 0, 1) := by decide +kernel
theorem dX4_message__125 : decode cX4_message_ 125 = .ok (.getfield 25, 3) := by decide +kernel
theorem dX4_message__128 : decode cX4_message_ 128 = .ok (.bipush 60, 2) := by decide +kernel
theorem dX4_message__130 : decode cX4_message_ 130 = .ok (.iload_n 1, 1) := by decide +kernel
theorem dX4_message__131 : decode cX4_message_ 131 = .ok (.imul, 1) := by decide +kernel
theorem dX4_message__132 : decode cX4_message_ 132 = .ok (.iload 4, 2) := by decide +kernel
theorem dX4_message__134 : decode cX4_message_ 134 = .ok (.iadd, 1) := by decide +kernel
theorem dX4_message__135 : decode cX4_message_ 135 = .ok (.iaload, 1) := by decide +kernel
theorem dX4_message__136 : decode cX4_message_ 136 = .ok (.invokevirtual 108, 3) := by decide +kernel
theorem dX4_message__139 : decode cX4_message_ 139 = .ok (.ireturn, 1) := by decide +kernel
theorem dX4_message__140 : decode cX4_message_ 140 = .ok (.iload_n 3, 1) := by decide +kernel
theorem dX4_message__141 : decode cX4_message_ 141 = .ok (.iconst 5, 1) := by decide +kernel
theorem dX4_message__142 : decode cX4_message_ 142 = .ok (.if_icmp .ne 18, 3) := by decide +kernel
theorem dX4_message__145 : decode cX4_message_ 145 = .ok (.aload_n 0, 1) := by decide +kernel
theorem dX4_message__146 : decode cX4_message_ 146 = .ok (.getfield 19, 3) := by decide +kernel
theorem dX4_message__149 : decode cX4_message_ 149 = .ok (.bipush 60, 2) := by decide +kernel
theorem dX4_message__151 : decode cX4_message_ 151 = .ok (.iload_n 1, 1) := by decide +kernel
theorem dX4_message__152 : decode cX4_message_ 152 = .ok (.imul, 1) := by decide +kernel
theorem dX4_message__153 : decode cX4_message_ 153 = .ok (.iload 4, 2) := by decide +kernel
theorem dX4_message__155 : decode cX4_message_ 155 = .ok (.iadd, 1) := by decide +kernel
theorem dX4_message__156 : decode cX4_message_ 156 = .ok (.iaload, 1) := by decide +kernel
theorem dX4_message__157 : decode cX4_message_ 157 = .ok (.goto 4, 3) := by decide +kernel
theorem dX4_message__160 : decode cX4_message_ 160 = .ok (.iconst (-1), 1) := by decide +kernel
theorem dX4_message__161 : decode cX4_message_ 161 = .ok (.ireturn, 1) := by decide +kernel
set_option maxRecDepth 20000 in
theorem ggX4_state_X4_isText : GoodIn wsX4_state wsX4_isText := goodIn_r _ [7] (by decide +kernel) (by decide +kernel)
set_option maxRecDepth 20000 in
theorem gX4_state_X4_isText : GoodIn wsX4_state (wsV RX4 132 RX4 yX4_isText wsX4_isText) := goodIn_app (goodIn_of _ (by decide +kernel)) ggX4_state_X4_isText
set_option maxRecDepth 20000 in
theorem ggX4_state_X4_isSite : GoodIn wsX4_state wsX4_isSite := goodIn_r _ [11] (by decide +kernel) (by decide +kernel)
set_option maxRecDepth 20000 in
theorem gX4_state_X4_isSite : GoodIn wsX4_state (wsV RX4 136 RX4 yX4_isSite wsX4_isSite) := goodIn_app (goodIn_of _ (by decide +kernel)) ggX4_state_X4_isSite
set_option maxRecDepth 20000 in
theorem ggX4_state_X4_isMessage : GoodIn wsX4_state wsX4_isMessage := goodIn_r _ [15, 16, 17, 18, 19, 20, 21, 22, 23, 24, 25, 26, 27, 28, 29, 30, 31, 32, 33, 34, 35, 36, 37, 38, 39, 40, 41, 42, 43, 44, 45] (by decide +kernel) (by decide +kernel)
set_option maxRecDepth 20000 in
theorem gX4_state_X4_isMessage : GoodIn wsX4_state (wsV RX4 161 RX4 yX4_isMessage wsX4_isMessage) := goodIn_app (goodIn_of _ (by decide +kernel)) ggX4_state_X4_isMessage
theorem dX4_state_0 : decode cX4_state 0 = .ok (.aload_n 0, 1) := by decide +kernel
theorem dX4_state_1 : decode cX4_state 1 = .ok (.iconst 0, 1) := by decide +kernel
theorem dX4_state_2 : decode cX4_state 2 = .ok (.putfield 87, 3) := by decide +kernel
theorem dX4_state_5 : decode cX4_state 5 = .ok (.aload_n 0, 1) := by decide +kernel
theorem dX4_state_6 : decode cX4_state 6 = .ok (.iload_n 1, 1) := by decide +kernel
theorem dX4_state_7 : decode cX4_state 7 = .ok (.invokevirtual 132, 3) := by decide +kernel
theorem dX4_state_10 : decode cX4_state 10 = .ok (.ifCond .eq 20, 3) := by decide +kernel
theorem dX4_state_13 : decode cX4_state 13 = .ok (.aload_n 0, 1) := by decide +kernel
theorem dX4_state_14 : decode cX4_state 14 = .ok (.iload_n 2, 1) := by decide +kernel
theorem dX4_state_15 : decode cX4_state 15 = .ok (.invokevirtual 136, 3) := by decide +kernel
theorem dX4_state_18 : decode cX4_state 18 = .ok (.ifCond .eq 12, 3) := by decide +kernel
theorem dX4_state_21 : decode cX4_state 21 = .ok (.aload_n 0, 1) := by decide +kernel
theorem dX4_state_22 : decode cX4_state 22 = .ok (.iload_n 1, 1) := by decide +kernel
theorem dX4_state_23 : decode cX4_state 23 = .ok (.iload_n 3, 1) := by decide +kernel
theorem dX4_state_24 : decode cX4_state 24 = .ok (.invokevirtual 161, 3) := by decide +kernel
theorem dX4_state_27 : decode cX4_state 27 = .ok (.ifCond .ne 5, 3) := by decide +kernel
theorem dX4_state_30 : decode cX4_state 30 = .ok (.iconst (-1), 1) := by decide +kernel
theorem dX4_state_31 : decode cX4_state 31 = .ok (.ireturn, 1) := by decide +kernel
theorem dX4_state_32 : decode cX4_state 32 = .ok (.aload_n 0, 1) := by decide +kernel
theorem dX4_state_33 : decode cX4_state 33 = .ok (.getfield 59, 3) := by decide +kernel
theorem dX4_state_36 : decode cX4_state 36 = .ok (.sipush 160, 3) := by decide +kernel
theorem dX4_state_39 : decode cX4_state 39 = .ok (.iconst 5, 1) := by decide +kernel
theorem dX4_state_40 : decode cX4_state 40 = .ok (.iload_n 1, 1) := by decide +kernel
theorem dX4_state_41 : decode cX4_state 41 = .ok (.imul, 1) := by decide +kernel
theorem dX4_state_42 : decode cX4_state 42 = .ok (.iload_n 2, 1) := by decide +kernel
theorem dX4_state_43 : decode cX4_state 43 = .ok (.iadd, 1) := by decide +kernel
theorem dX4_state_44 : decode cX4_state 44 = .ok (.imul, 1) := by decide +kernel
theorem dX4_state_45 : decode cX4_state 45 = .ok (.iload_n 3, 1) := by decide +kernel
theorem dX4_state_46 : decode cX4_state 46 = .ok (.iadd, 1) := by decide +kernel
theorem dX4_state_47 : decode cX4_state 47 = .ok (.iaload, 1) := by decide +kernel
theorem dX4_state_48 : decode cX4_state 48 = .ok (.ireturn, 1) := by decide +kernel
set_option maxRecDepth 20000 in
theorem ggX4_character_X4_isText : GoodIn wsX4_character wsX4_isText := goodIn_r _ [12] (by decide +kernel) (by decide +kernel)
set_option maxRecDepth 20000 in
theorem gX4_character_X4_isText : GoodIn wsX4_character (wsV RX4 132 RX4 yX4_isText wsX4_isText) := goodIn_app (goodIn_of _ (by decide +kernel)) ggX4_character_X4_isText
set_option maxRecDepth 20000 in
theorem ggX4_character_X4_isSite : GoodIn wsX4_character wsX4_isSite := goodIn_r _ [16] (by decide +kernel) (by decide +kernel)
set_option maxRecDepth 20000 in
theorem gX4_character_X4_isSite : GoodIn wsX4_character (wsV RX4 136 RX4 yX4_isSite wsX4_isSite) := goodIn_app (goodIn_of _ (by decide +kernel)) ggX4_character_X4_isSite
set_option maxRecDepth 20000 in
theorem ggX4_character_X4_mark : GoodIn wsX4_character wsX4_mark := goodIn_r _ [20, 21, 22, 27, 28, 29, 30, 31, 32, 33, 34, 35, 36, 37, 38, 39, 40, 41, 42, 43, 44, 45, 46, 47, 48, 49, 50, 51, 52, 53, 54, 55] (by decide +kernel) (by decide +kernel)
set_option maxRecDepth 20000 in
theorem gX4_character_X4_mark : GoodIn wsX4_character (wsV RX4 108 RX4 yX4_mark wsX4_mark) := goodIn_app (goodIn_of _ (by decide +kernel)) ggX4_character_X4_mark
set_option maxRecDepth 20000 in
theorem ggX4_character_X4_place : GoodIn wsX4_character wsX4_place := goodIn_r _ [26, 2, 3, 27, 28, 29, 30, 31, 32, 33, 34, 35, 36, 37, 38, 39, 40, 41, 42, 43, 44, 45, 46, 47, 48, 49, 50, 51, 52, 53, 54, 55] (by decide +kernel) (by decide +kernel)
set_option maxRecDepth 20000 in
theorem gX4_character_X4_place : GoodIn wsX4_character (wsV RX4 101 RX4 yX4_place wsX4_place) := goodIn_app (goodIn_of _ (by decide +kernel)) ggX4_character_X4_place
theorem dX4_character_0 : decode cX4_character 0 = .ok (.aload_n 0, 1) := by decide +kernel
theorem dX4_character_1 : decode cX4_character 1 = .ok (.iconst 0, 1) := by decide +kernel
theorem dX4_character_2 : decode cX4_character 2 = .ok (.putfield 87, 3) := by decide +kernel
theorem dX4_character_5 : decode cX4_character 5 = .ok (.aload_n 0, 1) := by decide +kernel
theorem dX4_character_6 : decode cX4_character 6 = .ok (.iload_n 1, 1) := by decide +kernel
theorem dX4_character_7 : decode cX4_character 7 = .ok (.invokevirtual 132, 3) := by decide +kernel
theorem dX4_character_10 : decode cX4_character 10 = .ok (.ifCond .eq 11, 3) := by decide +kernel
theorem dX4_character_13 : decode cX4_character 13 = .ok (.aload_n 0, 1) := by decide +kernel
theorem dX4_character_14 : decode cX4_character 14 = .ok (.iload_n 2, 1) := by decide +kernel
theorem dX4_character_15 : decode cX4_character 15 = .ok (.invokevirtual 136, 3) := by decide +kernel
theorem dX4_character_18 : decode cX4_character 18 = .ok (.ifCond .ne 5, 3) := by decide +kernel
theorem dX4_character_21 : decode cX4_character 21 = .ok (.iconst (-1), 1) := by decide +kernel
theorem dX4_character_22 : decode cX4_character 22 = .ok (.ireturn, 1) := by decide +kernel
theorem dX4_character_23 : decode cX4_character 23 = .ok (.iconst 5, 1) := by decide +kernel
theorem dX4_character_24 : decode cX4_character 24 = .ok (.iload_n 1, 1) := by decide +kernel
theorem dX4_character_25 : decode cX4_character 25 = .ok (.imul, 1) := by decide +kernel
theorem dX4_character_26 : decode cX4_character 26 = .ok (.iload_n 2, 1) := by decide +kernel
theorem dX4_character_27 : decode cX4_character 27 = .ok (.iadd, 1) := by decide +kernel
theorem dX4_character_28 : decode cX4_character 28 = .ok (.istore 5, 2) := by decide +kernel
theorem dX4_character_30 : decode cX4_character 30 = .ok (.iload_n 3, 1) := by decide +kernel
theorem dX4_character_31 : decode cX4_character 31 = .ok (.ifCond .lt 14, 3) := by decide +kernel
theorem dX4_character_34 : decode cX4_character 34 = .ok (.iload_n 3, 1) := by decide +kernel
theorem dX4_character_35 : decode cX4_character 35 = .ok (.aload_n 0, 1) := by decide +kernel
theorem dX4_character_36 : decode cX4_character 36 = .ok (.getfield 50, 3) := by decide +kernel
theorem dX4_character_39 : decode cX4_character 39 = .ok (.iload 5, 2) := by decide +kernel
theorem dX4_character_41 : decode cX4_character 41 = .ok (.iaload, 1) := by decide +kernel
theorem dX4_character_42 : decode cX4_character 42 = .ok (.if_icmp .lt 5, 3) := by decide +kernel
theorem dX4_character_45 : decode cX4_character 45 = .ok (.iconst (-1), 1) := by decide +kernel
theorem dX4_character_46 : decode cX4_character 46 = .ok (.ireturn, 1) := by decide +kernel
theorem dX4_character_47 : decode cX4_character 47 = .ok (.aload_n 0, 1) := by decide +kernel
theorem dX4_character_48 : decode cX4_character 48 = .ok (.getfield 47, 3) := by decide +kernel
theorem dX4_character_51 : decode cX4_character 51 = .ok (.bipush 60, 2) := by decide +kernel
theorem dX4_character_53 : decode cX4_character 53 = .ok (.iload 5, 2) := by decide +kernel
theorem dX4_character_55 : decode cX4_character 55 = .ok (.imul, 1) := by decide +kernel
theorem dX4_character_56 : decode cX4_character 56 = .ok (.iload_n 3, 1) := by decide +kernel
theorem dX4_character_57 : decode cX4_character 57 = .ok (.iadd, 1) := by decide +kernel
theorem dX4_character_58 : decode cX4_character 58 = .ok (.iaload, 1) := by decide +kernel
theorem dX4_character_59 : decode cX4_character 59 = .ok (.istore 6, 2) := by decide +kernel
theorem dX4_character_61 : decode cX4_character 61 = .ok (.iload 4, 2) := by decide +kernel
theorem dX4_character_63 : decode cX4_character 63 = .ok (.ifCond .ne 11, 3) := by decide +kernel
theorem dX4_character_66 : decode cX4_character 66 = .ok (.aload_n 0, 1) := by decide +kernel
theorem dX4_character_67 : decode cX4_character 67 = .ok (.iload_n 1, 1) := by decide +kernel
theorem dX4_character_68 : decode cX4_character 68 = .ok (.iload 6, 2) := by decide +kernel
theorem dX4_character_70 : decode cX4_character 70 = .ok (.invokevirtual 108, 3) := by decide +kernel
theorem dX4_character_73 : decode cX4_character 73 = .ok (.ireturn, 1) := by decide +kernel
theorem dX4_character_74 : decode cX4_character 74 = .ok (.iload 4, 2) := by decide +kernel
theorem dX4_character_76 : decode cX4_character 76 = .ok (.iconst 1, 1) := by decide +kernel
theorem dX4_character_77 : decode cX4_character 77 = .ok (.if_icmp .ne 16, 3) := by decide +kernel
theorem dX4_character_80 : decode cX4_character 80 = .ok (.aload_n 0, 1) := by decide +kernel
theorem dX4_character_81 : decode cX4_character 81 = .ok (.getfield 19, 3) := by decide +kernel
theorem dX4_character_84 : decode cX4_character 84 = .ok (.bipush 60, 2) := by decide +kernel
theorem dX4_character_86 : decode cX4_character 86 = .ok (.iload_n 1, 1) := by decide +kernel
theorem dX4_character_87 : decode cX4_character 87 = .ok (.imul, 1) := by decide +kernel
theorem dX4_character_88 : decode cX4_character 88 = .ok (.iload 6, 2) := by decide +kernel
theorem dX4_character_90 : decode cX4_character 90 = .ok (.iadd, 1) := by decide +kernel
theorem dX4_character_91 : decode cX4_character 91 = .ok (.iaload, 1) := by decide +kernel
theorem dX4_character_92 : decode cX4_character 92 = .ok (.ireturn, 1) := by decide +kernel
theorem dX4_character_93 : decode cX4_character 93 = .ok (.iload 4, 2) := by decide +kernel
theorem dX4_character_95 : decode cX4_character 95 = .ok (.iconst 2, 1) := by decide +kernel
theorem dX4_character_96 : decode cX4_character 96 = .ok (.if_icmp .ne 25, 3) := by decide +kernel
theorem dX4_character_99 : decode cX4_character 99 = .ok (.aload_n 0, 1) := by decide +kernel
theorem dX4_character_100 : decode cX4_character 100 = .ok (.getfield 56, 3) := by decide +kernel
theorem dX4_character_103 : decode cX4_character 103 = .ok (.bipush 60, 2) := by decide +kernel
theorem dX4_character_105 : decode cX4_character 105 = .ok (.iload 5, 2) := by decide +kernel
theorem dX4_character_107 : decode cX4_character 107 = .ok (.imul, 1) := by decide +kernel
theorem dX4_character_108 : decode cX4_character 108 = .ok (.iload 6, 2) := by decide +kernel
theorem dX4_character_110 : decode cX4_character 110 = .ok (.iadd, 1) := by decide +kernel
theorem dX4_character_111 : decode cX4_character 111 = .ok (.baload, 1) := by decide +kernel
theorem dX4_character_112 : decode cX4_character 112 = .ok (.ifCond .eq 7, 3) := by decide +kernel
theorem dX4_character_115 : decode cX4_character 115 = .ok (.iconst 0, 1) := by decide +kernel
theorem dX4_character_116 : decode cX4_character 116 = .ok (.goto 4, 3) := by decide +kernel
theorem dX4_character_119 : decode cX4_character 119 = .ok (.iconst 1, 1) := by decide +kernel
theorem dX4_character_120 : decode cX4_character 120 = .ok (.ireturn, 1) := by decide +kernel
theorem dX4_character_121 : decode cX4_character 121 = .ok (.iload 4, 2) := by decide +kernel
theorem dX4_character_123 : decode cX4_character 123 = .ok (.iconst 3, 1) := by decide +kernel
theorem dX4_character_124 : decode cX4_character 124 = .ok (.if_icmp .ne 22, 3) := by decide +kernel
theorem dX4_character_127 : decode cX4_character 127 = .ok (.aload_n 0, 1) := by decide +kernel
theorem dX4_character_128 : decode cX4_character 128 = .ok (.iload 5, 2) := by decide +kernel
theorem dX4_character_130 : decode cX4_character 130 = .ok (.aload_n 0, 1) := by decide +kernel
theorem dX4_character_131 : decode cX4_character 131 = .ok (.getfield 22, 3) := by decide +kernel
