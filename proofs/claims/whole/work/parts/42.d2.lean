theorem dX4_showValue_217 : decode cX4_showValue 217 = .ok (.iconst 4, 1) := by decide +kernel
theorem dX4_showValue_218 : decode cX4_showValue 218 = .ok (.iconst 1, 1) := by decide +kernel
theorem dX4_showValue_219 : decode cX4_showValue 219 = .ok (.invokevirtual 245, 3) := by decide +kernel
theorem dX4_showValue_222 : decode cX4_showValue 222 = .ok (.iload 7, 2) := by decide +kernel
theorem dX4_showValue_224 : decode cX4_showValue 224 = .ok (.ifCond .ne 18, 3) := by decide +kernel
theorem dX4_showValue_227 : decode cX4_showValue 227 = .ok (.iload 9, 2) := by decide +kernel
theorem dX4_showValue_229 : decode cX4_showValue 229 = .ok (.aload_n 0, 1) := by decide +kernel
theorem dX4_showValue_230 : decode cX4_showValue 230 = .ok (.getfield 34, 3) := by decide +kernel
theorem dX4_showValue_233 : decode cX4_showValue 233 = .ok (.iload 6, 2) := by decide +kernel
theorem dX4_showValue_235 : decode cX4_showValue 235 = .ok (.iconst 0, 1) := by decide +kernel
theorem dX4_showValue_236 : decode cX4_showValue 236 = .ok (.invokevirtual 217, 3) := by decide +kernel
theorem dX4_showValue_239 : decode cX4_showValue 239 = .ok (.if_icmp .eq 33, 3) := by decide +kernel
theorem dX4_showValue_242 : decode cX4_showValue 242 = .ok (.aload_n 0, 1) := by decide +kernel
theorem dX4_showValue_243 : decode cX4_showValue 243 = .ok (.getfield 34, 3) := by decide +kernel
theorem dX4_showValue_246 : decode cX4_showValue 246 = .ok (.iload 6, 2) := by decide +kernel
theorem dX4_showValue_248 : decode cX4_showValue 248 = .ok (.iconst 0, 1) := by decide +kernel
theorem dX4_showValue_249 : decode cX4_showValue 249 = .ok (.iload 9, 2) := by decide +kernel
theorem dX4_showValue_251 : decode cX4_showValue 251 = .ok (.invokevirtual 245, 3) := by decide +kernel
theorem dX4_showValue_254 : decode cX4_showValue 254 = .ok (.aload_n 0, 1) := by decide +kernel
theorem dX4_showValue_255 : decode cX4_showValue 255 = .ok (.getfield 34, 3) := by decide +kernel
theorem dX4_showValue_258 : decode cX4_showValue 258 = .ok (.iload 6, 2) := by decide +kernel
theorem dX4_showValue_260 : decode cX4_showValue 260 = .ok (.bipush 6, 2) := by decide +kernel
theorem dX4_showValue_262 : decode cX4_showValue 262 = .ok (.aload_n 0, 1) := by decide +kernel
theorem dX4_showValue_263 : decode cX4_showValue 263 = .ok (.getfield 34, 3) := by decide +kernel
theorem dX4_showValue_266 : decode cX4_showValue 266 = .ok (.getfield 226, 3) := by decide +kernel
theorem dX4_showValue_269 : decode cX4_showValue 269 = .ok (.invokevirtual 245, 3) := by decide +kernel
theorem dX4_showValue_272 : decode cX4_showValue 272 = .ok (.iload 9, 2) := by decide +kernel
theorem dX4_showValue_274 : decode cX4_showValue 274 = .ok (.bipush 7, 2) := by decide +kernel
theorem dX4_showValue_276 : decode cX4_showValue 276 = .ok (.if_icmp .ne 15, 3) := by decide +kernel
theorem dX4_showValue_279 : decode cX4_showValue 279 = .ok (.aload_n 0, 1) := by decide +kernel
theorem dX4_showValue_280 : decode cX4_showValue 280 = .ok (.getfield 34, 3) := by decide +kernel
theorem dX4_showValue_283 : decode cX4_showValue 283 = .ok (.iload 6, 2) := by decide +kernel
theorem dX4_showValue_285 : decode cX4_showValue 285 = .ok (.invokevirtual 259, 3) := by decide +kernel
theorem dX4_showValue_288 : decode cX4_showValue 288 = .ok (.goto 12, 3) := by decide +kernel
theorem dX4_showValue_291 : decode cX4_showValue 291 = .ok (.aload_n 1, 1) := by decide +kernel
theorem dX4_showValue_292 : decode cX4_showValue 292 = .ok (.iload_n 2, 1) := by decide +kernel
theorem dX4_showValue_293 : decode cX4_showValue 293 = .ok (.bipush 7, 2) := by decide +kernel
theorem dX4_showValue_295 : decode cX4_showValue 295 = .ok (.iload 6, 2) := by decide +kernel
theorem dX4_showValue_297 : decode cX4_showValue 297 = .ok (.invokevirtual 245, 3) := by decide +kernel
theorem dX4_showValue_300 : decode cX4_showValue 300 = .ok (.return_, 1) := by decide +kernel
set_option maxRecDepth 20000 in
theorem ggX4_isRefused_X4_bringsAny : GoodIn wsX4_isRefused wsX4_bringsAny := goodIn_r _ [9, 1, 2, 10, 11, 12, 13, 14, 15, 16, 17, 18, 19, 20, 21, 22, 23, 24, 25, 26, 27] (by decide +kernel) (by decide +kernel)
set_option maxRecDepth 20000 in
theorem gX4_isRefused_X4_bringsAny : GoodIn wsX4_isRefused (wsV RX4 263 RX4 yX4_bringsAny wsX4_bringsAny) := goodIn_app (goodIn_of _ (by decide +kernel)) ggX4_isRefused_X4_bringsAny
theorem dX4_isRefused_0 : decode cX4_isRefused 0 = .ok (.aload_n 0, 1) := by decide +kernel
theorem dX4_isRefused_1 : decode cX4_isRefused 1 = .ok (.getfield 34, 3) := by decide +kernel
theorem dX4_isRefused_4 : decode cX4_isRefused 4 = .ok (.getfield 92, 3) := by decide +kernel
theorem dX4_isRefused_7 : decode cX4_isRefused 7 = .ok (.bipush 30, 2) := by decide +kernel
theorem dX4_isRefused_9 : decode cX4_isRefused 9 = .ok (.if_icmp .gt 22, 3) := by decide +kernel
theorem dX4_isRefused_12 : decode cX4_isRefused 12 = .ok (.aload_n 0, 1) := by decide +kernel
theorem dX4_isRefused_13 : decode cX4_isRefused 13 = .ok (.getfield 23, 3) := by decide +kernel
theorem dX4_isRefused_16 : decode cX4_isRefused 16 = .ok (.getfield 115, 3) := by decide +kernel
theorem dX4_isRefused_19 : decode cX4_isRefused 19 = .ok (.iconst 1, 1) := by decide +kernel
theorem dX4_isRefused_20 : decode cX4_isRefused 20 = .ok (.if_icmp .ne 15, 3) := by decide +kernel
theorem dX4_isRefused_23 : decode cX4_isRefused 23 = .ok (.aload_n 0, 1) := by decide +kernel
theorem dX4_isRefused_24 : decode cX4_isRefused 24 = .ok (.aload_n 1, 1) := by decide +kernel
theorem dX4_isRefused_25 : decode cX4_isRefused 25 = .ok (.invokevirtual 263, 3) := by decide +kernel
theorem dX4_isRefused_28 : decode cX4_isRefused 28 = .ok (.ifCond .eq 7, 3) := by decide +kernel
theorem dX4_isRefused_31 : decode cX4_isRefused 31 = .ok (.iconst 1, 1) := by decide +kernel
theorem dX4_isRefused_32 : decode cX4_isRefused 32 = .ok (.goto 4, 3) := by decide +kernel
theorem dX4_isRefused_35 : decode cX4_isRefused 35 = .ok (.iconst 0, 1) := by decide +kernel
theorem dX4_isRefused_36 : decode cX4_isRefused 36 = .ok (.ireturn, 1) := by decide +kernel
set_option maxRecDepth 20000 in
theorem ggX4_bringsAny_X3_get : GoodIn wsX4_bringsAny wsX3_get := goodIn_r _ [7, 8, 9, 18, 19, 20] (by decide +kernel) (by decide +kernel)
set_option maxRecDepth 20000 in
theorem gX4_bringsAny_X3_get : GoodIn wsX4_bringsAny (wsV RX4 217 RX3 yX3_get wsX3_get) := goodIn_app (goodIn_of _ (by decide +kernel)) ggX4_bringsAny_X3_get
theorem dX4_bringsAny_0 : decode cX4_bringsAny 0 = .ok (.iconst 0, 1) := by decide +kernel
theorem dX4_bringsAny_1 : decode cX4_bringsAny 1 = .ok (.istore_n 2, 1) := by decide +kernel
theorem dX4_bringsAny_2 : decode cX4_bringsAny 2 = .ok (.iload_n 2, 1) := by decide +kernel
theorem dX4_bringsAny_3 : decode cX4_bringsAny 3 = .ok (.aload_n 0, 1) := by decide +kernel
theorem dX4_bringsAny_4 : decode cX4_bringsAny 4 = .ok (.getfield 34, 3) := by decide +kernel
theorem dX4_bringsAny_7 : decode cX4_bringsAny 7 = .ok (.getfield 92, 3) := by decide +kernel
theorem dX4_bringsAny_10 : decode cX4_bringsAny 10 = .ok (.if_icmp .ge 52, 3) := by decide +kernel
theorem dX4_bringsAny_13 : decode cX4_bringsAny 13 = .ok (.aload_n 0, 1) := by decide +kernel
theorem dX4_bringsAny_14 : decode cX4_bringsAny 14 = .ok (.getfield 34, 3) := by decide +kernel
theorem dX4_bringsAny_17 : decode cX4_bringsAny 17 = .ok (.iload_n 2, 1) := by decide +kernel
theorem dX4_bringsAny_18 : decode cX4_bringsAny 18 = .ok (.bipush 7, 2) := by decide +kernel
theorem dX4_bringsAny_20 : decode cX4_bringsAny 20 = .ok (.invokevirtual 217, 3) := by decide +kernel
theorem dX4_bringsAny_23 : decode cX4_bringsAny 23 = .ok (.istore_n 3, 1) := by decide +kernel
theorem dX4_bringsAny_24 : decode cX4_bringsAny 24 = .ok (.aload_n 0, 1) := by decide +kernel
theorem dX4_bringsAny_25 : decode cX4_bringsAny 25 = .ok (.getfield 34, 3) := by decide +kernel
theorem dX4_bringsAny_28 : decode cX4_bringsAny 28 = .ok (.iload_n 2, 1) := by decide +kernel
theorem dX4_bringsAny_29 : decode cX4_bringsAny 29 = .ok (.iconst 0, 1) := by decide +kernel
theorem dX4_bringsAny_30 : decode cX4_bringsAny 30 = .ok (.invokevirtual 217, 3) := by decide +kernel
theorem dX4_bringsAny_33 : decode cX4_bringsAny 33 = .ok (.bipush 7, 2) := by decide +kernel
theorem dX4_bringsAny_35 : decode cX4_bringsAny 35 = .ok (.if_icmp .ne 21, 3) := by decide +kernel
theorem dX4_bringsAny_38 : decode cX4_bringsAny 38 = .ok (.iload_n 3, 1) := by decide +kernel
theorem dX4_bringsAny_39 : decode cX4_bringsAny 39 = .ok (.iconst (-1), 1) := by decide +kernel
theorem dX4_bringsAny_40 : decode cX4_bringsAny 40 = .ok (.if_icmp .eq 14, 3) := by decide +kernel
theorem dX4_bringsAny_43 : decode cX4_bringsAny 43 = .ok (.aload_n 1, 1) := by decide +kernel
theorem dX4_bringsAny_44 : decode cX4_bringsAny 44 = .ok (.iload_n 3, 1) := by decide +kernel
theorem dX4_bringsAny_45 : decode cX4_bringsAny 45 = .ok (.iconst 0, 1) := by decide +kernel
theorem dX4_bringsAny_46 : decode cX4_bringsAny 46 = .ok (.invokevirtual 217, 3) := by decide +kernel
theorem dX4_bringsAny_49 : decode cX4_bringsAny 49 = .ok (.bipush 7, 2) := by decide +kernel
theorem dX4_bringsAny_51 : decode cX4_bringsAny 51 = .ok (.if_icmp .eq 5, 3) := by decide +kernel
theorem dX4_bringsAny_54 : decode cX4_bringsAny 54 = .ok (.iconst 1, 1) := by decide +kernel
theorem dX4_bringsAny_55 : decode cX4_bringsAny 55 = .ok (.ireturn, 1) := by decide +kernel
theorem dX4_bringsAny_56 : decode cX4_bringsAny 56 = .ok (.iinc 2 1, 3) := by decide +kernel
theorem dX4_bringsAny_59 : decode cX4_bringsAny 59 = .ok (.goto (-57), 3) := by decide +kernel
theorem dX4_bringsAny_62 : decode cX4_bringsAny 62 = .ok (.iconst 0, 1) := by decide +kernel
theorem dX4_bringsAny_63 : decode cX4_bringsAny 63 = .ok (.ireturn, 1) := by decide +kernel
set_option maxRecDepth 20000 in
theorem ggX4_outlookNumber_X4_isRefused : GoodIn wsX4_outlookNumber wsX4_isRefused := goodIn_r _ [7, 1, 2, 8, 9, 10, 11, 12, 6, 13, 14, 15, 16, 17, 18, 19, 20, 21, 22, 23, 24, 25, 26, 27, 28, 29, 30, 31, 32, 33, 34] (by decide +kernel) (by decide +kernel)
set_option maxRecDepth 20000 in
theorem gX4_outlookNumber_X4_isRefused : GoodIn wsX4_outlookNumber (wsV RX4 77 RX4 yX4_isRefused wsX4_isRefused) := goodIn_app (goodIn_of _ (by decide +kernel)) ggX4_outlookNumber_X4_isRefused
set_option maxRecDepth 20000 in
theorem ggX4_outlookNumber_X3_get : GoodIn wsX4_outlookNumber wsX3_get := goodIn_r _ [18, 19, 20, 29, 30, 31] (by decide +kernel) (by decide +kernel)
set_option maxRecDepth 20000 in
theorem gX4_outlookNumber_X3_get : GoodIn wsX4_outlookNumber (wsV RX4 217 RX3 yX3_get wsX3_get) := goodIn_app (goodIn_of _ (by decide +kernel)) ggX4_outlookNumber_X3_get
theorem dX4_outlookNumber_0 : decode cX4_outlookNumber 0 = .ok (.iload_n 2, 1) := by decide +kernel
theorem dX4_outlookNumber_1 : decode cX4_outlookNumber 1 = .ok (.ifCond .ne 11, 3) := by decide +kernel
theorem dX4_outlookNumber_4 : decode cX4_outlookNumber 4 = .ok (.aload_n 0, 1) := by decide +kernel
theorem dX4_outlookNumber_5 : decode cX4_outlookNumber 5 = .ok (.getfield 34, 3) := by decide +kernel
theorem dX4_outlookNumber_8 : decode cX4_outlookNumber 8 = .ok (.getfield 92, 3) := by decide +kernel
theorem dX4_outlookNumber_11 : decode cX4_outlookNumber 11 = .ok (.ireturn, 1) := by decide +kernel
theorem dX4_outlookNumber_12 : decode cX4_outlookNumber 12 = .ok (.iload_n 2, 1) := by decide +kernel
theorem dX4_outlookNumber_13 : decode cX4_outlookNumber 13 = .ok (.iconst 4, 1) := by decide +kernel
theorem dX4_outlookNumber_14 : decode cX4_outlookNumber 14 = .ok (.if_icmp .ne 17, 3) := by decide +kernel
theorem dX4_outlookNumber_17 : decode cX4_outlookNumber 17 = .ok (.aload_n 0, 1) := by decide +kernel
theorem dX4_outlookNumber_18 : decode cX4_outlookNumber 18 = .ok (.aload_n 1, 1) := by decide +kernel
theorem dX4_outlookNumber_19 : decode cX4_outlookNumber 19 = .ok (.invokevirtual 77, 3) := by decide +kernel
theorem dX4_outlookNumber_22 : decode cX4_outlookNumber 22 = .ok (.ifCond .eq 7, 3) := by decide +kernel
theorem dX4_outlookNumber_25 : decode cX4_outlookNumber 25 = .ok (.iconst 1, 1) := by decide +kernel
theorem dX4_outlookNumber_26 : decode cX4_outlookNumber 26 = .ok (.goto 4, 3) := by decide +kernel
theorem dX4_outlookNumber_29 : decode cX4_outlookNumber 29 = .ok (.iconst 0, 1) := by decide +kernel
theorem dX4_outlookNumber_30 : decode cX4_outlookNumber 30 = .ok (.ireturn, 1) := by decide +kernel
theorem dX4_outlookNumber_31 : decode cX4_outlookNumber 31 = .ok (.iconst 0, 1) := by decide +kernel
theorem dX4_outlookNumber_32 : decode cX4_outlookNumber 32 = .ok (.istore_n 3, 1) := by decide +kernel
theorem dX4_outlookNumber_33 : decode cX4_outlookNumber 33 = .ok (.iconst 0, 1) := by decide +kernel
theorem dX4_outlookNumber_34 : decode cX4_outlookNumber 34 = .ok (.istore 4, 2) := by decide +kernel
theorem dX4_outlookNumber_36 : decode cX4_outlookNumber 36 = .ok (.iconst 0, 1) := by decide +kernel
theorem dX4_outlookNumber_37 : decode cX4_outlookNumber 37 = .ok (.istore 5, 2) := by decide +kernel
theorem dX4_outlookNumber_39 : decode cX4_outlookNumber 39 = .ok (.iconst 0, 1) := by decide +kernel
theorem dX4_outlookNumber_40 : decode cX4_outlookNumber 40 = .ok (.istore 6, 2) := by decide +kernel
theorem dX4_outlookNumber_42 : decode cX4_outlookNumber 42 = .ok (.iload 6, 2) := by decide +kernel
theorem dX4_outlookNumber_44 : decode cX4_outlookNumber 44 = .ok (.aload_n 0, 1) := by decide +kernel
theorem dX4_outlookNumber_45 : decode cX4_outlookNumber 45 = .ok (.getfield 34, 3) := by decide +kernel
theorem dX4_outlookNumber_48 : decode cX4_outlookNumber 48 = .ok (.getfield 92, 3) := by decide +kernel
theorem dX4_outlookNumber_51 : decode cX4_outlookNumber 51 = .ok (.if_icmp .ge 99, 3) := by decide +kernel
theorem dX4_outlookNumber_54 : decode cX4_outlookNumber 54 = .ok (.aload_n 0, 1) := by decide +kernel
theorem dX4_outlookNumber_55 : decode cX4_outlookNumber 55 = .ok (.getfield 34, 3) := by decide +kernel
theorem dX4_outlookNumber_58 : decode cX4_outlookNumber 58 = .ok (.iload 6, 2) := by decide +kernel
theorem dX4_outlookNumber_60 : decode cX4_outlookNumber 60 = .ok (.bipush 7, 2) := by decide +kernel
theorem dX4_outlookNumber_62 : decode cX4_outlookNumber 62 = .ok (.invokevirtual 217, 3) := by decide +kernel
theorem dX4_outlookNumber_65 : decode cX4_outlookNumber 65 = .ok (.istore 7, 2) := by decide +kernel
theorem dX4_outlookNumber_67 : decode cX4_outlookNumber 67 = .ok (.aload_n 0, 1) := by decide +kernel
theorem dX4_outlookNumber_68 : decode cX4_outlookNumber 68 = .ok (.getfield 34, 3) := by decide +kernel
theorem dX4_outlookNumber_71 : decode cX4_outlookNumber 71 = .ok (.iload 6, 2) := by decide +kernel
theorem dX4_outlookNumber_73 : decode cX4_outlookNumber 73 = .ok (.iconst 0, 1) := by decide +kernel
theorem dX4_outlookNumber_74 : decode cX4_outlookNumber 74 = .ok (.invokevirtual 217, 3) := by decide +kernel
theorem dX4_outlookNumber_77 : decode cX4_outlookNumber 77 = .ok (.istore 8, 2) := by decide +kernel
theorem dX4_outlookNumber_79 : decode cX4_outlookNumber 79 = .ok (.iload 7, 2) := by decide +kernel
theorem dX4_outlookNumber_81 : decode cX4_outlookNumber 81 = .ok (.iconst (-1), 1) := by decide +kernel
theorem dX4_outlookNumber_82 : decode cX4_outlookNumber 82 = .ok (.if_icmp .eq 62, 3) := by decide +kernel
theorem dX4_outlookNumber_85 : decode cX4_outlookNumber 85 = .ok (.iinc 3 1, 3) := by decide +kernel
theorem dX4_outlookNumber_88 : decode cX4_outlookNumber 88 = .ok (.iload 8, 2) := by decide +kernel
theorem dX4_outlookNumber_90 : decode cX4_outlookNumber 90 = .ok (.aload_n 1, 1) := by decide +kernel
theorem dX4_outlookNumber_91 : decode cX4_outlookNumber 91 = .ok (.iload 7, 2) := by decide +kernel
theorem dX4_outlookNumber_93 : decode cX4_outlookNumber 93 = .ok (.iconst 0, 1) := by decide +kernel
theorem dX4_outlookNumber_94 : decode cX4_outlookNumber 94 = .ok (.invokevirtual 217, 3) := by decide +kernel
theorem dX4_outlookNumber_97 : decode cX4_outlookNumber 97 = .ok (.if_icmp .eq 7, 3) := by decide +kernel
theorem dX4_outlookNumber_100 : decode cX4_outlookNumber 100 = .ok (.iconst 1, 1) := by decide +kernel
theorem dX4_outlookNumber_101 : decode cX4_outlookNumber 101 = .ok (.goto 4, 3) := by decide +kernel
theorem dX4_outlookNumber_104 : decode cX4_outlookNumber 104 = .ok (.iconst 0, 1) := by decide +kernel
theorem dX4_outlookNumber_105 : decode cX4_outlookNumber 105 = .ok (.istore 9, 2) := by decide +kernel
theorem dX4_outlookNumber_107 : decode cX4_outlookNumber 107 = .ok (.iload 4, 2) := by decide +kernel
theorem dX4_outlookNumber_109 : decode cX4_outlookNumber 109 = .ok (.iload 9, 2) := by decide +kernel
theorem dX4_outlookNumber_111 : decode cX4_outlookNumber 111 = .ok (.ifCond .eq 7, 3) := by decide +kernel
theorem dX4_outlookNumber_114 : decode cX4_outlookNumber 114 = .ok (.iconst 1, 1) := by decide +kernel
theorem dX4_outlookNumber_115 : decode cX4_outlookNumber 115 = .ok (.goto 4, 3) := by decide +kernel
theorem dX4_outlookNumber_118 : decode cX4_outlookNumber 118 = .ok (.iconst 0, 1) := by decide +kernel
theorem dX4_outlookNumber_119 : decode cX4_outlookNumber 119 = .ok (.iadd, 1) := by decide +kernel
theorem dX4_outlookNumber_120 : decode cX4_outlookNumber 120 = .ok (.istore 4, 2) := by decide +kernel
theorem dX4_outlookNumber_122 : decode cX4_outlookNumber 122 = .ok (.iload 5, 2) := by decide +kernel
theorem dX4_outlookNumber_124 : decode cX4_outlookNumber 124 = .ok (.iload 9, 2) := by decide +kernel
theorem dX4_outlookNumber_126 : decode cX4_outlookNumber 126 = .ok (.ifCond .eq 14, 3) := by decide +kernel
theorem dX4_outlookNumber_129 : decode cX4_outlookNumber 129 = .ok (.iload 8, 2) := by decide +kernel
theorem dX4_outlookNumber_131 : decode cX4_outlookNumber 131 = .ok (.bipush 7, 2) := by decide +kernel
theorem dX4_outlookNumber_133 : decode cX4_outlookNumber 133 = .ok (.if_icmp .ne 7, 3) := by decide +kernel
theorem dX4_outlookNumber_136 : decode cX4_outlookNumber 136 = .ok (.iconst 1, 1) := by decide +kernel
theorem dX4_outlookNumber_137 : decode cX4_outlookNumber 137 = .ok (.goto 4, 3) := by decide +kernel
theorem dX4_outlookNumber_140 : decode cX4_outlookNumber 140 = .ok (.iconst 0, 1) := by decide +kernel
theorem dX4_outlookNumber_141 : decode cX4_outlookNumber 141 = .ok (.iadd, 1) := by decide +kernel
theorem dX4_outlookNumber_142 : decode cX4_outlookNumber 142 = .ok (.istore 5, 2) := by decide +kernel
theorem dX4_outlookNumber_144 : decode cX4_outlookNumber 144 = .ok (.iinc 6 1, 3) := by decide +kernel
theorem dX4_outlookNumber_147 : decode cX4_outlookNumber 147 = .ok (.goto (-105), 3) := by decide +kernel
theorem dX4_outlookNumber_150 : decode cX4_outlookNumber 150 = .ok (.iload_n 2, 1) := by decide +kernel
theorem dX4_outlookNumber_151 : decode cX4_outlookNumber 151 = .ok (.iconst 1, 1) := by decide +kernel
theorem dX4_outlookNumber_152 : decode cX4_outlookNumber 152 = .ok (.if_icmp .ne 8, 3) := by decide +kernel
theorem dX4_outlookNumber_155 : decode cX4_outlookNumber 155 = .ok (.iload 4, 2) := by decide +kernel
theorem dX4_outlookNumber_157 : decode cX4_outlookNumber 157 = .ok (.goto 19, 3) := by decide +kernel
theorem dX4_outlookNumber_160 : decode cX4_outlookNumber 160 = .ok (.iload_n 2, 1) := by decide +kernel
theorem dX4_outlookNumber_161 : decode cX4_outlookNumber 161 = .ok (.iconst 2, 1) := by decide +kernel
theorem dX4_outlookNumber_162 : decode cX4_outlookNumber 162 = .ok (.if_icmp .ne 8, 3) := by decide +kernel
theorem dX4_outlookNumber_165 : decode cX4_outlookNumber 165 = .ok (.iload 5, 2) := by decide +kernel
theorem dX4_outlookNumber_167 : decode cX4_outlookNumber 167 = .ok (.goto 9, 3) := by decide +kernel
theorem dX4_outlookNumber_170 : decode cX4_outlookNumber 170 = .ok (.aload_n 1, 1) := by decide +kernel
theorem dX4_outlookNumber_171 : decode cX4_outlookNumber 171 = .ok (.getfield 92, 3) := by decide +kernel
theorem dX4_outlookNumber_174 : decode cX4_outlookNumber 174 = .ok (.iload_n 3, 1) := by decide +kernel
theorem dX4_outlookNumber_175 : decode cX4_outlookNumber 175 = .ok (.isub, 1) := by decide +kernel
theorem dX4_outlookNumber_176 : decode cX4_outlookNumber 176 = .ok (.ireturn, 1) := by decide +kernel
set_option maxRecDepth 20000 in
theorem ggX4_workOutJoined_X3_clear : GoodIn wsX4_workOutJoined wsX3_clear := goodIn_r _ [8, 9, 10, 57, 58, 59] (by decide +kernel) (by decide +kernel)
set_option maxRecDepth 20000 in
theorem gX4_workOutJoined_X3_clear : GoodIn wsX4_workOutJoined (wsV RX4 101 RX3 yX3_clear wsX3_clear) := goodIn_app (goodIn_of _ (by decide +kernel)) ggX4_workOutJoined_X3_clear
set_option maxRecDepth 20000 in
theorem ggX4_workOutJoined_X4_joinNodes : GoodIn wsX4_workOutJoined wsX4_joinNodes := goodIn_r _ [14, 15, 16, 17, 18, 2, 19, 20, 21, 7, 22, 9, 23, 24, 25, 13, 26, 27, 28, 29, 30, 31, 32, 33, 34, 35, 36, 37, 38, 39, 40, 41, 42, 43, 44, 45, 46, 47, 48, 11, 12, 57, 58, 59] (by decide +kernel) (by decide +kernel)
set_option maxRecDepth 20000 in
theorem gX4_workOutJoined_X4_joinNodes : GoodIn wsX4_workOutJoined (va_wsS RX4 266 yX4_joinNodes wsX4_joinNodes) := goodIn_app (goodIn_of _ (by decide +kernel)) ggX4_workOutJoined_X4_joinNodes
theorem dX4_workOutJoined_0 : decode cX4_workOutJoined 0 = .ok (.aload_n 0, 1) := by decide +kernel
theorem dX4_workOutJoined_1 : decode cX4_workOutJoined 1 = .ok (.getfield 34, 3) := by decide +kernel
theorem dX4_workOutJoined_4 : decode cX4_workOutJoined 4 = .ok (.invokevirtual 101, 3) := by decide +kernel
theorem dX4_workOutJoined_7 : decode cX4_workOutJoined 7 = .ok (.aload_n 0, 1) := by decide +kernel
theorem dX4_workOutJoined_8 : decode cX4_workOutJoined 8 = .ok (.getfield 34, 3) := by decide +kernel
theorem dX4_workOutJoined_11 : decode cX4_workOutJoined 11 = .ok (.aload_n 1, 1) := by decide +kernel
theorem dX4_workOutJoined_12 : decode cX4_workOutJoined 12 = .ok (.getfield 226, 3) := by decide +kernel
theorem dX4_workOutJoined_15 : decode cX4_workOutJoined 15 = .ok (.aload_n 2, 1) := by decide +kernel
theorem dX4_workOutJoined_16 : decode cX4_workOutJoined 16 = .ok (.getfield 226, 3) := by decide +kernel
theorem dX4_workOutJoined_19 : decode cX4_workOutJoined 19 = .ok (.iadd, 1) := by decide +kernel
theorem dX4_workOutJoined_20 : decode cX4_workOutJoined 20 = .ok (.putfield 226, 3) := by decide +kernel
theorem dX4_workOutJoined_23 : decode cX4_workOutJoined 23 = .ok (.aload_n 1, 1) := by decide +kernel
theorem dX4_workOutJoined_24 : decode cX4_workOutJoined 24 = .ok (.getfield 92, 3) := by decide +kernel
theorem dX4_workOutJoined_27 : decode cX4_workOutJoined 27 = .ok (.ifCond .gt 10, 3) := by decide +kernel
theorem dX4_workOutJoined_30 : decode cX4_workOutJoined 30 = .ok (.aload_n 2, 1) := by decide +kernel
theorem dX4_workOutJoined_31 : decode cX4_workOutJoined 31 = .ok (.getfield 92, 3) := by decide +kernel
theorem dX4_workOutJoined_34 : decode cX4_workOutJoined 34 = .ok (.ifCond .le 37, 3) := by decide +kernel
theorem dX4_workOutJoined_37 : decode cX4_workOutJoined 37 = .ok (.aload_n 0, 1) := by decide +kernel
theorem dX4_workOutJoined_38 : decode cX4_workOutJoined 38 = .ok (.getfield 34, 3) := by decide +kernel
theorem dX4_workOutJoined_41 : decode cX4_workOutJoined 41 = .ok (.aload_n 1, 1) := by decide +kernel
theorem dX4_workOutJoined_42 : decode cX4_workOutJoined 42 = .ok (.aload_n 1, 1) := by decide +kernel
theorem dX4_workOutJoined_43 : decode cX4_workOutJoined 43 = .ok (.getfield 92, 3) := by decide +kernel
theorem dX4_workOutJoined_46 : decode cX4_workOutJoined 46 = .ok (.ifCond .le 7, 3) := by decide +kernel
theorem dX4_workOutJoined_49 : decode cX4_workOutJoined 49 = .ok (.iconst 0, 1) := by decide +kernel
theorem dX4_workOutJoined_50 : decode cX4_workOutJoined 50 = .ok (.goto 4, 3) := by decide +kernel
theorem dX4_workOutJoined_53 : decode cX4_workOutJoined 53 = .ok (.iconst (-1), 1) := by decide +kernel
theorem dX4_workOutJoined_54 : decode cX4_workOutJoined 54 = .ok (.aload_n 2, 1) := by decide +kernel
theorem dX4_workOutJoined_55 : decode cX4_workOutJoined 55 = .ok (.aload_n 2, 1) := by decide +kernel
theorem dX4_workOutJoined_56 : decode cX4_workOutJoined 56 = .ok (.getfield 92, 3) := by decide +kernel
theorem dX4_workOutJoined_59 : decode cX4_workOutJoined 59 = .ok (.ifCond .le 7, 3) := by decide +kernel
theorem dX4_workOutJoined_62 : decode cX4_workOutJoined 62 = .ok (.iconst 0, 1) := by decide +kernel
theorem dX4_workOutJoined_63 : decode cX4_workOutJoined 63 = .ok (.goto 4, 3) := by decide +kernel
theorem dX4_workOutJoined_66 : decode cX4_workOutJoined 66 = .ok (.iconst (-1), 1) := by decide +kernel
theorem dX4_workOutJoined_67 : decode cX4_workOutJoined 67 = .ok (.iconst 0, 1) := by decide +kernel
theorem dX4_workOutJoined_68 : decode cX4_workOutJoined 68 = .ok (.invokestatic 266, 3) := by decide +kernel
theorem dX4_workOutJoined_71 : decode cX4_workOutJoined 71 = .ok (.return_, 1) := by decide +kernel
set_option maxRecDepth 20000 in
theorem ggX4_joinNodes_X3_get : GoodIn wsX4_joinNodes wsX3_get := goodIn_r _ [10, 11, 12, 41, 42, 43] (by decide +kernel) (by decide +kernel)
set_option maxRecDepth 20000 in
theorem gX4_joinNodes_X3_get : GoodIn wsX4_joinNodes (wsV RX4 217 RX3 yX3_get wsX3_get) := goodIn_app (goodIn_of _ (by decide +kernel)) ggX4_joinNodes_X3_get
set_option maxRecDepth 20000 in
theorem ggX4_joinNodes_X4_joinKinds : GoodIn wsX4_joinNodes wsX4_joinKinds := goodIn_r _ [16] (by decide +kernel) (by decide +kernel)
set_option maxRecDepth 20000 in
theorem gX4_joinNodes_X4_joinKinds : GoodIn wsX4_joinNodes (va_wsS RX4 256 yX4_joinKinds wsX4_joinKinds) := goodIn_app (goodIn_of _ (by decide +kernel)) ggX4_joinNodes_X4_joinKinds
set_option maxRecDepth 20000 in
theorem ggX4_joinNodes_X3_addRow : GoodIn wsX4_joinNodes wsX3_addRow := goodIn_r _ [20, 11, 21, 22, 23, 9, 24, 25, 26, 27, 28, 12, 41, 42, 43] (by decide +kernel) (by decide +kernel)
set_option maxRecDepth 20000 in
theorem gX4_joinNodes_X3_addRow : GoodIn wsX4_joinNodes (wsV RX4 270 RX3 yX3_addRow wsX3_addRow) := goodIn_app (goodIn_of _ (by decide +kernel)) ggX4_joinNodes_X3_addRow
set_option maxRecDepth 20000 in
theorem ggX4_joinNodes_X3_put : GoodIn wsX4_joinNodes wsX3_put := goodIn_r _ [28, 11, 12, 41, 42, 43] (by decide +kernel) (by decide +kernel)
set_option maxRecDepth 20000 in
theorem gX4_joinNodes_X3_put : GoodIn wsX4_joinNodes (wsV RX4 245 RX3 yX3_put wsX3_put) := goodIn_app (goodIn_of _ (by decide +kernel)) ggX4_joinNodes_X3_put
set_option maxRecDepth 20000 in
theorem ggX4_joinNodes_X3_findBelow : GoodIn wsX4_joinNodes wsX3_findBelow := goodIn_r _ [33, 11, 34, 35, 36, 9, 37, 38, 7, 8, 10, 12, 41, 42, 43] (by decide +kernel) (by decide +kernel)
set_option maxRecDepth 20000 in
theorem gX4_joinNodes_X3_findBelow : GoodIn wsX4_joinNodes (wsV RX4 150 RX3 yX3_findBelow wsX3_findBelow) := goodIn_app (goodIn_of _ (by decide +kernel)) ggX4_joinNodes_X3_findBelow
set_option maxRecDepth 20000 in
theorem ggX4_joinNodes_X4_joinNodes : GoodIn wsX4_joinNodes wsX4_joinNodes := goodIn_r _ [0, 1, 2, 3, 4, 5, 6, 7, 8, 9, 10, 11, 12, 13, 14, 15, 16, 17, 18, 19, 20, 21, 22, 23, 24, 25, 26, 27, 28, 29, 30, 31, 32, 33, 34, 35, 36, 37, 38, 39, 40, 41, 42, 43] (by decide +kernel) (by decide +kernel)
set_option maxRecDepth 20000 in
theorem gX4_joinNodes_X4_joinNodes : GoodIn wsX4_joinNodes (va_wsS RX4 266 yX4_joinNodes wsX4_joinNodes) := goodIn_app (goodIn_of _ (by decide +kernel)) ggX4_joinNodes_X4_joinNodes
theorem dX4_joinNodes_0 : decode cX4_joinNodes 0 = .ok (.iload 5, 2) := by decide +kernel
theorem dX4_joinNodes_2 : decode cX4_joinNodes 2 = .ok (.iconst 4, 1) := by decide +kernel
theorem dX4_joinNodes_3 : decode cX4_joinNodes 3 = .ok (.if_icmp .le 4, 3) := by decide +kernel
theorem dX4_joinNodes_6 : decode cX4_joinNodes 6 = .ok (.return_, 1) := by decide +kernel
theorem dX4_joinNodes_7 : decode cX4_joinNodes 7 = .ok (.iload_n 2, 1) := by decide +kernel
theorem dX4_joinNodes_8 : decode cX4_joinNodes 8 = .ok (.iconst (-1), 1) := by decide +kernel
theorem dX4_joinNodes_9 : decode cX4_joinNodes 9 = .ok (.if_icmp .eq 7, 3) := by decide +kernel
theorem dX4_joinNodes_12 : decode cX4_joinNodes 12 = .ok (.iconst 1, 1) := by decide +kernel
theorem dX4_joinNodes_13 : decode cX4_joinNodes 13 = .ok (.goto 4, 3) := by decide +kernel
theorem dX4_joinNodes_16 : decode cX4_joinNodes 16 = .ok (.iconst 0, 1) := by decide +kernel
theorem dX4_joinNodes_17 : decode cX4_joinNodes 17 = .ok (.istore 6, 2) := by decide +kernel
theorem dX4_joinNodes_19 : decode cX4_joinNodes 19 = .ok (.aload_n 1, 1) := by decide +kernel
theorem dX4_joinNodes_20 : decode cX4_joinNodes 20 = .ok (.iload_n 2, 1) := by decide +kernel
theorem dX4_joinNodes_21 : decode cX4_joinNodes 21 = .ok (.iconst 0, 1) := by decide +kernel
theorem dX4_joinNodes_22 : decode cX4_joinNodes 22 = .ok (.invokevirtual 217, 3) := by decide +kernel
theorem dX4_joinNodes_25 : decode cX4_joinNodes 25 = .ok (.istore 7, 2) := by decide +kernel
theorem dX4_joinNodes_27 : decode cX4_joinNodes 27 = .ok (.iload 7, 2) := by decide +kernel
theorem dX4_joinNodes_29 : decode cX4_joinNodes 29 = .ok (.aload_n 3, 1) := by decide +kernel
theorem dX4_joinNodes_30 : decode cX4_joinNodes 30 = .ok (.iload 4, 2) := by decide +kernel
theorem dX4_joinNodes_32 : decode cX4_joinNodes 32 = .ok (.iconst 0, 1) := by decide +kernel
theorem dX4_joinNodes_33 : decode cX4_joinNodes 33 = .ok (.invokevirtual 217, 3) := by decide +kernel
theorem dX4_joinNodes_36 : decode cX4_joinNodes 36 = .ok (.invokestatic 256, 3) := by decide +kernel
theorem dX4_joinNodes_39 : decode cX4_joinNodes 39 = .ok (.istore 8, 2) := by decide +kernel
theorem dX4_joinNodes_41 : decode cX4_joinNodes 41 = .ok (.iload 6, 2) := by decide +kernel
theorem dX4_joinNodes_43 : decode cX4_joinNodes 43 = .ok (.ifCond .eq 14, 3) := by decide +kernel
theorem dX4_joinNodes_46 : decode cX4_joinNodes 46 = .ok (.iload 8, 2) := by decide +kernel
theorem dX4_joinNodes_48 : decode cX4_joinNodes 48 = .ok (.iload 7, 2) := by decide +kernel
theorem dX4_joinNodes_50 : decode cX4_joinNodes 50 = .ok (.if_icmp .ne 7, 3) := by decide +kernel
theorem dX4_joinNodes_53 : decode cX4_joinNodes 53 = .ok (.iconst 1, 1) := by decide +kernel
theorem dX4_joinNodes_54 : decode cX4_joinNodes 54 = .ok (.goto 4, 3) := by decide +kernel
theorem dX4_joinNodes_57 : decode cX4_joinNodes 57 = .ok (.iconst 0, 1) := by decide +kernel
theorem dX4_joinNodes_58 : decode cX4_joinNodes 58 = .ok (.istore 9, 2) := by decide +kernel
theorem dX4_joinNodes_60 : decode cX4_joinNodes 60 = .ok (.iload 6, 2) := by decide +kernel
theorem dX4_joinNodes_62 : decode cX4_joinNodes 62 = .ok (.ifCond .eq 12, 3) := by decide +kernel
theorem dX4_joinNodes_65 : decode cX4_joinNodes 65 = .ok (.aload_n 1, 1) := by decide +kernel
theorem dX4_joinNodes_66 : decode cX4_joinNodes 66 = .ok (.iload_n 2, 1) := by decide +kernel
theorem dX4_joinNodes_67 : decode cX4_joinNodes 67 = .ok (.iconst 1, 1) := by decide +kernel
theorem dX4_joinNodes_68 : decode cX4_joinNodes 68 = .ok (.invokevirtual 217, 3) := by decide +kernel
theorem dX4_joinNodes_71 : decode cX4_joinNodes 71 = .ok (.goto 10, 3) := by decide +kernel
theorem dX4_joinNodes_74 : decode cX4_joinNodes 74 = .ok (.aload_n 3, 1) := by decide +kernel
theorem dX4_joinNodes_75 : decode cX4_joinNodes 75 = .ok (.iload 4, 2) := by decide +kernel
theorem dX4_joinNodes_77 : decode cX4_joinNodes 77 = .ok (.iconst 1, 1) := by decide +kernel
theorem dX4_joinNodes_78 : decode cX4_joinNodes 78 = .ok (.invokevirtual 217, 3) := by decide +kernel
theorem dX4_joinNodes_81 : decode cX4_joinNodes 81 = .ok (.istore 10, 2) := by decide +kernel
theorem dX4_joinNodes_83 : decode cX4_joinNodes 83 = .ok (.aload_n 0, 1) := by decide +kernel
theorem dX4_joinNodes_84 : decode cX4_joinNodes 84 = .ok (.iload 10, 2) := by decide +kernel
theorem dX4_joinNodes_86 : decode cX4_joinNodes 86 = .ok (.iload 5, 2) := by decide +kernel
theorem dX4_joinNodes_88 : decode cX4_joinNodes 88 = .ok (.invokevirtual 270, 3) := by decide +kernel
theorem dX4_joinNodes_91 : decode cX4_joinNodes 91 = .ok (.istore 11, 2) := by decide +kernel
theorem dX4_joinNodes_93 : decode cX4_joinNodes 93 = .ok (.aload_n 0, 1) := by decide +kernel
theorem dX4_joinNodes_94 : decode cX4_joinNodes 94 = .ok (.iload 11, 2) := by decide +kernel
theorem dX4_joinNodes_96 : decode cX4_joinNodes 96 = .ok (.iconst 0, 1) := by decide +kernel
theorem dX4_joinNodes_97 : decode cX4_joinNodes 97 = .ok (.iload 8, 2) := by decide +kernel
theorem dX4_joinNodes_99 : decode cX4_joinNodes 99 = .ok (.invokevirtual 245, 3) := by decide +kernel
theorem dX4_joinNodes_102 : decode cX4_joinNodes 102 = .ok (.aload_n 0, 1) := by decide +kernel
theorem dX4_joinNodes_103 : decode cX4_joinNodes 103 = .ok (.iload 11, 2) := by decide +kernel
theorem dX4_joinNodes_105 : decode cX4_joinNodes 105 = .ok (.iconst 3, 1) := by decide +kernel
theorem dX4_joinNodes_106 : decode cX4_joinNodes 106 = .ok (.aload_n 1, 1) := by decide +kernel
theorem dX4_joinNodes_107 : decode cX4_joinNodes 107 = .ok (.iload_n 2, 1) := by decide +kernel
theorem dX4_joinNodes_108 : decode cX4_joinNodes 108 = .ok (.iconst 3, 1) := by decide +kernel
theorem dX4_joinNodes_109 : decode cX4_joinNodes 109 = .ok (.invokevirtual 217, 3) := by decide +kernel
theorem dX4_joinNodes_112 : decode cX4_joinNodes 112 = .ok (.aload_n 3, 1) := by decide +kernel
theorem dX4_joinNodes_113 : decode cX4_joinNodes 113 = .ok (.iload 4, 2) := by decide +kernel
theorem dX4_joinNodes_115 : decode cX4_joinNodes 115 = .ok (.iconst 3, 1) := by decide +kernel
theorem dX4_joinNodes_116 : decode cX4_joinNodes 116 = .ok (.invokevirtual 217, 3) := by decide +kernel
theorem dX4_joinNodes_119 : decode cX4_joinNodes 119 = .ok (.iadd, 1) := by decide +kernel
theorem dX4_joinNodes_120 : decode cX4_joinNodes 120 = .ok (.invokevirtual 245, 3) := by decide +kernel
theorem dX4_joinNodes_123 : decode cX4_joinNodes 123 = .ok (.aload_n 0, 1) := by decide +kernel
theorem dX4_joinNodes_124 : decode cX4_joinNodes 124 = .ok (.iload 11, 2) := by decide +kernel
theorem dX4_joinNodes_126 : decode cX4_joinNodes 126 = .ok (.iconst 4, 1) := by decide +kernel
theorem dX4_joinNodes_127 : decode cX4_joinNodes 127 = .ok (.aload_n 1, 1) := by decide +kernel
theorem dX4_joinNodes_128 : decode cX4_joinNodes 128 = .ok (.iload_n 2, 1) := by decide +kernel
theorem dX4_joinNodes_129 : decode cX4_joinNodes 129 = .ok (.iconst 4, 1) := by decide +kernel
theorem dX4_joinNodes_130 : decode cX4_joinNodes 130 = .ok (.invokevirtual 217, 3) := by decide +kernel
theorem dX4_joinNodes_133 : decode cX4_joinNodes 133 = .ok (.aload_n 3, 1) := by decide +kernel
theorem dX4_joinNodes_134 : decode cX4_joinNodes 134 = .ok (.iload 4, 2) := by decide +kernel
theorem dX4_joinNodes_136 : decode cX4_joinNodes 136 = .ok (.iconst 4, 1) := by decide +kernel
theorem dX4_joinNodes_137 : decode cX4_joinNodes 137 = .ok (.invokevirtual 217, 3) := by decide +kernel
theorem dX4_joinNodes_140 : decode cX4_joinNodes 140 = .ok (.invokestatic 229, 3) := by decide +kernel
theorem dX4_joinNodes_143 : decode cX4_joinNodes 143 = .ok (.invokevirtual 245, 3) := by decide +kernel
theorem dX4_joinNodes_146 : decode cX4_joinNodes 146 = .ok (.aload_n 0, 1) := by decide +kernel
theorem dX4_joinNodes_147 : decode cX4_joinNodes 147 = .ok (.iload 11, 2) := by decide +kernel
theorem dX4_joinNodes_149 : decode cX4_joinNodes 149 = .ok (.iconst 5, 1) := by decide +kernel
theorem dX4_joinNodes_150 : decode cX4_joinNodes 150 = .ok (.aload_n 1, 1) := by decide +kernel
theorem dX4_joinNodes_151 : decode cX4_joinNodes 151 = .ok (.iload_n 2, 1) := by decide +kernel
theorem dX4_joinNodes_152 : decode cX4_joinNodes 152 = .ok (.iconst 5, 1) := by decide +kernel
theorem dX4_joinNodes_153 : decode cX4_joinNodes 153 = .ok (.invokevirtual 217, 3) := by decide +kernel
theorem dX4_joinNodes_156 : decode cX4_joinNodes 156 = .ok (.aload_n 3, 1) := by decide +kernel
theorem dX4_joinNodes_157 : decode cX4_joinNodes 157 = .ok (.iload 4, 2) := by decide +kernel
theorem dX4_joinNodes_159 : decode cX4_joinNodes 159 = .ok (.iconst 5, 1) := by decide +kernel
theorem dX4_joinNodes_160 : decode cX4_joinNodes 160 = .ok (.invokevirtual 217, 3) := by decide +kernel
theorem dX4_joinNodes_163 : decode cX4_joinNodes 163 = .ok (.iadd, 1) := by decide +kernel
theorem dX4_joinNodes_164 : decode cX4_joinNodes 164 = .ok (.invokevirtual 245, 3) := by decide +kernel
theorem dX4_joinNodes_167 : decode cX4_joinNodes 167 = .ok (.aload_n 0, 1) := by decide +kernel
theorem dX4_joinNodes_168 : decode cX4_joinNodes 168 = .ok (.iload 11, 2) := by decide +kernel
theorem dX4_joinNodes_170 : decode cX4_joinNodes 170 = .ok (.bipush 6, 2) := by decide +kernel
theorem dX4_joinNodes_172 : decode cX4_joinNodes 172 = .ok (.iload 9, 2) := by decide +kernel
theorem dX4_joinNodes_174 : decode cX4_joinNodes 174 = .ok (.ifCond .eq 13, 3) := by decide +kernel
theorem dX4_joinNodes_177 : decode cX4_joinNodes 177 = .ok (.aload_n 1, 1) := by decide +kernel
theorem dX4_joinNodes_178 : decode cX4_joinNodes 178 = .ok (.iload_n 2, 1) := by decide +kernel
theorem dX4_joinNodes_179 : decode cX4_joinNodes 179 = .ok (.bipush 6, 2) := by decide +kernel
theorem dX4_joinNodes_181 : decode cX4_joinNodes 181 = .ok (.invokevirtual 217, 3) := by decide +kernel
theorem dX4_joinNodes_184 : decode cX4_joinNodes 184 = .ok (.goto 16, 3) := by decide +kernel
theorem dX4_joinNodes_187 : decode cX4_joinNodes 187 = .ok (.aload_n 1, 1) := by decide +kernel
theorem dX4_joinNodes_188 : decode cX4_joinNodes 188 = .ok (.getfield 226, 3) := by decide +kernel
theorem dX4_joinNodes_191 : decode cX4_joinNodes 191 = .ok (.aload_n 3, 1) := by decide +kernel
theorem dX4_joinNodes_192 : decode cX4_joinNodes 192 = .ok (.iload 4, 2) := by decide +kernel
theorem dX4_joinNodes_194 : decode cX4_joinNodes 194 = .ok (.bipush 6, 2) := by decide +kernel
theorem dX4_joinNodes_196 : decode cX4_joinNodes 196 = .ok (.invokevirtual 217, 3) := by decide +kernel
theorem dX4_joinNodes_199 : decode cX4_joinNodes 199 = .ok (.iadd, 1) := by decide +kernel
theorem dX4_joinNodes_200 : decode cX4_joinNodes 200 = .ok (.invokevirtual 245, 3) := by decide +kernel
theorem dX4_joinNodes_203 : decode cX4_joinNodes 203 = .ok (.iload 8, 2) := by decide +kernel
theorem dX4_joinNodes_205 : decode cX4_joinNodes 205 = .ok (.bipush 7, 2) := by decide +kernel
theorem dX4_joinNodes_207 : decode cX4_joinNodes 207 = .ok (.if_icmp .ne 4, 3) := by decide +kernel
theorem dX4_joinNodes_210 : decode cX4_joinNodes 210 = .ok (.return_, 1) := by decide +kernel
theorem dX4_joinNodes_211 : decode cX4_joinNodes 211 = .ok (.iconst 0, 1) := by decide +kernel
theorem dX4_joinNodes_212 : decode cX4_joinNodes 212 = .ok (.istore 12, 2) := by decide +kernel
theorem dX4_joinNodes_214 : decode cX4_joinNodes 214 = .ok (.iload 12, 2) := by decide +kernel
theorem dX4_joinNodes_216 : decode cX4_joinNodes 216 = .ok (.bipush 8, 2) := by decide +kernel
theorem dX4_joinNodes_218 : decode cX4_joinNodes 218 = .ok (.if_icmp .gt 54, 3) := by decide +kernel
theorem dX4_joinNodes_221 : decode cX4_joinNodes 221 = .ok (.aload_n 1, 1) := by decide +kernel
theorem dX4_joinNodes_222 : decode cX4_joinNodes 222 = .ok (.iload_n 2, 1) := by decide +kernel
theorem dX4_joinNodes_223 : decode cX4_joinNodes 223 = .ok (.iload 12, 2) := by decide +kernel
theorem dX4_joinNodes_225 : decode cX4_joinNodes 225 = .ok (.invokevirtual 150, 3) := by decide +kernel
theorem dX4_joinNodes_228 : decode cX4_joinNodes 228 = .ok (.istore 13, 2) := by decide +kernel
theorem dX4_joinNodes_230 : decode cX4_joinNodes 230 = .ok (.aload_n 3, 1) := by decide +kernel
theorem dX4_joinNodes_231 : decode cX4_joinNodes 231 = .ok (.iload 4, 2) := by decide +kernel
theorem dX4_joinNodes_233 : decode cX4_joinNodes 233 = .ok (.iload 12, 2) := by decide +kernel
theorem dX4_joinNodes_235 : decode cX4_joinNodes 235 = .ok (.invokevirtual 150, 3) := by decide +kernel
theorem dX4_joinNodes_238 : decode cX4_joinNodes 238 = .ok (.istore 14, 2) := by decide +kernel
theorem dX4_joinNodes_240 : decode cX4_joinNodes 240 = .ok (.iload 13, 2) := by decide +kernel
theorem dX4_joinNodes_242 : decode cX4_joinNodes 242 = .ok (.iconst (-1), 1) := by decide +kernel
theorem dX4_joinNodes_243 : decode cX4_joinNodes 243 = .ok (.if_icmp .ne 9, 3) := by decide +kernel
theorem dX4_joinNodes_246 : decode cX4_joinNodes 246 = .ok (.iload 14, 2) := by decide +kernel
theorem dX4_joinNodes_248 : decode cX4_joinNodes 248 = .ok (.iconst (-1), 1) := by decide +kernel
theorem dX4_joinNodes_249 : decode cX4_joinNodes 249 = .ok (.if_icmp .eq 17, 3) := by decide +kernel
theorem dX4_joinNodes_252 : decode cX4_joinNodes 252 = .ok (.aload_n 0, 1) := by decide +kernel
theorem dX4_joinNodes_253 : decode cX4_joinNodes 253 = .ok (.aload_n 1, 1) := by decide +kernel
theorem dX4_joinNodes_254 : decode cX4_joinNodes 254 = .ok (.iload 13, 2) := by decide +kernel
theorem dX4_joinNodes_256 : decode cX4_joinNodes 256 = .ok (.aload_n 3, 1) := by decide +kernel
theorem dX4_joinNodes_257 : decode cX4_joinNodes 257 = .ok (.iload 14, 2) := by decide +kernel
theorem dX4_joinNodes_259 : decode cX4_joinNodes 259 = .ok (.iload 5, 2) := by decide +kernel
theorem dX4_joinNodes_261 : decode cX4_joinNodes 261 = .ok (.iconst 1, 1) := by decide +kernel
theorem dX4_joinNodes_262 : decode cX4_joinNodes 262 = .ok (.iadd, 1) := by decide +kernel
theorem dX4_joinNodes_263 : decode cX4_joinNodes 263 = .ok (.invokestatic 266, 3) := by decide +kernel
theorem dX4_joinNodes_266 : decode cX4_joinNodes 266 = .ok (.iinc 12 1, 3) := by decide +kernel
theorem dX4_joinNodes_269 : decode cX4_joinNodes 269 = .ok (.goto (-55), 3) := by decide +kernel
theorem dX4_joinNodes_272 : decode cX4_joinNodes 272 = .ok (.return_, 1) := by decide +kernel
set_option maxRecDepth 20000 in
theorem ggX4_coversOther_X2_tree : GoodIn wsX4_coversOther wsX2_tree := goodIn_r _ [7, 8, 9, 48, 49, 50] (by decide +kernel) (by decide +kernel)
set_option maxRecDepth 20000 in
theorem gX4_coversOther_X2_tree : GoodIn wsX4_coversOther (wsV RX4 69 RX2 yX2_tree wsX2_tree) := goodIn_app (goodIn_of _ (by decide +kernel)) ggX4_coversOther_X2_tree
set_option maxRecDepth 20000 in
theorem ggX4_coversOther_X4_coversNode : GoodIn wsX4_coversOther wsX4_coversNode := goodIn_r _ [13, 14, 15, 16, 17, 18, 19, 20, 21, 22, 12, 23, 24, 25, 26, 27, 28, 29, 30, 31, 32, 10, 11, 33, 34, 35, 36, 45, 46, 47] (by decide +kernel) (by decide +kernel)
set_option maxRecDepth 20000 in
theorem gX4_coversOther_X4_coversNode : GoodIn wsX4_coversOther (va_wsS RX4 273 yX4_coversNode wsX4_coversNode) := goodIn_app (goodIn_of _ (by decide +kernel)) ggX4_coversOther_X4_coversNode
theorem dX4_coversOther_0 : decode cX4_coversOther 0 = .ok (.aload_n 0, 1) := by decide +kernel
theorem dX4_coversOther_1 : decode cX4_coversOther 1 = .ok (.getfield 23, 3) := by decide +kernel
theorem dX4_coversOther_4 : decode cX4_coversOther 4 = .ok (.iload_n 1, 1) := by decide +kernel
theorem dX4_coversOther_5 : decode cX4_coversOther 5 = .ok (.invokevirtual 69, 3) := by decide +kernel
theorem dX4_coversOther_8 : decode cX4_coversOther 8 = .ok (.astore_n 2, 1) := by decide +kernel
theorem dX4_coversOther_9 : decode cX4_coversOther 9 = .ok (.aload_n 0, 1) := by decide +kernel
theorem dX4_coversOther_10 : decode cX4_coversOther 10 = .ok (.getfield 23, 3) := by decide +kernel
theorem dX4_coversOther_13 : decode cX4_coversOther 13 = .ok (.iconst 1, 1) := by decide +kernel
theorem dX4_coversOther_14 : decode cX4_coversOther 14 = .ok (.iload_n 1, 1) := by decide +kernel
theorem dX4_coversOther_15 : decode cX4_coversOther 15 = .ok (.isub, 1) := by decide +kernel
theorem dX4_coversOther_16 : decode cX4_coversOther 16 = .ok (.invokevirtual 69, 3) := by decide +kernel
theorem dX4_coversOther_19 : decode cX4_coversOther 19 = .ok (.astore_n 3, 1) := by decide +kernel
theorem dX4_coversOther_20 : decode cX4_coversOther 20 = .ok (.aload_n 2, 1) := by decide +kernel
theorem dX4_coversOther_21 : decode cX4_coversOther 21 = .ok (.getfield 92, 3) := by decide +kernel
theorem dX4_coversOther_24 : decode cX4_coversOther 24 = .ok (.ifCond .eq 10, 3) := by decide +kernel
theorem dX4_coversOther_27 : decode cX4_coversOther 27 = .ok (.aload_n 3, 1) := by decide +kernel
theorem dX4_coversOther_28 : decode cX4_coversOther 28 = .ok (.getfield 92, 3) := by decide +kernel
theorem dX4_coversOther_31 : decode cX4_coversOther 31 = .ok (.ifCond .ne 16, 3) := by decide +kernel
theorem dX4_coversOther_34 : decode cX4_coversOther 34 = .ok (.aload_n 3, 1) := by decide +kernel
theorem dX4_coversOther_35 : decode cX4_coversOther 35 = .ok (.getfield 92, 3) := by decide +kernel
theorem dX4_coversOther_38 : decode cX4_coversOther 38 = .ok (.ifCond .ne 7, 3) := by decide +kernel
theorem dX4_coversOther_41 : decode cX4_coversOther 41 = .ok (.iconst 1, 1) := by decide +kernel
theorem dX4_coversOther_42 : decode cX4_coversOther 42 = .ok (.goto 4, 3) := by decide +kernel
theorem dX4_coversOther_45 : decode cX4_coversOther 45 = .ok (.iconst 0, 1) := by decide +kernel
theorem dX4_coversOther_46 : decode cX4_coversOther 46 = .ok (.ireturn, 1) := by decide +kernel
theorem dX4_coversOther_47 : decode cX4_coversOther 47 = .ok (.aload_n 2, 1) := by decide +kernel
theorem dX4_coversOther_48 : decode cX4_coversOther 48 = .ok (.iconst 0, 1) := by decide +kernel
theorem dX4_coversOther_49 : decode cX4_coversOther 49 = .ok (.aload_n 3, 1) := by decide +kernel
theorem dX4_coversOther_50 : decode cX4_coversOther 50 = .ok (.iconst 0, 1) := by decide +kernel
theorem dX4_coversOther_51 : decode cX4_coversOther 51 = .ok (.iconst 0, 1) := by decide +kernel
theorem dX4_coversOther_52 : decode cX4_coversOther 52 = .ok (.invokestatic 273, 3) := by decide +kernel
theorem dX4_coversOther_55 : decode cX4_coversOther 55 = .ok (.ireturn, 1) := by decide +kernel
set_option maxRecDepth 20000 in
theorem ggX4_coversNode_X3_get : GoodIn wsX4_coversNode wsX3_get := goodIn_r _ [5, 6, 7, 27, 28, 29] (by decide +kernel) (by decide +kernel)
set_option maxRecDepth 20000 in
theorem gX4_coversNode_X3_get : GoodIn wsX4_coversNode (wsV RX4 217 RX3 yX3_get wsX3_get) := goodIn_app (goodIn_of _ (by decide +kernel)) ggX4_coversNode_X3_get
set_option maxRecDepth 20000 in
theorem ggX4_coversNode_X4_joinKinds : GoodIn wsX4_coversNode wsX4_joinKinds := goodIn_r _ [11] (by decide +kernel) (by decide +kernel)
set_option maxRecDepth 20000 in
theorem gX4_coversNode_X4_joinKinds : GoodIn wsX4_coversNode (va_wsS RX4 256 yX4_joinKinds wsX4_joinKinds) := goodIn_app (goodIn_of _ (by decide +kernel)) ggX4_coversNode_X4_joinKinds
set_option maxRecDepth 20000 in
theorem ggX4_coversNode_X3_findBelow : GoodIn wsX4_coversNode wsX3_findBelow := goodIn_r _ [15, 6, 16, 17, 18, 4, 19, 20, 2, 3, 5, 7, 27, 28, 29] (by decide +kernel) (by decide +kernel)
set_option maxRecDepth 20000 in
theorem gX4_coversNode_X3_findBelow : GoodIn wsX4_coversNode (wsV RX4 150 RX3 yX3_findBelow wsX3_findBelow) := goodIn_app (goodIn_of _ (by decide +kernel)) ggX4_coversNode_X3_findBelow
set_option maxRecDepth 20000 in
theorem ggX4_coversNode_X4_coversNode : GoodIn wsX4_coversNode wsX4_coversNode := goodIn_r _ [0, 1, 2, 3, 4, 5, 6, 7, 8, 9, 10, 11, 12, 13, 14, 15, 16, 17, 18, 19, 20, 21, 22, 23, 24, 25, 26, 27, 28, 29] (by decide +kernel) (by decide +kernel)
set_option maxRecDepth 20000 in
theorem gX4_coversNode_X4_coversNode : GoodIn wsX4_coversNode (va_wsS RX4 273 yX4_coversNode wsX4_coversNode) := goodIn_app (goodIn_of _ (by decide +kernel)) ggX4_coversNode_X4_coversNode
set_option maxRecDepth 20000 in
theorem ggX4_coversNode_X4_mustBeThere : GoodIn wsX4_coversNode wsX4_mustBeThere := goodIn_r _ [25, 26, 17, 18, 4, 19, 6, 1, 2, 3, 5, 7, 27, 28, 29] (by decide +kernel) (by decide +kernel)
set_option maxRecDepth 20000 in
theorem gX4_coversNode_X4_mustBeThere : GoodIn wsX4_coversNode (va_wsS RX4 277 yX4_mustBeThere wsX4_mustBeThere) := goodIn_app (goodIn_of _ (by decide +kernel)) ggX4_coversNode_X4_mustBeThere
theorem dX4_coversNode_0 : decode cX4_coversNode 0 = .ok (.iload 4, 2) := by decide +kernel
theorem dX4_coversNode_2 : decode cX4_coversNode 2 = .ok (.iconst 4, 1) := by decide +kernel
theorem dX4_coversNode_3 : decode cX4_coversNode 3 = .ok (.if_icmp .le 5, 3) := by decide +kernel
theorem dX4_coversNode_6 : decode cX4_coversNode 6 = .ok (.iconst 0, 1) := by decide +kernel
theorem dX4_coversNode_7 : decode cX4_coversNode 7 = .ok (.ireturn, 1) := by decide +kernel
theorem dX4_coversNode_8 : decode cX4_coversNode 8 = .ok (.aload_n 0, 1) := by decide +kernel
theorem dX4_coversNode_9 : decode cX4_coversNode 9 = .ok (.iload_n 1, 1) := by decide +kernel
theorem dX4_coversNode_10 : decode cX4_coversNode 10 = .ok (.iconst 0, 1) := by decide +kernel
theorem dX4_coversNode_11 : decode cX4_coversNode 11 = .ok (.invokevirtual 217, 3) := by decide +kernel
theorem dX4_coversNode_14 : decode cX4_coversNode 14 = .ok (.istore 5, 2) := by decide +kernel
theorem dX4_coversNode_16 : decode cX4_coversNode 16 = .ok (.aload_n 2, 1) := by decide +kernel
theorem dX4_coversNode_17 : decode cX4_coversNode 17 = .ok (.iload_n 3, 1) := by decide +kernel
theorem dX4_coversNode_18 : decode cX4_coversNode 18 = .ok (.iconst 0, 1) := by decide +kernel
theorem dX4_coversNode_19 : decode cX4_coversNode 19 = .ok (.invokevirtual 217, 3) := by decide +kernel
theorem dX4_coversNode_22 : decode cX4_coversNode 22 = .ok (.istore 6, 2) := by decide +kernel
theorem dX4_coversNode_24 : decode cX4_coversNode 24 = .ok (.iload 5, 2) := by decide +kernel
theorem dX4_coversNode_26 : decode cX4_coversNode 26 = .ok (.iload 6, 2) := by decide +kernel
theorem dX4_coversNode_28 : decode cX4_coversNode 28 = .ok (.invokestatic 256, 3) := by decide +kernel
theorem dX4_coversNode_31 : decode cX4_coversNode 31 = .ok (.iload 5, 2) := by decide +kernel
theorem dX4_coversNode_33 : decode cX4_coversNode 33 = .ok (.if_icmp .ne 18, 3) := by decide +kernel
theorem dX4_coversNode_36 : decode cX4_coversNode 36 = .ok (.aload_n 2, 1) := by decide +kernel
theorem dX4_coversNode_37 : decode cX4_coversNode 37 = .ok (.iload_n 3, 1) := by decide +kernel
theorem dX4_coversNode_38 : decode cX4_coversNode 38 = .ok (.iconst 4, 1) := by decide +kernel
theorem dX4_coversNode_39 : decode cX4_coversNode 39 = .ok (.invokevirtual 217, 3) := by decide +kernel
theorem dX4_coversNode_42 : decode cX4_coversNode 42 = .ok (.aload_n 0, 1) := by decide +kernel
theorem dX4_coversNode_43 : decode cX4_coversNode 43 = .ok (.iload_n 1, 1) := by decide +kernel
theorem dX4_coversNode_44 : decode cX4_coversNode 44 = .ok (.iconst 4, 1) := by decide +kernel
theorem dX4_coversNode_45 : decode cX4_coversNode 45 = .ok (.invokevirtual 217, 3) := by decide +kernel
theorem dX4_coversNode_48 : decode cX4_coversNode 48 = .ok (.if_icmp .le 5, 3) := by decide +kernel
theorem dX4_coversNode_51 : decode cX4_coversNode 51 = .ok (.iconst 0, 1) := by decide +kernel
theorem dX4_coversNode_52 : decode cX4_coversNode 52 = .ok (.ireturn, 1) := by decide +kernel
theorem dX4_coversNode_53 : decode cX4_coversNode 53 = .ok (.iload 5, 2) := by decide +kernel
theorem dX4_coversNode_55 : decode cX4_coversNode 55 = .ok (.bipush 7, 2) := by decide +kernel
theorem dX4_coversNode_57 : decode cX4_coversNode 57 = .ok (.if_icmp .ne 5, 3) := by decide +kernel
theorem dX4_coversNode_60 : decode cX4_coversNode 60 = .ok (.iconst 1, 1) := by decide +kernel
theorem dX4_coversNode_61 : decode cX4_coversNode 61 = .ok (.ireturn, 1) := by decide +kernel
theorem dX4_coversNode_62 : decode cX4_coversNode 62 = .ok (.iconst 0, 1) := by decide +kernel
theorem dX4_coversNode_63 : decode cX4_coversNode 63 = .ok (.istore 7, 2) := by decide +kernel
theorem dX4_coversNode_65 : decode cX4_coversNode 65 = .ok (.iload 7, 2) := by decide +kernel
theorem dX4_coversNode_67 : decode cX4_coversNode 67 = .ok (.bipush 8, 2) := by decide +kernel
theorem dX4_coversNode_69 : decode cX4_coversNode 69 = .ok (.if_icmp .gt 84, 3) := by decide +kernel
theorem dX4_coversNode_72 : decode cX4_coversNode 72 = .ok (.aload_n 0, 1) := by decide +kernel
theorem dX4_coversNode_73 : decode cX4_coversNode 73 = .ok (.iload_n 1, 1) := by decide +kernel
theorem dX4_coversNode_74 : decode cX4_coversNode 74 = .ok (.iload 7, 2) := by decide +kernel
theorem dX4_coversNode_76 : decode cX4_coversNode 76 = .ok (.invokevirtual 150, 3) := by decide +kernel
theorem dX4_coversNode_79 : decode cX4_coversNode 79 = .ok (.istore 8, 2) := by decide +kernel
theorem dX4_coversNode_81 : decode cX4_coversNode 81 = .ok (.aload_n 2, 1) := by decide +kernel
theorem dX4_coversNode_82 : decode cX4_coversNode 82 = .ok (.iload_n 3, 1) := by decide +kernel
theorem dX4_coversNode_83 : decode cX4_coversNode 83 = .ok (.iload 7, 2) := by decide +kernel
theorem dX4_coversNode_85 : decode cX4_coversNode 85 = .ok (.invokevirtual 150, 3) := by decide +kernel
theorem dX4_coversNode_88 : decode cX4_coversNode 88 = .ok (.istore 9, 2) := by decide +kernel
theorem dX4_coversNode_90 : decode cX4_coversNode 90 = .ok (.iload 9, 2) := by decide +kernel
theorem dX4_coversNode_92 : decode cX4_coversNode 92 = .ok (.iconst (-1), 1) := by decide +kernel
theorem dX4_coversNode_93 : decode cX4_coversNode 93 = .ok (.if_icmp .eq 27, 3) := by decide +kernel
theorem dX4_coversNode_96 : decode cX4_coversNode 96 = .ok (.iload 8, 2) := by decide +kernel
theorem dX4_coversNode_98 : decode cX4_coversNode 98 = .ok (.iconst (-1), 1) := by decide +kernel
theorem dX4_coversNode_99 : decode cX4_coversNode 99 = .ok (.if_icmp .eq 19, 3) := by decide +kernel
theorem dX4_coversNode_102 : decode cX4_coversNode 102 = .ok (.aload_n 0, 1) := by decide +kernel
theorem dX4_coversNode_103 : decode cX4_coversNode 103 = .ok (.iload 8, 2) := by decide +kernel
theorem dX4_coversNode_105 : decode cX4_coversNode 105 = .ok (.aload_n 2, 1) := by decide +kernel
theorem dX4_coversNode_106 : decode cX4_coversNode 106 = .ok (.iload 9, 2) := by decide +kernel
theorem dX4_coversNode_108 : decode cX4_coversNode 108 = .ok (.iload 4, 2) := by decide +kernel
theorem dX4_coversNode_110 : decode cX4_coversNode 110 = .ok (.iconst 1, 1) := by decide +kernel
theorem dX4_coversNode_111 : decode cX4_coversNode 111 = .ok (.iadd, 1) := by decide +kernel
theorem dX4_coversNode_112 : decode cX4_coversNode 112 = .ok (.invokestatic 273, 3) := by decide +kernel
theorem dX4_coversNode_115 : decode cX4_coversNode 115 = .ok (.ifCond .ne 5, 3) := by decide +kernel
theorem dX4_coversNode_118 : decode cX4_coversNode 118 = .ok (.iconst 0, 1) := by decide +kernel
theorem dX4_coversNode_119 : decode cX4_coversNode 119 = .ok (.ireturn, 1) := by decide +kernel
theorem dX4_coversNode_120 : decode cX4_coversNode 120 = .ok (.iload 6, 2) := by decide +kernel
theorem dX4_coversNode_122 : decode cX4_coversNode 122 = .ok (.bipush 6, 2) := by decide +kernel
theorem dX4_coversNode_124 : decode cX4_coversNode 124 = .ok (.if_icmp .ne 23, 3) := by decide +kernel
theorem dX4_coversNode_127 : decode cX4_coversNode 127 = .ok (.aload_n 0, 1) := by decide +kernel
theorem dX4_coversNode_128 : decode cX4_coversNode 128 = .ok (.iload 8, 2) := by decide +kernel
theorem dX4_coversNode_130 : decode cX4_coversNode 130 = .ok (.invokestatic 277, 3) := by decide +kernel
theorem dX4_coversNode_133 : decode cX4_coversNode 133 = .ok (.ifCond .eq 14, 3) := by decide +kernel
theorem dX4_coversNode_136 : decode cX4_coversNode 136 = .ok (.aload_n 2, 1) := by decide +kernel
theorem dX4_coversNode_137 : decode cX4_coversNode 137 = .ok (.iload 9, 2) := by decide +kernel
theorem dX4_coversNode_139 : decode cX4_coversNode 139 = .ok (.invokestatic 277, 3) := by decide +kernel
theorem dX4_coversNode_142 : decode cX4_coversNode 142 = .ok (.ifCond .ne 5, 3) := by decide +kernel
theorem dX4_coversNode_145 : decode cX4_coversNode 145 = .ok (.iconst 0, 1) := by decide +kernel
theorem dX4_coversNode_146 : decode cX4_coversNode 146 = .ok (.ireturn, 1) := by decide +kernel
theorem dX4_coversNode_147 : decode cX4_coversNode 147 = .ok (.iinc 7 1, 3) := by decide +kernel
theorem dX4_coversNode_150 : decode cX4_coversNode 150 = .ok (.goto (-85), 3) := by decide +kernel
theorem dX4_coversNode_153 : decode cX4_coversNode 153 = .ok (.iconst 1, 1) := by decide +kernel
theorem dX4_coversNode_154 : decode cX4_coversNode 154 = .ok (.ireturn, 1) := by decide +kernel
set_option maxRecDepth 20000 in
theorem ggX4_mustBeThere_X3_has : GoodIn wsX4_mustBeThere wsX3_has := goodIn_r _ [5, 6, 12, 13, 14] (by decide +kernel) (by decide +kernel)
set_option maxRecDepth 20000 in
theorem gX4_mustBeThere_X3_has : GoodIn wsX4_mustBeThere (wsV RX4 137 RX3 yX3_has wsX3_has) := goodIn_app (goodIn_of _ (by decide +kernel)) ggX4_mustBeThere_X3_has
set_option maxRecDepth 20000 in
theorem ggX4_mustBeThere_X3_get : GoodIn wsX4_mustBeThere wsX3_get := goodIn_r _ [10, 6, 11, 12, 13, 14] (by decide +kernel) (by decide +kernel)
set_option maxRecDepth 20000 in
theorem gX4_mustBeThere_X3_get : GoodIn wsX4_mustBeThere (wsV RX4 217 RX3 yX3_get wsX3_get) := goodIn_app (goodIn_of _ (by decide +kernel)) ggX4_mustBeThere_X3_get
theorem dX4_mustBeThere_0 : decode cX4_mustBeThere 0 = .ok (.aload_n 0, 1) := by decide +kernel
theorem dX4_mustBeThere_1 : decode cX4_mustBeThere 1 = .ok (.iload_n 1, 1) := by decide +kernel
theorem dX4_mustBeThere_2 : decode cX4_mustBeThere 2 = .ok (.invokevirtual 137, 3) := by decide +kernel
theorem dX4_mustBeThere_5 : decode cX4_mustBeThere 5 = .ok (.ifCond .eq 28, 3) := by decide +kernel
theorem dX4_mustBeThere_8 : decode cX4_mustBeThere 8 = .ok (.aload_n 0, 1) := by decide +kernel
theorem dX4_mustBeThere_9 : decode cX4_mustBeThere 9 = .ok (.iload_n 1, 1) := by decide +kernel
theorem dX4_mustBeThere_10 : decode cX4_mustBeThere 10 = .ok (.iconst 1, 1) := by decide +kernel
theorem dX4_mustBeThere_11 : decode cX4_mustBeThere 11 = .ok (.invokevirtual 217, 3) := by decide +kernel
theorem dX4_mustBeThere_14 : decode cX4_mustBeThere 14 = .ok (.bipush 8, 2) := by decide +kernel
theorem dX4_mustBeThere_16 : decode cX4_mustBeThere 16 = .ok (.if_icmp .ge 17, 3) := by decide +kernel
theorem dX4_mustBeThere_19 : decode cX4_mustBeThere 19 = .ok (.aload_n 0, 1) := by decide +kernel
theorem dX4_mustBeThere_20 : decode cX4_mustBeThere 20 = .ok (.iload_n 1, 1) := by decide +kernel
theorem dX4_mustBeThere_21 : decode cX4_mustBeThere 21 = .ok (.bipush 8, 2) := by decide +kernel
theorem dX4_mustBeThere_23 : decode cX4_mustBeThere 23 = .ok (.invokevirtual 217, 3) := by decide +kernel
theorem dX4_mustBeThere_26 : decode cX4_mustBeThere 26 = .ok (.ifCond .ne 7, 3) := by decide +kernel
theorem dX4_mustBeThere_29 : decode cX4_mustBeThere 29 = .ok (.iconst 1, 1) := by decide +kernel
theorem dX4_mustBeThere_30 : decode cX4_mustBeThere 30 = .ok (.goto 4, 3) := by decide +kernel
theorem dX4_mustBeThere_33 : decode cX4_mustBeThere 33 = .ok (.iconst 0, 1) := by decide +kernel
theorem dX4_mustBeThere_34 : decode cX4_mustBeThere 34 = .ok (.ireturn, 1) := by decide +kernel
set_option maxRecDepth 20000 in
theorem ggX4_seekMisfit_X0_tell : GoodIn wsX4_seekMisfit wsX0_tell := goodIn_r _ [8, 9, 10, 11, 64, 65, 66] (by decide +kernel) (by decide +kernel)
set_option maxRecDepth 20000 in
theorem gX4_seekMisfit_X0_tell : GoodIn wsX4_seekMisfit (wsV RX4 281 RX0 yX0_tell wsX0_tell) := goodIn_app (goodIn_of _ (by decide +kernel)) ggX4_seekMisfit_X0_tell
set_option maxRecDepth 20000 in
theorem ggX4_seekMisfit_X4_fitsNode : GoodIn wsX4_seekMisfit wsX4_fitsNode := goodIn_r _ [15, 16, 17, 18, 19, 20, 21, 22, 23, 24, 14, 25, 4, 5, 6, 7, 8, 9, 10, 11, 26, 27, 28, 29, 30, 31, 32, 33, 34, 35, 36, 37, 38, 12, 13, 39, 40, 41, 42, 43, 44, 45, 54, 55, 56, 64, 65, 66] (by decide +kernel) (by decide +kernel)
set_option maxRecDepth 20000 in
theorem gX4_seekMisfit_X4_fitsNode : GoodIn wsX4_seekMisfit (va_wsS RX4 285 yX4_fitsNode wsX4_fitsNode) := goodIn_app (goodIn_of _ (by decide +kernel)) ggX4_seekMisfit_X4_fitsNode
theorem dX4_seekMisfit_0 : decode cX4_seekMisfit 0 = .ok (.aload_n 0, 1) := by decide +kernel
theorem dX4_seekMisfit_1 : decode cX4_seekMisfit 1 = .ok (.getfield 41, 3) := by decide +kernel
theorem dX4_seekMisfit_4 : decode cX4_seekMisfit 4 = .ok (.iconst 0, 1) := by decide +kernel
theorem dX4_seekMisfit_5 : decode cX4_seekMisfit 5 = .ok (.iconst (-1), 1) := by decide +kernel
theorem dX4_seekMisfit_6 : decode cX4_seekMisfit 6 = .ok (.iconst (-1), 1) := by decide +kernel
theorem dX4_seekMisfit_7 : decode cX4_seekMisfit 7 = .ok (.invokevirtual 281, 3) := by decide +kernel
theorem dX4_seekMisfit_10 : decode cX4_seekMisfit 10 = .ok (.pop, 1) := by decide +kernel
theorem dX4_seekMisfit_11 : decode cX4_seekMisfit 11 = .ok (.aload_n 1, 1) := by decide +kernel
theorem dX4_seekMisfit_12 : decode cX4_seekMisfit 12 = .ok (.getfield 92, 3) := by decide +kernel
theorem dX4_seekMisfit_15 : decode cX4_seekMisfit 15 = .ok (.ifCond .ne 17, 3) := by decide +kernel
theorem dX4_seekMisfit_18 : decode cX4_seekMisfit 18 = .ok (.aload_n 0, 1) := by decide +kernel
theorem dX4_seekMisfit_19 : decode cX4_seekMisfit 19 = .ok (.getfield 41, 3) := by decide +kernel
theorem dX4_seekMisfit_22 : decode cX4_seekMisfit 22 = .ok (.iconst 1, 1) := by decide +kernel
theorem dX4_seekMisfit_23 : decode cX4_seekMisfit 23 = .ok (.iconst 0, 1) := by decide +kernel
theorem dX4_seekMisfit_24 : decode cX4_seekMisfit 24 = .ok (.iconst (-1), 1) := by decide +kernel
theorem dX4_seekMisfit_25 : decode cX4_seekMisfit 25 = .ok (.invokevirtual 281, 3) := by decide +kernel
theorem dX4_seekMisfit_28 : decode cX4_seekMisfit 28 = .ok (.pop, 1) := by decide +kernel
theorem dX4_seekMisfit_29 : decode cX4_seekMisfit 29 = .ok (.goto 22, 3) := by decide +kernel
theorem dX4_seekMisfit_32 : decode cX4_seekMisfit 32 = .ok (.aload_n 0, 1) := by decide +kernel
theorem dX4_seekMisfit_33 : decode cX4_seekMisfit 33 = .ok (.getfield 41, 3) := by decide +kernel
theorem dX4_seekMisfit_36 : decode cX4_seekMisfit 36 = .ok (.aload_n 0, 1) := by decide +kernel
theorem dX4_seekMisfit_37 : decode cX4_seekMisfit 37 = .ok (.getfield 16, 3) := by decide +kernel
theorem dX4_seekMisfit_40 : decode cX4_seekMisfit 40 = .ok (.getfield 234, 3) := by decide +kernel
theorem dX4_seekMisfit_43 : decode cX4_seekMisfit 43 = .ok (.iconst 0, 1) := by decide +kernel
theorem dX4_seekMisfit_44 : decode cX4_seekMisfit 44 = .ok (.aload_n 1, 1) := by decide +kernel
theorem dX4_seekMisfit_45 : decode cX4_seekMisfit 45 = .ok (.iconst 0, 1) := by decide +kernel
theorem dX4_seekMisfit_46 : decode cX4_seekMisfit 46 = .ok (.iconst 0, 1) := by decide +kernel
theorem dX4_seekMisfit_47 : decode cX4_seekMisfit 47 = .ok (.invokestatic 285, 3) := by decide +kernel
theorem dX4_seekMisfit_50 : decode cX4_seekMisfit 50 = .ok (.pop, 1) := by decide +kernel
theorem dX4_seekMisfit_51 : decode cX4_seekMisfit 51 = .ok (.return_, 1) := by decide +kernel
set_option maxRecDepth 20000 in
theorem ggX4_fitsNode_X3_get : GoodIn wsX4_fitsNode wsX3_get := goodIn_r _ [5, 6, 7, 42, 43, 44] (by decide +kernel) (by decide +kernel)
set_option maxRecDepth 20000 in
theorem gX4_fitsNode_X3_get : GoodIn wsX4_fitsNode (wsV RX4 217 RX3 yX3_get wsX3_get) := goodIn_app (goodIn_of _ (by decide +kernel)) ggX4_fitsNode_X3_get
set_option maxRecDepth 20000 in
theorem ggX4_fitsNode_X4_joinKinds : GoodIn wsX4_fitsNode wsX4_joinKinds := goodIn_r _ [11] (by decide +kernel) (by decide +kernel)
set_option maxRecDepth 20000 in
theorem gX4_fitsNode_X4_joinKinds : GoodIn wsX4_fitsNode (va_wsS RX4 256 yX4_joinKinds wsX4_joinKinds) := goodIn_app (goodIn_of _ (by decide +kernel)) ggX4_fitsNode_X4_joinKinds
set_option maxRecDepth 20000 in
theorem ggX4_fitsNode_X0_tell : GoodIn wsX4_fitsNode wsX0_tell := goodIn_r _ [16, 17, 18, 19, 45, 46, 47] (by decide +kernel) (by decide +kernel)
set_option maxRecDepth 20000 in
theorem gX4_fitsNode_X0_tell : GoodIn wsX4_fitsNode (wsV RX4 281 RX0 yX0_tell wsX0_tell) := goodIn_app (goodIn_of _ (by decide +kernel)) ggX4_fitsNode_X0_tell
set_option maxRecDepth 20000 in
theorem ggX4_fitsNode_X3_behind : GoodIn wsX4_fitsNode wsX3_behind := goodIn_r _ [23, 6, 24, 2, 3, 4, 5, 7, 42, 43, 44] (by decide +kernel) (by decide +kernel)
set_option maxRecDepth 20000 in
theorem gX4_fitsNode_X3_behind : GoodIn wsX4_fitsNode (wsV RX4 289 RX3 yX3_behind wsX3_behind) := goodIn_app (goodIn_of _ (by decide +kernel)) ggX4_fitsNode_X3_behind
set_option maxRecDepth 20000 in
theorem ggX4_fitsNode_X3_findBelow : GoodIn wsX4_fitsNode wsX3_findBelow := goodIn_r _ [28, 6, 29, 30, 31, 4, 32, 24, 2, 3, 5, 7, 42, 43, 44] (by decide +kernel) (by decide +kernel)
set_option maxRecDepth 20000 in
theorem gX4_fitsNode_X3_findBelow : GoodIn wsX4_fitsNode (wsV RX4 150 RX3 yX3_findBelow wsX3_findBelow) := goodIn_app (goodIn_of _ (by decide +kernel)) ggX4_fitsNode_X3_findBelow
set_option maxRecDepth 20000 in
theorem ggX4_fitsNode_X4_fitsNode : GoodIn wsX4_fitsNode wsX4_fitsNode := goodIn_r _ [0, 1, 2, 3, 4, 5, 6, 7, 8, 9, 10, 11, 12, 13, 14, 15, 16, 17, 18, 19, 20, 21, 22, 23, 24, 25, 26, 27, 28, 29, 30, 31, 32, 33, 34, 35, 36, 37, 38, 39, 40, 41, 42, 43, 44, 45, 46, 47] (by decide +kernel) (by decide +kernel)
set_option maxRecDepth 20000 in
theorem gX4_fitsNode_X4_fitsNode : GoodIn wsX4_fitsNode (va_wsS RX4 285 yX4_fitsNode wsX4_fitsNode) := goodIn_app (goodIn_of _ (by decide +kernel)) ggX4_fitsNode_X4_fitsNode
set_option maxRecDepth 20000 in
theorem ggX4_fitsNode_X4_lacksPart : GoodIn wsX4_fitsNode wsX4_lacksPart := goodIn_r _ [37, 25, 26, 27, 4, 28, 6, 29, 30, 31, 32, 24, 2, 3, 5, 7, 38, 39, 10, 40, 41, 1, 42, 43, 44] (by decide +kernel) (by decide +kernel)
set_option maxRecDepth 20000 in
theorem gX4_fitsNode_X4_lacksPart : GoodIn wsX4_fitsNode (va_wsS RX4 292 yX4_lacksPart wsX4_lacksPart) := goodIn_app (goodIn_of _ (by decide +kernel)) ggX4_fitsNode_X4_lacksPart
theorem dX4_fitsNode_0 : decode cX4_fitsNode 0 = .ok (.iload 5, 2) := by decide +kernel
theorem dX4_fitsNode_2 : decode cX4_fitsNode 2 = .ok (.iconst 4, 1) := by decide +kernel
theorem dX4_fitsNode_3 : decode cX4_fitsNode 3 = .ok (.if_icmp .le 5, 3) := by decide +kernel
theorem dX4_fitsNode_6 : decode cX4_fitsNode 6 = .ok (.iconst 0, 1) := by decide +kernel
theorem dX4_fitsNode_7 : decode cX4_fitsNode 7 = .ok (.ireturn, 1) := by decide +kernel
theorem dX4_fitsNode_8 : decode cX4_fitsNode 8 = .ok (.aload_n 1, 1) := by decide +kernel
theorem dX4_fitsNode_9 : decode cX4_fitsNode 9 = .ok (.iload_n 2, 1) := by decide +kernel
theorem dX4_fitsNode_10 : decode cX4_fitsNode 10 = .ok (.iconst 0, 1) := by decide +kernel
theorem dX4_fitsNode_11 : decode cX4_fitsNode 11 = .ok (.invokevirtual 217, 3) := by decide +kernel
theorem dX4_fitsNode_14 : decode cX4_fitsNode 14 = .ok (.istore 6, 2) := by decide +kernel
theorem dX4_fitsNode_16 : decode cX4_fitsNode 16 = .ok (.aload_n 3, 1) := by decide +kernel
theorem dX4_fitsNode_17 : decode cX4_fitsNode 17 = .ok (.iload 4, 2) := by decide +kernel
theorem dX4_fitsNode_19 : decode cX4_fitsNode 19 = .ok (.iconst 0, 1) := by decide +kernel
theorem dX4_fitsNode_20 : decode cX4_fitsNode 20 = .ok (.invokevirtual 217, 3) := by decide +kernel
theorem dX4_fitsNode_23 : decode cX4_fitsNode 23 = .ok (.istore 7, 2) := by decide +kernel
theorem dX4_fitsNode_25 : decode cX4_fitsNode 25 = .ok (.iload 6, 2) := by decide +kernel
theorem dX4_fitsNode_27 : decode cX4_fitsNode 27 = .ok (.ifCond .ne 22, 3) := by decide +kernel
theorem dX4_fitsNode_30 : decode cX4_fitsNode 30 = .ok (.aload_n 3, 1) := by decide +kernel
theorem dX4_fitsNode_31 : decode cX4_fitsNode 31 = .ok (.iload 4, 2) := by decide +kernel
theorem dX4_fitsNode_33 : decode cX4_fitsNode 33 = .ok (.iconst 4, 1) := by decide +kernel
theorem dX4_fitsNode_34 : decode cX4_fitsNode 34 = .ok (.invokevirtual 217, 3) := by decide +kernel
theorem dX4_fitsNode_37 : decode cX4_fitsNode 37 = .ok (.iconst 1, 1) := by decide +kernel
theorem dX4_fitsNode_38 : decode cX4_fitsNode 38 = .ok (.if_icmp .ne 7, 3) := by decide +kernel
theorem dX4_fitsNode_41 : decode cX4_fitsNode 41 = .ok (.iconst 1, 1) := by decide +kernel
theorem dX4_fitsNode_42 : decode cX4_fitsNode 42 = .ok (.goto 24, 3) := by decide +kernel
theorem dX4_fitsNode_45 : decode cX4_fitsNode 45 = .ok (.iconst 0, 1) := by decide +kernel
theorem dX4_fitsNode_46 : decode cX4_fitsNode 46 = .ok (.goto 20, 3) := by decide +kernel
theorem dX4_fitsNode_49 : decode cX4_fitsNode 49 = .ok (.iload 7, 2) := by decide +kernel
theorem dX4_fitsNode_51 : decode cX4_fitsNode 51 = .ok (.iload 6, 2) := by decide +kernel
theorem dX4_fitsNode_53 : decode cX4_fitsNode 53 = .ok (.invokestatic 256, 3) := by decide +kernel
theorem dX4_fitsNode_56 : decode cX4_fitsNode 56 = .ok (.iload 7, 2) := by decide +kernel
theorem dX4_fitsNode_58 : decode cX4_fitsNode 58 = .ok (.if_icmp .ne 7, 3) := by decide +kernel
theorem dX4_fitsNode_61 : decode cX4_fitsNode 61 = .ok (.iconst 1, 1) := by decide +kernel
theorem dX4_fitsNode_62 : decode cX4_fitsNode 62 = .ok (.goto 4, 3) := by decide +kernel
theorem dX4_fitsNode_65 : decode cX4_fitsNode 65 = .ok (.iconst 0, 1) := by decide +kernel
theorem dX4_fitsNode_66 : decode cX4_fitsNode 66 = .ok (.istore 8, 2) := by decide +kernel
theorem dX4_fitsNode_68 : decode cX4_fitsNode 68 = .ok (.iload 8, 2) := by decide +kernel
theorem dX4_fitsNode_70 : decode cX4_fitsNode 70 = .ok (.ifCond .ne 17, 3) := by decide +kernel
theorem dX4_fitsNode_73 : decode cX4_fitsNode 73 = .ok (.aload_n 0, 1) := by decide +kernel
theorem dX4_fitsNode_74 : decode cX4_fitsNode 74 = .ok (.iconst 1, 1) := by decide +kernel
theorem dX4_fitsNode_75 : decode cX4_fitsNode 75 = .ok (.aload_n 1, 1) := by decide +kernel
theorem dX4_fitsNode_76 : decode cX4_fitsNode 76 = .ok (.iload_n 2, 1) := by decide +kernel
theorem dX4_fitsNode_77 : decode cX4_fitsNode 77 = .ok (.iconst 3, 1) := by decide +kernel
theorem dX4_fitsNode_78 : decode cX4_fitsNode 78 = .ok (.invokevirtual 217, 3) := by decide +kernel
theorem dX4_fitsNode_81 : decode cX4_fitsNode 81 = .ok (.iload 4, 2) := by decide +kernel
theorem dX4_fitsNode_83 : decode cX4_fitsNode 83 = .ok (.invokevirtual 281, 3) := by decide +kernel
theorem dX4_fitsNode_86 : decode cX4_fitsNode 86 = .ok (.ireturn, 1) := by decide +kernel
theorem dX4_fitsNode_87 : decode cX4_fitsNode 87 = .ok (.iload 6, 2) := by decide +kernel
theorem dX4_fitsNode_89 : decode cX4_fitsNode 89 = .ok (.ifCond .eq 10, 3) := by decide +kernel
theorem dX4_fitsNode_92 : decode cX4_fitsNode 92 = .ok (.iload 7, 2) := by decide +kernel
theorem dX4_fitsNode_94 : decode cX4_fitsNode 94 = .ok (.bipush 7, 2) := by decide +kernel
theorem dX4_fitsNode_96 : decode cX4_fitsNode 96 = .ok (.if_icmp .ne 5, 3) := by decide +kernel
theorem dX4_fitsNode_99 : decode cX4_fitsNode 99 = .ok (.iconst 1, 1) := by decide +kernel
theorem dX4_fitsNode_100 : decode cX4_fitsNode 100 = .ok (.ireturn, 1) := by decide +kernel
theorem dX4_fitsNode_101 : decode cX4_fitsNode 101 = .ok (.aload_n 1, 1) := by decide +kernel
theorem dX4_fitsNode_102 : decode cX4_fitsNode 102 = .ok (.iload_n 2, 1) := by decide +kernel
theorem dX4_fitsNode_103 : decode cX4_fitsNode 103 = .ok (.invokevirtual 289, 3) := by decide +kernel
theorem dX4_fitsNode_106 : decode cX4_fitsNode 106 = .ok (.istore 9, 2) := by decide +kernel
theorem dX4_fitsNode_108 : decode cX4_fitsNode 108 = .ok (.iload_n 2, 1) := by decide +kernel
theorem dX4_fitsNode_109 : decode cX4_fitsNode 109 = .ok (.iconst 1, 1) := by decide +kernel
theorem dX4_fitsNode_110 : decode cX4_fitsNode 110 = .ok (.iadd, 1) := by decide +kernel
theorem dX4_fitsNode_111 : decode cX4_fitsNode 111 = .ok (.istore 10, 2) := by decide +kernel
theorem dX4_fitsNode_113 : decode cX4_fitsNode 113 = .ok (.iload 10, 2) := by decide +kernel
theorem dX4_fitsNode_115 : decode cX4_fitsNode 115 = .ok (.iload 9, 2) := by decide +kernel
theorem dX4_fitsNode_117 : decode cX4_fitsNode 117 = .ok (.if_icmp .ge 97, 3) := by decide +kernel
theorem dX4_fitsNode_120 : decode cX4_fitsNode 120 = .ok (.aload_n 1, 1) := by decide +kernel
theorem dX4_fitsNode_121 : decode cX4_fitsNode 121 = .ok (.iload 10, 2) := by decide +kernel
theorem dX4_fitsNode_123 : decode cX4_fitsNode 123 = .ok (.iconst 5, 1) := by decide +kernel
theorem dX4_fitsNode_124 : decode cX4_fitsNode 124 = .ok (.invokevirtual 217, 3) := by decide +kernel
theorem dX4_fitsNode_127 : decode cX4_fitsNode 127 = .ok (.iload_n 2, 1) := by decide +kernel
theorem dX4_fitsNode_128 : decode cX4_fitsNode 128 = .ok (.if_icmp .ne 80, 3) := by decide +kernel
theorem dX4_fitsNode_131 : decode cX4_fitsNode 131 = .ok (.aload_n 1, 1) := by decide +kernel
theorem dX4_fitsNode_132 : decode cX4_fitsNode 132 = .ok (.iload 10, 2) := by decide +kernel
theorem dX4_fitsNode_134 : decode cX4_fitsNode 134 = .ok (.iconst 1, 1) := by decide +kernel
theorem dX4_fitsNode_135 : decode cX4_fitsNode 135 = .ok (.invokevirtual 217, 3) := by decide +kernel
theorem dX4_fitsNode_138 : decode cX4_fitsNode 138 = .ok (.istore 11, 2) := by decide +kernel
theorem dX4_fitsNode_140 : decode cX4_fitsNode 140 = .ok (.aload_n 3, 1) := by decide +kernel
theorem dX4_fitsNode_141 : decode cX4_fitsNode 141 = .ok (.iload 4, 2) := by decide +kernel
theorem dX4_fitsNode_143 : decode cX4_fitsNode 143 = .ok (.iload 11, 2) := by decide +kernel
theorem dX4_fitsNode_145 : decode cX4_fitsNode 145 = .ok (.invokevirtual 150, 3) := by decide +kernel
theorem dX4_fitsNode_148 : decode cX4_fitsNode 148 = .ok (.istore 12, 2) := by decide +kernel
theorem dX4_fitsNode_150 : decode cX4_fitsNode 150 = .ok (.iload 12, 2) := by decide +kernel
theorem dX4_fitsNode_152 : decode cX4_fitsNode 152 = .ok (.iconst (-1), 1) := by decide +kernel
theorem dX4_fitsNode_153 : decode cX4_fitsNode 153 = .ok (.if_icmp .ne 36, 3) := by decide +kernel
theorem dX4_fitsNode_156 : decode cX4_fitsNode 156 = .ok (.aload_n 1, 1) := by decide +kernel
theorem dX4_fitsNode_157 : decode cX4_fitsNode 157 = .ok (.iload 10, 2) := by decide +kernel
theorem dX4_fitsNode_159 : decode cX4_fitsNode 159 = .ok (.iconst 3, 1) := by decide +kernel
theorem dX4_fitsNode_160 : decode cX4_fitsNode 160 = .ok (.invokevirtual 217, 3) := by decide +kernel
theorem dX4_fitsNode_163 : decode cX4_fitsNode 163 = .ok (.istore 13, 2) := by decide +kernel
theorem dX4_fitsNode_165 : decode cX4_fitsNode 165 = .ok (.aload_n 0, 1) := by decide +kernel
theorem dX4_fitsNode_166 : decode cX4_fitsNode 166 = .ok (.iconst 2, 1) := by decide +kernel
theorem dX4_fitsNode_167 : decode cX4_fitsNode 167 = .ok (.iload 11, 2) := by decide +kernel
theorem dX4_fitsNode_169 : decode cX4_fitsNode 169 = .ok (.bipush 8, 2) := by decide +kernel
theorem dX4_fitsNode_171 : decode cX4_fitsNode 171 = .ok (.if_icmp .ne 8, 3) := by decide +kernel
theorem dX4_fitsNode_174 : decode cX4_fitsNode 174 = .ok (.iload 13, 2) := by decide +kernel
theorem dX4_fitsNode_176 : decode cX4_fitsNode 176 = .ok (.goto 7, 3) := by decide +kernel
theorem dX4_fitsNode_179 : decode cX4_fitsNode 179 = .ok (.iload 13, 2) := by decide +kernel
theorem dX4_fitsNode_181 : decode cX4_fitsNode 181 = .ok (.iconst 1, 1) := by decide +kernel
theorem dX4_fitsNode_182 : decode cX4_fitsNode 182 = .ok (.isub, 1) := by decide +kernel
theorem dX4_fitsNode_183 : decode cX4_fitsNode 183 = .ok (.iload 4, 2) := by decide +kernel
theorem dX4_fitsNode_185 : decode cX4_fitsNode 185 = .ok (.invokevirtual 281, 3) := by decide +kernel
theorem dX4_fitsNode_188 : decode cX4_fitsNode 188 = .ok (.ireturn, 1) := by decide +kernel
theorem dX4_fitsNode_189 : decode cX4_fitsNode 189 = .ok (.aload_n 0, 1) := by decide +kernel
theorem dX4_fitsNode_190 : decode cX4_fitsNode 190 = .ok (.aload_n 1, 1) := by decide +kernel
theorem dX4_fitsNode_191 : decode cX4_fitsNode 191 = .ok (.iload 10, 2) := by decide +kernel
theorem dX4_fitsNode_193 : decode cX4_fitsNode 193 = .ok (.aload_n 3, 1) := by decide +kernel
theorem dX4_fitsNode_194 : decode cX4_fitsNode 194 = .ok (.iload 12, 2) := by decide +kernel
theorem dX4_fitsNode_196 : decode cX4_fitsNode 196 = .ok (.iload 5, 2) := by decide +kernel
theorem dX4_fitsNode_198 : decode cX4_fitsNode 198 = .ok (.iconst 1, 1) := by decide +kernel
theorem dX4_fitsNode_199 : decode cX4_fitsNode 199 = .ok (.iadd, 1) := by decide +kernel
theorem dX4_fitsNode_200 : decode cX4_fitsNode 200 = .ok (.invokestatic 285, 3) := by decide +kernel
theorem dX4_fitsNode_203 : decode cX4_fitsNode 203 = .ok (.ifCond .ne 5, 3) := by decide +kernel
theorem dX4_fitsNode_206 : decode cX4_fitsNode 206 = .ok (.iconst 0, 1) := by decide +kernel
theorem dX4_fitsNode_207 : decode cX4_fitsNode 207 = .ok (.ireturn, 1) := by decide +kernel
theorem dX4_fitsNode_208 : decode cX4_fitsNode 208 = .ok (.iinc 10 1, 3) := by decide +kernel
theorem dX4_fitsNode_211 : decode cX4_fitsNode 211 = .ok (.goto (-98), 3) := by decide +kernel
theorem dX4_fitsNode_214 : decode cX4_fitsNode 214 = .ok (.iload 6, 2) := by decide +kernel
theorem dX4_fitsNode_216 : decode cX4_fitsNode 216 = .ok (.bipush 6, 2) := by decide +kernel
theorem dX4_fitsNode_218 : decode cX4_fitsNode 218 = .ok (.if_icmp .ne 33, 3) := by decide +kernel
theorem dX4_fitsNode_221 : decode cX4_fitsNode 221 = .ok (.aload_n 1, 1) := by decide +kernel
theorem dX4_fitsNode_222 : decode cX4_fitsNode 222 = .ok (.iload_n 2, 1) := by decide +kernel
theorem dX4_fitsNode_223 : decode cX4_fitsNode 223 = .ok (.bipush 6, 2) := by decide +kernel
theorem dX4_fitsNode_225 : decode cX4_fitsNode 225 = .ok (.invokevirtual 217, 3) := by decide +kernel
theorem dX4_fitsNode_228 : decode cX4_fitsNode 228 = .ok (.aload_n 3, 1) := by decide +kernel
theorem dX4_fitsNode_229 : decode cX4_fitsNode 229 = .ok (.iload 4, 2) := by decide +kernel
theorem dX4_fitsNode_231 : decode cX4_fitsNode 231 = .ok (.invokestatic 292, 3) := by decide +kernel
theorem dX4_fitsNode_234 : decode cX4_fitsNode 234 = .ok (.ifCond .eq 17, 3) := by decide +kernel
theorem dX4_fitsNode_237 : decode cX4_fitsNode 237 = .ok (.aload_n 0, 1) := by decide +kernel
theorem dX4_fitsNode_238 : decode cX4_fitsNode 238 = .ok (.iconst 3, 1) := by decide +kernel
theorem dX4_fitsNode_239 : decode cX4_fitsNode 239 = .ok (.aload_n 1, 1) := by decide +kernel
theorem dX4_fitsNode_240 : decode cX4_fitsNode 240 = .ok (.iload_n 2, 1) := by decide +kernel
theorem dX4_fitsNode_241 : decode cX4_fitsNode 241 = .ok (.iconst 4, 1) := by decide +kernel
theorem dX4_fitsNode_242 : decode cX4_fitsNode 242 = .ok (.invokevirtual 217, 3) := by decide +kernel
theorem dX4_fitsNode_245 : decode cX4_fitsNode 245 = .ok (.iload 4, 2) := by decide +kernel
theorem dX4_fitsNode_247 : decode cX4_fitsNode 247 = .ok (.invokevirtual 281, 3) := by decide +kernel
theorem dX4_fitsNode_250 : decode cX4_fitsNode 250 = .ok (.ireturn, 1) := by decide +kernel
theorem dX4_fitsNode_251 : decode cX4_fitsNode 251 = .ok (.iconst 1, 1) := by decide +kernel
theorem dX4_fitsNode_252 : decode cX4_fitsNode 252 = .ok (.ireturn, 1) := by decide +kernel
set_option maxRecDepth 20000 in
theorem ggX4_lacksPart_X3_findBelow : GoodIn wsX4_lacksPart wsX3_findBelow := goodIn_r _ [5, 6, 7, 8, 9, 4, 10, 11, 12, 13, 14, 15, 22, 23, 24] (by decide +kernel) (by decide +kernel)
set_option maxRecDepth 20000 in
theorem gX4_lacksPart_X3_findBelow : GoodIn wsX4_lacksPart (wsV RX4 150 RX3 yX3_findBelow wsX3_findBelow) := goodIn_app (goodIn_of _ (by decide +kernel)) ggX4_lacksPart_X3_findBelow
set_option maxRecDepth 20000 in
theorem ggX4_lacksPart_X4_mustBeThere : GoodIn wsX4_lacksPart wsX4_mustBeThere := goodIn_r _ [19, 20, 8, 9, 4, 10, 6, 21, 12, 13, 14, 15, 22, 23, 24] (by decide +kernel) (by decide +kernel)
set_option maxRecDepth 20000 in
theorem gX4_lacksPart_X4_mustBeThere : GoodIn wsX4_lacksPart (va_wsS RX4 277 yX4_mustBeThere wsX4_mustBeThere) := goodIn_app (goodIn_of _ (by decide +kernel)) ggX4_lacksPart_X4_mustBeThere
theorem dX4_lacksPart_0 : decode cX4_lacksPart 0 = .ok (.iconst 0, 1) := by decide +kernel
theorem dX4_lacksPart_1 : decode cX4_lacksPart 1 = .ok (.istore_n 3, 1) := by decide +kernel
theorem dX4_lacksPart_2 : decode cX4_lacksPart 2 = .ok (.iload_n 3, 1) := by decide +kernel
theorem dX4_lacksPart_3 : decode cX4_lacksPart 3 = .ok (.bipush 8, 2) := by decide +kernel
theorem dX4_lacksPart_5 : decode cX4_lacksPart 5 = .ok (.if_icmp .ge 32, 3) := by decide +kernel
theorem dX4_lacksPart_8 : decode cX4_lacksPart 8 = .ok (.iload_n 0, 1) := by decide +kernel
theorem dX4_lacksPart_9 : decode cX4_lacksPart 9 = .ok (.iconst 1, 1) := by decide +kernel
theorem dX4_lacksPart_10 : decode cX4_lacksPart 10 = .ok (.iload_n 3, 1) := by decide +kernel
theorem dX4_lacksPart_11 : decode cX4_lacksPart 11 = .ok (.ishl, 1) := by decide +kernel
theorem dX4_lacksPart_12 : decode cX4_lacksPart 12 = .ok (.iand, 1) := by decide +kernel
theorem dX4_lacksPart_13 : decode cX4_lacksPart 13 = .ok (.ifCond .ne 18, 3) := by decide +kernel
theorem dX4_lacksPart_16 : decode cX4_lacksPart 16 = .ok (.aload_n 1, 1) := by decide +kernel
theorem dX4_lacksPart_17 : decode cX4_lacksPart 17 = .ok (.aload_n 1, 1) := by decide +kernel
theorem dX4_lacksPart_18 : decode cX4_lacksPart 18 = .ok (.iload_n 2, 1) := by decide +kernel
theorem dX4_lacksPart_19 : decode cX4_lacksPart 19 = .ok (.iload_n 3, 1) := by decide +kernel
theorem dX4_lacksPart_20 : decode cX4_lacksPart 20 = .ok (.invokevirtual 150, 3) := by decide +kernel
theorem dX4_lacksPart_23 : decode cX4_lacksPart 23 = .ok (.invokestatic 277, 3) := by decide +kernel
theorem dX4_lacksPart_26 : decode cX4_lacksPart 26 = .ok (.ifCond .eq 5, 3) := by decide +kernel
theorem dX4_lacksPart_29 : decode cX4_lacksPart 29 = .ok (.iconst 1, 1) := by decide +kernel
theorem dX4_lacksPart_30 : decode cX4_lacksPart 30 = .ok (.ireturn, 1) := by decide +kernel
theorem dX4_lacksPart_31 : decode cX4_lacksPart 31 = .ok (.iinc 3 1, 3) := by decide +kernel
theorem dX4_lacksPart_34 : decode cX4_lacksPart 34 = .ok (.goto (-32), 3) := by decide +kernel
theorem dX4_lacksPart_37 : decode cX4_lacksPart 37 = .ok (.iconst 0, 1) := by decide +kernel
theorem dX4_lacksPart_38 : decode cX4_lacksPart 38 = .ok (.ireturn, 1) := by decide +kernel
theorem dX5_init_0 : decode cX5_init 0 = .ok (.aload_n 0, 1) := by decide +kernel
theorem dX5_init_1 : decode cX5_init 1 = .ok (.invokespecial 1, 3) := by decide +kernel
theorem dX5_init_4 : decode cX5_init 4 = .ok (.aload_n 0, 1) := by decide +kernel
theorem dX5_init_5 : decode cX5_init 5 = .ok (.sipush 425, 3) := by decide +kernel
theorem dX5_init_8 : decode cX5_init 8 = .ok (.newarray .int, 2) := by decide +kernel
theorem dX5_init_10 : decode cX5_init 10 = .ok (.putfield 7, 3) := by decide +kernel
theorem dX5_init_13 : decode cX5_init 13 = .ok (.aload_n 0, 1) := by decide +kernel
theorem dX5_init_14 : decode cX5_init 14 = .ok (.sipush 2550, 3) := by decide +kernel
theorem dX5_init_17 : decode cX5_init 17 = .ok (.newarray .int, 2) := by decide +kernel
theorem dX5_init_19 : decode cX5_init 19 = .ok (.putfield 13, 3) := by decide +kernel
theorem dX5_init_22 : decode cX5_init 22 = .ok (.aload_n 0, 1) := by decide +kernel
theorem dX5_init_23 : decode cX5_init 23 = .ok (.bipush 60, 2) := by decide +kernel
theorem dX5_init_25 : decode cX5_init 25 = .ok (.newarray .int, 2) := by decide +kernel
theorem dX5_init_27 : decode cX5_init 27 = .ok (.putfield 16, 3) := by decide +kernel
theorem dX5_init_30 : decode cX5_init 30 = .ok (.aload_n 0, 1) := by decide +kernel
theorem dX5_init_31 : decode cX5_init 31 = .ok (.bipush 64, 2) := by decide +kernel
theorem dX5_init_33 : decode cX5_init 33 = .ok (.newarray .int, 2) := by decide +kernel
theorem dX5_init_35 : decode cX5_init 35 = .ok (.putfield 19, 3) := by decide +kernel
theorem dX5_init_38 : decode cX5_init 38 = .ok (.aload_n 0, 1) := by decide +kernel
theorem dX5_init_39 : decode cX5_init 39 = .ok (.bipush 64, 2) := by decide +kernel
theorem dX5_init_41 : decode cX5_init 41 = .ok (.newarray .int, 2) := by decide +kernel
theorem dX5_init_43 : decode cX5_init 43 = .ok (.putfield 22, 3) := by decide +kernel
theorem dX5_init_46 : decode cX5_init 46 = .ok (.aload_n 0, 1) := by decide +kernel
theorem dX5_init_47 : decode cX5_init 47 = .ok (.bipush 64, 2) := by decide +kernel
theorem dX5_init_49 : decode cX5_init 49 = .ok (.newarray .int, 2) := by decide +kernel
theorem dX5_init_51 : decode cX5_init 51 = .ok (.putfield 25, 3) := by decide +kernel
theorem dX5_init_54 : decode cX5_init 54 = .ok (.aload_n 0, 1) := by decide +kernel
theorem dX5_init_55 : decode cX5_init 55 = .ok (.bipush 64, 2) := by decide +kernel
theorem dX5_init_57 : decode cX5_init 57 = .ok (.newarray .int, 2) := by decide +kernel
theorem dX5_init_59 : decode cX5_init 59 = .ok (.putfield 28, 3) := by decide +kernel
theorem dX5_init_62 : decode cX5_init 62 = .ok (.aload_n 0, 1) := by decide +kernel
theorem dX5_init_63 : decode cX5_init 63 = .ok (.bipush 64, 2) := by decide +kernel
theorem dX5_init_65 : decode cX5_init 65 = .ok (.newarray .int, 2) := by decide +kernel
theorem dX5_init_67 : decode cX5_init 67 = .ok (.putfield 31, 3) := by decide +kernel
theorem dX5_init_70 : decode cX5_init 70 = .ok (.aload_n 0, 1) := by decide +kernel
theorem dX5_init_71 : decode cX5_init 71 = .ok (.bipush 64, 2) := by decide +kernel
theorem dX5_init_73 : decode cX5_init 73 = .ok (.newarray .int, 2) := by decide +kernel
theorem dX5_init_75 : decode cX5_init 75 = .ok (.putfield 34, 3) := by decide +kernel
theorem dX5_init_78 : decode cX5_init 78 = .ok (.aload_n 0, 1) := by decide +kernel
theorem dX5_init_79 : decode cX5_init 79 = .ok (.iconst 4, 1) := by decide +kernel
theorem dX5_init_80 : decode cX5_init 80 = .ok (.newarray .int, 2) := by decide +kernel
theorem dX5_init_82 : decode cX5_init 82 = .ok (.putfield 37, 3) := by decide +kernel
theorem dX5_init_85 : decode cX5_init 85 = .ok (.aload_n 0, 1) := by decide +kernel
theorem dX5_init_86 : decode cX5_init 86 = .ok (.sipush 448, 3) := by decide +kernel
theorem dX5_init_89 : decode cX5_init 89 = .ok (.newarray .int, 2) := by decide +kernel
theorem dX5_init_91 : decode cX5_init 91 = .ok (.putfield 40, 3) := by decide +kernel
theorem dX5_init_94 : decode cX5_init 94 = .ok (.aload_n 0, 1) := by decide +kernel
theorem dX5_init_95 : decode cX5_init 95 = .ok (.bipush 64, 2) := by decide +kernel
theorem dX5_init_97 : decode cX5_init 97 = .ok (.newarray .int, 2) := by decide +kernel
theorem dX5_init_99 : decode cX5_init 99 = .ok (.putfield 43, 3) := by decide +kernel
theorem dX5_init_102 : decode cX5_init 102 = .ok (.aload_n 0, 1) := by decide +kernel
theorem dX5_init_103 : decode cX5_init 103 = .ok (.bipush 64, 2) := by decide +kernel
theorem dX5_init_105 : decode cX5_init 105 = .ok (.newarray .int, 2) := by decide +kernel
theorem dX5_init_107 : decode cX5_init 107 = .ok (.putfield 46, 3) := by decide +kernel
theorem dX5_init_110 : decode cX5_init 110 = .ok (.return_, 1) := by decide +kernel
theorem dX5_thrown_0 : decode cX5_thrown 0 = .ok (.aload_n 0, 1) := by decide +kernel
theorem dX5_thrown_1 : decode cX5_thrown 1 = .ok (.getfield 49, 3) := by decide +kernel
theorem dX5_thrown_4 : decode cX5_thrown 4 = .ok (.ireturn, 1) := by decide +kernel
theorem dX5_fails_0 : decode cX5_fails 0 = .ok (.aload_n 0, 1) := by decide +kernel
theorem dX5_fails_1 : decode cX5_fails 1 = .ok (.iload_n 1, 1) := by decide +kernel
theorem dX5_fails_2 : decode cX5_fails 2 = .ok (.putfield 49, 3) := by decide +kernel
theorem dX5_fails_5 : decode cX5_fails 5 = .ok (.iconst 0, 1) := by decide +kernel
theorem dX5_fails_6 : decode cX5_fails 6 = .ok (.ireturn, 1) := by decide +kernel
theorem dX5_in_0 : decode cX5_in 0 = .ok (.iload_n 0, 1) := by decide +kernel
theorem dX5_in_1 : decode cX5_in 1 = .ok (.iload_n 1, 1) := by decide +kernel
theorem dX5_in_2 : decode cX5_in 2 = .ok (.if_icmp .lt 12, 3) := by decide +kernel
theorem dX5_in_5 : decode cX5_in 5 = .ok (.iload_n 0, 1) := by decide +kernel
theorem dX5_in_6 : decode cX5_in 6 = .ok (.iload_n 2, 1) := by decide +kernel
theorem dX5_in_7 : decode cX5_in 7 = .ok (.if_icmp .gt 7, 3) := by decide +kernel
theorem dX5_in_10 : decode cX5_in 10 = .ok (.iconst 1, 1) := by decide +kernel
theorem dX5_in_11 : decode cX5_in 11 = .ok (.goto 4, 3) := by decide +kernel
theorem dX5_in_14 : decode cX5_in 14 = .ok (.iconst 0, 1) := by decide +kernel
theorem dX5_in_15 : decode cX5_in 15 = .ok (.ireturn, 1) := by decide +kernel
set_option maxRecDepth 20000 in
theorem ggX5_isShape_X5_in : GoodIn wsX5_isShape wsX5_in := goodIn_r _ [4] (by decide +kernel) (by decide +kernel)
set_option maxRecDepth 20000 in
theorem gX5_isShape_X5_in : GoodIn wsX5_isShape (va_wsS RX5 53 yX5_in wsX5_in) := goodIn_app (goodIn_of _ (by decide +kernel)) ggX5_isShape_X5_in
theorem dX5_isShape_0 : decode cX5_isShape 0 = .ok (.iload_n 0, 1) := by decide +kernel
theorem dX5_isShape_1 : decode cX5_isShape 1 = .ok (.iconst 0, 1) := by decide +kernel
theorem dX5_isShape_2 : decode cX5_isShape 2 = .ok (.iconst 1, 1) := by decide +kernel
theorem dX5_isShape_3 : decode cX5_isShape 3 = .ok (.invokestatic 53, 3) := by decide +kernel
theorem dX5_isShape_6 : decode cX5_isShape 6 = .ok (.ireturn, 1) := by decide +kernel
set_option maxRecDepth 20000 in
theorem ggX5_isNode_X5_isShape : GoodIn wsX5_isNode wsX5_isShape := goodIn_r _ [5, 6, 7, 4, 8] (by decide +kernel) (by decide +kernel)
set_option maxRecDepth 20000 in
theorem gX5_isNode_X5_isShape : GoodIn wsX5_isNode (va_wsS RX5 57 yX5_isShape wsX5_isShape) := goodIn_app (goodIn_of _ (by decide +kernel)) ggX5_isNode_X5_isShape
set_option maxRecDepth 20000 in
theorem ggX5_isNode_X5_in : GoodIn wsX5_isNode wsX5_in := goodIn_r _ [8] (by decide +kernel) (by decide +kernel)
set_option maxRecDepth 20000 in
theorem gX5_isNode_X5_in : GoodIn wsX5_isNode (va_wsS RX5 53 yX5_in wsX5_in) := goodIn_app (goodIn_of _ (by decide +kernel)) ggX5_isNode_X5_in
theorem dX5_isNode_0 : decode cX5_isNode 0 = .ok (.iload_n 1, 1) := by decide +kernel
theorem dX5_isNode_1 : decode cX5_isNode 1 = .ok (.invokestatic 57, 3) := by decide +kernel
theorem dX5_isNode_4 : decode cX5_isNode 4 = .ok (.ifCond .eq 25, 3) := by decide +kernel
theorem dX5_isNode_7 : decode cX5_isNode 7 = .ok (.iload_n 2, 1) := by decide +kernel
theorem dX5_isNode_8 : decode cX5_isNode 8 = .ok (.iconst 0, 1) := by decide +kernel
theorem dX5_isNode_9 : decode cX5_isNode 9 = .ok (.aload_n 0, 1) := by decide +kernel
theorem dX5_isNode_10 : decode cX5_isNode 10 = .ok (.getfield 7, 3) := by decide +kernel
theorem dX5_isNode_13 : decode cX5_isNode 13 = .ok (.iconst 3, 1) := by decide +kernel
theorem dX5_isNode_14 : decode cX5_isNode 14 = .ok (.iload_n 1, 1) := by decide +kernel
theorem dX5_isNode_15 : decode cX5_isNode 15 = .ok (.iadd, 1) := by decide +kernel
theorem dX5_isNode_16 : decode cX5_isNode 16 = .ok (.iaload, 1) := by decide +kernel
theorem dX5_isNode_17 : decode cX5_isNode 17 = .ok (.iconst 1, 1) := by decide +kernel
theorem dX5_isNode_18 : decode cX5_isNode 18 = .ok (.isub, 1) := by decide +kernel
theorem dX5_isNode_19 : decode cX5_isNode 19 = .ok (.invokestatic 53, 3) := by decide +kernel
theorem dX5_isNode_22 : decode cX5_isNode 22 = .ok (.ifCond .eq 7, 3) := by decide +kernel
theorem dX5_isNode_25 : decode cX5_isNode 25 = .ok (.iconst 1, 1) := by decide +kernel
theorem dX5_isNode_26 : decode cX5_isNode 26 = .ok (.goto 4, 3) := by decide +kernel
theorem dX5_isNode_29 : decode cX5_isNode 29 = .ok (.iconst 0, 1) := by decide +kernel
theorem dX5_isNode_30 : decode cX5_isNode 30 = .ok (.ireturn, 1) := by decide +kernel
theorem dX5_of_0 : decode cX5_of 0 = .ok (.aload_n 0, 1) := by decide +kernel
theorem dX5_of_1 : decode cX5_of 1 = .ok (.getfield 7, 3) := by decide +kernel
theorem dX5_of_4 : decode cX5_of 4 = .ok (.iconst 5, 1) := by decide +kernel
theorem dX5_of_5 : decode cX5_of 5 = .ok (.sipush 210, 3) := by decide +kernel
theorem dX5_of_8 : decode cX5_of 8 = .ok (.iload_n 1, 1) := by decide +kernel
theorem dX5_of_9 : decode cX5_of 9 = .ok (.imul, 1) := by decide +kernel
theorem dX5_of_10 : decode cX5_of 10 = .ok (.iadd, 1) := by decide +kernel
theorem dX5_of_11 : decode cX5_of 11 = .ok (.bipush 7, 2) := by decide +kernel
theorem dX5_of_13 : decode cX5_of 13 = .ok (.iload_n 2, 1) := by decide +kernel
theorem dX5_of_14 : decode cX5_of 14 = .ok (.imul, 1) := by decide +kernel
theorem dX5_of_15 : decode cX5_of 15 = .ok (.iadd, 1) := by decide +kernel
theorem dX5_of_16 : decode cX5_of 16 = .ok (.iload_n 3, 1) := by decide +kernel
theorem dX5_of_17 : decode cX5_of 17 = .ok (.iadd, 1) := by decide +kernel
theorem dX5_of_18 : decode cX5_of 18 = .ok (.iaload, 1) := by decide +kernel
theorem dX5_of_19 : decode cX5_of 19 = .ok (.ireturn, 1) := by decide +kernel
theorem dX5_saves_0 : decode cX5_saves 0 = .ok (.aload_n 0, 1) := by decide +kernel
theorem dX5_saves_1 : decode cX5_saves 1 = .ok (.getfield 61, 3) := by decide +kernel
theorem dX5_saves_4 : decode cX5_saves 4 = .ok (.bipush 6, 2) := by decide +kernel
theorem dX5_saves_6 : decode cX5_saves 6 = .ok (.if_icmp .ne 44, 3) := by decide +kernel
theorem dX5_saves_9 : decode cX5_saves 9 = .ok (.iconst 0, 1) := by decide +kernel
theorem dX5_saves_10 : decode cX5_saves 10 = .ok (.istore_n 1, 1) := by decide +kernel
theorem dX5_saves_11 : decode cX5_saves 11 = .ok (.iload_n 1, 1) := by decide +kernel
theorem dX5_saves_12 : decode cX5_saves 12 = .ok (.sipush 2125, 3) := by decide +kernel
theorem dX5_saves_15 : decode cX5_saves 15 = .ok (.if_icmp .ge 25, 3) := by decide +kernel
theorem dX5_saves_18 : decode cX5_saves 18 = .ok (.aload_n 0, 1) := by decide +kernel
theorem dX5_saves_19 : decode cX5_saves 19 = .ok (.getfield 13, 3) := by decide +kernel
theorem dX5_saves_22 : decode cX5_saves 22 = .ok (.iload_n 1, 1) := by decide +kernel
theorem dX5_saves_23 : decode cX5_saves 23 = .ok (.aload_n 0, 1) := by decide +kernel
theorem dX5_saves_24 : decode cX5_saves 24 = .ok (.getfield 13, 3) := by decide +kernel
theorem dX5_saves_27 : decode cX5_saves 27 = .ok (.iload_n 1, 1) := by decide +kernel
theorem dX5_saves_28 : decode cX5_saves 28 = .ok (.sipush 425, 3) := by decide +kernel
theorem dX5_saves_31 : decode cX5_saves 31 = .ok (.iadd, 1) := by decide +kernel
theorem dX5_saves_32 : decode cX5_saves 32 = .ok (.iaload, 1) := by decide +kernel
theorem dX5_saves_33 : decode cX5_saves 33 = .ok (.iastore, 1) := by decide +kernel
theorem dX5_saves_34 : decode cX5_saves 34 = .ok (.iinc 1 1, 3) := by decide +kernel
theorem dX5_saves_37 : decode cX5_saves 37 = .ok (.goto (-26), 3) := by decide +kernel
theorem dX5_saves_40 : decode cX5_saves 40 = .ok (.aload_n 0, 1) := by decide +kernel
theorem dX5_saves_41 : decode cX5_saves 41 = .ok (.dup, 1) := by decide +kernel
theorem dX5_saves_42 : decode cX5_saves 42 = .ok (.getfield 61, 3) := by decide +kernel
theorem dX5_saves_45 : decode cX5_saves 45 = .ok (.iconst 1, 1) := by decide +kernel
theorem dX5_saves_46 : decode cX5_saves 46 = .ok (.isub, 1) := by decide +kernel
theorem dX5_saves_47 : decode cX5_saves 47 = .ok (.putfield 61, 3) := by decide +kernel
theorem dX5_saves_50 : decode cX5_saves 50 = .ok (.iconst 0, 1) := by decide +kernel
theorem dX5_saves_51 : decode cX5_saves 51 = .ok (.istore_n 1, 1) := by decide +kernel
theorem dX5_saves_52 : decode cX5_saves 52 = .ok (.iload_n 1, 1) := by decide +kernel
theorem dX5_saves_53 : decode cX5_saves 53 = .ok (.sipush 425, 3) := by decide +kernel
theorem dX5_saves_56 : decode cX5_saves 56 = .ok (.if_icmp .ge 30, 3) := by decide +kernel
theorem dX5_saves_59 : decode cX5_saves 59 = .ok (.aload_n 0, 1) := by decide +kernel
theorem dX5_saves_60 : decode cX5_saves 60 = .ok (.getfield 13, 3) := by decide +kernel
theorem dX5_saves_63 : decode cX5_saves 63 = .ok (.sipush 425, 3) := by decide +kernel
theorem dX5_saves_66 : decode cX5_saves 66 = .ok (.aload_n 0, 1) := by decide +kernel
theorem dX5_saves_67 : decode cX5_saves 67 = .ok (.getfield 61, 3) := by decide +kernel
theorem dX5_saves_70 : decode cX5_saves 70 = .ok (.imul, 1) := by decide +kernel
theorem dX5_saves_71 : decode cX5_saves 71 = .ok (.iload_n 1, 1) := by decide +kernel
theorem dX5_saves_72 : decode cX5_saves 72 = .ok (.iadd, 1) := by decide +kernel
theorem dX5_saves_73 : decode cX5_saves 73 = .ok (.aload_n 0, 1) := by decide +kernel
theorem dX5_saves_74 : decode cX5_saves 74 = .ok (.getfield 7, 3) := by decide +kernel
theorem dX5_saves_77 : decode cX5_saves 77 = .ok (.iload_n 1, 1) := by decide +kernel
theorem dX5_saves_78 : decode cX5_saves 78 = .ok (.iaload, 1) := by decide +kernel
theorem dX5_saves_79 : decode cX5_saves 79 = .ok (.iastore, 1) := by decide +kernel
theorem dX5_saves_80 : decode cX5_saves 80 = .ok (.iinc 1 1, 3) := by decide +kernel
theorem dX5_saves_83 : decode cX5_saves 83 = .ok (.goto (-31), 3) := by decide +kernel
theorem dX5_saves_86 : decode cX5_saves 86 = .ok (.aload_n 0, 1) := by decide +kernel
theorem dX5_saves_87 : decode cX5_saves 87 = .ok (.dup, 1) := by decide +kernel
theorem dX5_saves_88 : decode cX5_saves 88 = .ok (.getfield 61, 3) := by decide +kernel
theorem dX5_saves_91 : decode cX5_saves 91 = .ok (.iconst 1, 1) := by decide +kernel
theorem dX5_saves_92 : decode cX5_saves 92 = .ok (.iadd, 1) := by decide +kernel
theorem dX5_saves_93 : decode cX5_saves 93 = .ok (.putfield 61, 3) := by decide +kernel
theorem dX5_saves_96 : decode cX5_saves 96 = .ok (.return_, 1) := by decide +kernel
set_option maxRecDepth 20000 in
theorem ggX5_undo_X5_fails : GoodIn wsX5_undo wsX5_fails := goodIn_r _ [9, 1, 10, 11, 12, 13, 14, 15, 16, 17, 18, 19, 20, 21, 22, 23, 24, 25, 26, 27, 28, 29, 30, 31, 32, 33, 34, 35] (by decide +kernel) (by decide +kernel)
set_option maxRecDepth 20000 in
theorem gX5_undo_X5_fails : GoodIn wsX5_undo (wsV RX5 64 RX5 yX5_fails wsX5_fails) := goodIn_app (goodIn_of _ (by decide +kernel)) ggX5_undo_X5_fails
theorem dX5_undo_0 : decode cX5_undo 0 = .ok (.aload_n 0, 1) := by decide +kernel
theorem dX5_undo_1 : decode cX5_undo 1 = .ok (.iconst 0, 1) := by decide +kernel
theorem dX5_undo_2 : decode cX5_undo 2 = .ok (.putfield 49, 3) := by decide +kernel
theorem dX5_undo_5 : decode cX5_undo 5 = .ok (.aload_n 0, 1) := by decide +kernel
theorem dX5_undo_6 : decode cX5_undo 6 = .ok (.getfield 61, 3) := by decide +kernel
theorem dX5_undo_9 : decode cX5_undo 9 = .ok (.ifCond .ne 9, 3) := by decide +kernel
theorem dX5_undo_12 : decode cX5_undo 12 = .ok (.aload_n 0, 1) := by decide +kernel
theorem dX5_undo_13 : decode cX5_undo 13 = .ok (.iconst 1, 1) := by decide +kernel
theorem dX5_undo_14 : decode cX5_undo 14 = .ok (.invokevirtual 64, 3) := by decide +kernel
theorem dX5_undo_17 : decode cX5_undo 17 = .ok (.ireturn, 1) := by decide +kernel
theorem dX5_undo_18 : decode cX5_undo 18 = .ok (.aload_n 0, 1) := by decide +kernel
theorem dX5_undo_19 : decode cX5_undo 19 = .ok (.dup, 1) := by decide +kernel
theorem dX5_undo_20 : decode cX5_undo 20 = .ok (.getfield 61, 3) := by decide +kernel
theorem dX5_undo_23 : decode cX5_undo 23 = .ok (.iconst 1, 1) := by decide +kernel
theorem dX5_undo_24 : decode cX5_undo 24 = .ok (.isub, 1) := by decide +kernel
theorem dX5_undo_25 : decode cX5_undo 25 = .ok (.putfield 61, 3) := by decide +kernel
theorem dX5_undo_28 : decode cX5_undo 28 = .ok (.iconst 0, 1) := by decide +kernel
theorem dX5_undo_29 : decode cX5_undo 29 = .ok (.istore_n 1, 1) := by decide +kernel
theorem dX5_undo_30 : decode cX5_undo 30 = .ok (.iload_n 1, 1) := by decide +kernel
theorem dX5_undo_31 : decode cX5_undo 31 = .ok (.sipush 425, 3) := by decide +kernel
theorem dX5_undo_34 : decode cX5_undo 34 = .ok (.if_icmp .ge 30, 3) := by decide +kernel
theorem dX5_undo_37 : decode cX5_undo 37 = .ok (.aload_n 0, 1) := by decide +kernel
theorem dX5_undo_38 : decode cX5_undo 38 = .ok (.getfield 7, 3) := by decide +kernel
theorem dX5_undo_41 : decode cX5_undo 41 = .ok (.iload_n 1, 1) := by decide +kernel
theorem dX5_undo_42 : decode cX5_undo 42 = .ok (.aload_n 0, 1) := by decide +kernel
theorem dX5_undo_43 : decode cX5_undo 43 = .ok (.getfield 13, 3) := by decide +kernel
theorem dX5_undo_46 : decode cX5_undo 46 = .ok (.sipush 425, 3) := by decide +kernel
theorem dX5_undo_49 : decode cX5_undo 49 = .ok (.aload_n 0, 1) := by decide +kernel
theorem dX5_undo_50 : decode cX5_undo 50 = .ok (.getfield 61, 3) := by decide +kernel
theorem dX5_undo_53 : decode cX5_undo 53 = .ok (.imul, 1) := by decide +kernel
theorem dX5_undo_54 : decode cX5_undo 54 = .ok (.iload_n 1, 1) := by decide +kernel
theorem dX5_undo_55 : decode cX5_undo 55 = .ok (.iadd, 1) := by decide +kernel
theorem dX5_undo_56 : decode cX5_undo 56 = .ok (.iaload, 1) := by decide +kernel
theorem dX5_undo_57 : decode cX5_undo 57 = .ok (.iastore, 1) := by decide +kernel
theorem dX5_undo_58 : decode cX5_undo 58 = .ok (.iinc 1 1, 3) := by decide +kernel
theorem dX5_undo_61 : decode cX5_undo 61 = .ok (.goto (-31), 3) := by decide +kernel
theorem dX5_undo_64 : decode cX5_undo 64 = .ok (.aload_n 0, 1) := by decide +kernel
theorem dX5_undo_65 : decode cX5_undo 65 = .ok (.getfield 61, 3) := by decide +kernel
theorem dX5_undo_68 : decode cX5_undo 68 = .ok (.ireturn, 1) := by decide +kernel
set_option maxRecDepth 20000 in
theorem ggX5_isAt_X5_in : GoodIn wsX5_isAt wsX5_in := goodIn_r _ [7] (by decide +kernel) (by decide +kernel)
set_option maxRecDepth 20000 in
theorem gX5_isAt_X5_in : GoodIn wsX5_isAt (va_wsS RX5 53 yX5_in wsX5_in) := goodIn_app (goodIn_of _ (by decide +kernel)) ggX5_isAt_X5_in
theorem dX5_isAt_0 : decode cX5_isAt 0 = .ok (.aload_n 0, 1) := by decide +kernel
theorem dX5_isAt_1 : decode cX5_isAt 1 = .ok (.getfield 68, 3) := by decide +kernel
theorem dX5_isAt_4 : decode cX5_isAt 4 = .ok (.aload_n 0, 1) := by decide +kernel
theorem dX5_isAt_5 : decode cX5_isAt 5 = .ok (.getfield 71, 3) := by decide +kernel
theorem dX5_isAt_8 : decode cX5_isAt 8 = .ok (.if_icmp .ge 24, 3) := by decide +kernel
theorem dX5_isAt_11 : decode cX5_isAt 11 = .ok (.aload_n 0, 1) := by decide +kernel
theorem dX5_isAt_12 : decode cX5_isAt 12 = .ok (.getfield 16, 3) := by decide +kernel
theorem dX5_isAt_15 : decode cX5_isAt 15 = .ok (.aload_n 0, 1) := by decide +kernel
theorem dX5_isAt_16 : decode cX5_isAt 16 = .ok (.getfield 68, 3) := by decide +kernel
theorem dX5_isAt_19 : decode cX5_isAt 19 = .ok (.iaload, 1) := by decide +kernel
theorem dX5_isAt_20 : decode cX5_isAt 20 = .ok (.iload_n 1, 1) := by decide +kernel
theorem dX5_isAt_21 : decode cX5_isAt 21 = .ok (.iload_n 2, 1) := by decide +kernel
theorem dX5_isAt_22 : decode cX5_isAt 22 = .ok (.invokestatic 53, 3) := by decide +kernel
theorem dX5_isAt_25 : decode cX5_isAt 25 = .ok (.ifCond .eq 7, 3) := by decide +kernel
theorem dX5_isAt_28 : decode cX5_isAt 28 = .ok (.iconst 1, 1) := by decide +kernel
theorem dX5_isAt_29 : decode cX5_isAt 29 = .ok (.goto 4, 3) := by decide +kernel
theorem dX5_isAt_32 : decode cX5_isAt 32 = .ok (.iconst 0, 1) := by decide +kernel
theorem dX5_isAt_33 : decode cX5_isAt 33 = .ok (.ireturn, 1) := by decide +kernel
theorem dX5_stops_0 : decode cX5_stops 0 = .ok (.aload_n 0, 1) := by decide +kernel
theorem dX5_stops_1 : decode cX5_stops 1 = .ok (.aload_n 0, 1) := by decide +kernel
theorem dX5_stops_2 : decode cX5_stops 2 = .ok (.getfield 68, 3) := by decide +kernel
theorem dX5_stops_5 : decode cX5_stops 5 = .ok (.aload_n 0, 1) := by decide +kernel
theorem dX5_stops_6 : decode cX5_stops 6 = .ok (.getfield 71, 3) := by decide +kernel
theorem dX5_stops_9 : decode cX5_stops 9 = .ok (.if_icmp .ge 7, 3) := by decide +kernel
theorem dX5_stops_12 : decode cX5_stops 12 = .ok (.iconst 1, 1) := by decide +kernel
theorem dX5_stops_13 : decode cX5_stops 13 = .ok (.goto 4, 3) := by decide +kernel
theorem dX5_stops_16 : decode cX5_stops 16 = .ok (.iconst 0, 1) := by decide +kernel
theorem dX5_stops_17 : decode cX5_stops 17 = .ok (.putfield 74, 3) := by decide +kernel
theorem dX5_stops_20 : decode cX5_stops 20 = .ok (.iconst 0, 1) := by decide +kernel
theorem dX5_stops_21 : decode cX5_stops 21 = .ok (.ireturn, 1) := by decide +kernel
set_option maxRecDepth 20000 in
theorem ggX5_isSign_X5_isAt : GoodIn wsX5_isSign wsX5_isAt := goodIn_r _ [6, 1, 7, 8, 9, 10, 5, 11, 12, 13, 14, 15, 16, 17, 18, 19, 20, 21, 22, 23, 24, 25, 26, 27, 28, 29, 30, 31, 32, 33, 34, 35, 36, 37] (by decide +kernel) (by decide +kernel)
set_option maxRecDepth 20000 in
theorem gX5_isSign_X5_isAt : GoodIn wsX5_isSign (wsV RX5 78 RX5 yX5_isAt wsX5_isAt) := goodIn_app (goodIn_of _ (by decide +kernel)) ggX5_isSign_X5_isAt
theorem dX5_isSign_0 : decode cX5_isSign 0 = .ok (.aload_n 0, 1) := by decide +kernel
theorem dX5_isSign_1 : decode cX5_isSign 1 = .ok (.iload_n 1, 1) := by decide +kernel
theorem dX5_isSign_2 : decode cX5_isSign 2 = .ok (.iload_n 1, 1) := by decide +kernel
theorem dX5_isSign_3 : decode cX5_isSign 3 = .ok (.invokevirtual 78, 3) := by decide +kernel
theorem dX5_isSign_6 : decode cX5_isSign 6 = .ok (.istore_n 2, 1) := by decide +kernel
theorem dX5_isSign_7 : decode cX5_isSign 7 = .ok (.aload_n 0, 1) := by decide +kernel
theorem dX5_isSign_8 : decode cX5_isSign 8 = .ok (.dup, 1) := by decide +kernel
theorem dX5_isSign_9 : decode cX5_isSign 9 = .ok (.getfield 68, 3) := by decide +kernel
theorem dX5_isSign_12 : decode cX5_isSign 12 = .ok (.iload_n 2, 1) := by decide +kernel
theorem dX5_isSign_13 : decode cX5_isSign 13 = .ok (.ifCond .eq 7, 3) := by decide +kernel
theorem dX5_isSign_16 : decode cX5_isSign 16 = .ok (.iconst 1, 1) := by decide +kernel
theorem dX5_isSign_17 : decode cX5_isSign 17 = .ok (.goto 4, 3) := by decide +kernel
theorem dX5_isSign_20 : decode cX5_isSign 20 = .ok (.iconst 0, 1) := by decide +kernel
theorem dX5_isSign_21 : decode cX5_isSign 21 = .ok (.iadd, 1) := by decide +kernel
theorem dX5_isSign_22 : decode cX5_isSign 22 = .ok (.putfield 68, 3) := by decide +kernel
theorem dX5_isSign_25 : decode cX5_isSign 25 = .ok (.iload_n 2, 1) := by decide +kernel
theorem dX5_isSign_26 : decode cX5_isSign 26 = .ok (.ireturn, 1) := by decide +kernel
theorem dX5_comes_0 : decode cX5_comes 0 = .ok (.aload_n 0, 1) := by decide +kernel
theorem dX5_comes_1 : decode cX5_comes 1 = .ok (.getfield 19, 3) := by decide +kernel
theorem dX5_comes_4 : decode cX5_comes 4 = .ok (.aload_n 0, 1) := by decide +kernel
theorem dX5_comes_5 : decode cX5_comes 5 = .ok (.getfield 82, 3) := by decide +kernel
theorem dX5_comes_8 : decode cX5_comes 8 = .ok (.iload_n 1, 1) := by decide +kernel
theorem dX5_comes_9 : decode cX5_comes 9 = .ok (.iastore, 1) := by decide +kernel
theorem dX5_comes_10 : decode cX5_comes 10 = .ok (.aload_n 0, 1) := by decide +kernel
theorem dX5_comes_11 : decode cX5_comes 11 = .ok (.getfield 22, 3) := by decide +kernel
theorem dX5_comes_14 : decode cX5_comes 14 = .ok (.aload_n 0, 1) := by decide +kernel
theorem dX5_comes_15 : decode cX5_comes 15 = .ok (.getfield 82, 3) := by decide +kernel
theorem dX5_comes_18 : decode cX5_comes 18 = .ok (.aload_n 0, 1) := by decide +kernel
theorem dX5_comes_19 : decode cX5_comes 19 = .ok (.getfield 85, 3) := by decide +kernel
theorem dX5_comes_22 : decode cX5_comes 22 = .ok (.ifCond .ne 7, 3) := by decide +kernel
theorem dX5_comes_25 : decode cX5_comes 25 = .ok (.iconst (-1), 1) := by decide +kernel
theorem dX5_comes_26 : decode cX5_comes 26 = .ok (.goto 14, 3) := by decide +kernel
theorem dX5_comes_29 : decode cX5_comes 29 = .ok (.aload_n 0, 1) := by decide +kernel
theorem dX5_comes_30 : decode cX5_comes 30 = .ok (.getfield 37, 3) := by decide +kernel
theorem dX5_comes_33 : decode cX5_comes 33 = .ok (.aload_n 0, 1) := by decide +kernel
theorem dX5_comes_34 : decode cX5_comes 34 = .ok (.getfield 85, 3) := by decide +kernel
theorem dX5_comes_37 : decode cX5_comes 37 = .ok (.iconst 1, 1) := by decide +kernel
theorem dX5_comes_38 : decode cX5_comes 38 = .ok (.isub, 1) := by decide +kernel
theorem dX5_comes_39 : decode cX5_comes 39 = .ok (.iaload, 1) := by decide +kernel
theorem dX5_comes_40 : decode cX5_comes 40 = .ok (.iastore, 1) := by decide +kernel
theorem dX5_comes_41 : decode cX5_comes 41 = .ok (.aload_n 0, 1) := by decide +kernel
theorem dX5_comes_42 : decode cX5_comes 42 = .ok (.getfield 25, 3) := by decide +kernel
theorem dX5_comes_45 : decode cX5_comes 45 = .ok (.aload_n 0, 1) := by decide +kernel
theorem dX5_comes_46 : decode cX5_comes 46 = .ok (.getfield 82, 3) := by decide +kernel
theorem dX5_comes_49 : decode cX5_comes 49 = .ok (.iload_n 2, 1) := by decide +kernel
theorem dX5_comes_50 : decode cX5_comes 50 = .ok (.iastore, 1) := by decide +kernel
theorem dX5_comes_51 : decode cX5_comes 51 = .ok (.aload_n 0, 1) := by decide +kernel
theorem dX5_comes_52 : decode cX5_comes 52 = .ok (.getfield 28, 3) := by decide +kernel
theorem dX5_comes_55 : decode cX5_comes 55 = .ok (.aload_n 0, 1) := by decide +kernel
theorem dX5_comes_56 : decode cX5_comes 56 = .ok (.getfield 82, 3) := by decide +kernel
theorem dX5_comes_59 : decode cX5_comes 59 = .ok (.iload_n 3, 1) := by decide +kernel
theorem dX5_comes_60 : decode cX5_comes 60 = .ok (.iastore, 1) := by decide +kernel
theorem dX5_comes_61 : decode cX5_comes 61 = .ok (.aload_n 0, 1) := by decide +kernel
theorem dX5_comes_62 : decode cX5_comes 62 = .ok (.getfield 34, 3) := by decide +kernel
theorem dX5_comes_65 : decode cX5_comes 65 = .ok (.aload_n 0, 1) := by decide +kernel
theorem dX5_comes_66 : decode cX5_comes 66 = .ok (.getfield 82, 3) := by decide +kernel
theorem dX5_comes_69 : decode cX5_comes 69 = .ok (.iconst 0, 1) := by decide +kernel
theorem dX5_comes_70 : decode cX5_comes 70 = .ok (.iastore, 1) := by decide +kernel
theorem dX5_comes_71 : decode cX5_comes 71 = .ok (.aload_n 0, 1) := by decide +kernel
theorem dX5_comes_72 : decode cX5_comes 72 = .ok (.dup, 1) := by decide +kernel
theorem dX5_comes_73 : decode cX5_comes 73 = .ok (.getfield 82, 3) := by decide +kernel
theorem dX5_comes_76 : decode cX5_comes 76 = .ok (.iconst 1, 1) := by decide +kernel
theorem dX5_comes_77 : decode cX5_comes 77 = .ok (.iadd, 1) := by decide +kernel
theorem dX5_comes_78 : decode cX5_comes 78 = .ok (.putfield 82, 3) := by decide +kernel
theorem dX5_comes_81 : decode cX5_comes 81 = .ok (.return_, 1) := by decide +kernel
set_option maxRecDepth 20000 in
theorem ggX5_isNumber_X5_isSign : GoodIn wsX5_isNumber wsX5_isSign := goodIn_r _ [6, 1, 7, 8, 9, 5, 10, 11, 12, 13, 14, 15, 33, 34, 35, 36, 37, 38, 39, 40, 41, 42, 43, 44, 45, 46, 47, 48, 49, 50, 51, 52, 53, 54, 55, 56, 57, 58] (by decide +kernel) (by decide +kernel)
set_option maxRecDepth 20000 in
theorem gX5_isNumber_X5_isSign : GoodIn wsX5_isNumber (wsV RX5 88 RX5 yX5_isSign wsX5_isSign) := goodIn_app (goodIn_of _ (by decide +kernel)) ggX5_isNumber_X5_isSign
set_option maxRecDepth 20000 in
theorem ggX5_isNumber_X5_isAt : GoodIn wsX5_isNumber wsX5_isAt := goodIn_r _ [10, 1, 11, 12, 13, 14, 5, 15, 33, 34, 35, 36, 37, 38, 39, 40, 41, 42, 43, 44, 45, 46, 47, 48, 49, 50, 51, 52, 53, 54, 55, 56, 57, 58] (by decide +kernel) (by decide +kernel)
set_option maxRecDepth 20000 in
theorem gX5_isNumber_X5_isAt : GoodIn wsX5_isNumber (wsV RX5 78 RX5 yX5_isAt wsX5_isAt) := goodIn_app (goodIn_of _ (by decide +kernel)) ggX5_isNumber_X5_isAt
set_option maxRecDepth 20000 in
theorem ggX5_isNumber_X5_stops : GoodIn wsX5_isNumber wsX5_stops := goodIn_r _ [19, 1, 11, 20, 33, 34, 35, 36, 37, 38, 39, 40, 41, 42, 43, 44, 45, 46, 47, 48, 49, 50, 51, 52, 53, 54, 55, 56, 57, 58] (by decide +kernel) (by decide +kernel)
set_option maxRecDepth 20000 in
theorem gX5_isNumber_X5_stops : GoodIn wsX5_isNumber (wsV RX5 91 RX5 yX5_stops wsX5_stops) := goodIn_app (goodIn_of _ (by decide +kernel)) ggX5_isNumber_X5_stops
set_option maxRecDepth 20000 in
theorem ggX5_isNumber_X5_comes : GoodIn wsX5_isNumber wsX5_comes := goodIn_r _ [24, 25, 26, 27, 28, 29, 30, 31, 32, 33, 34, 35, 36, 37, 38, 39, 40, 41, 42, 43, 44, 45, 46, 47, 48, 49, 50, 51, 52, 53, 54, 55, 56, 57, 58] (by decide +kernel) (by decide +kernel)
set_option maxRecDepth 20000 in
theorem gX5_isNumber_X5_comes : GoodIn wsX5_isNumber (wsV RX5 95 RX5 yX5_comes wsX5_comes) := goodIn_app (goodIn_of _ (by decide +kernel)) ggX5_isNumber_X5_comes
theorem dX5_isNumber_0 : decode cX5_isNumber 0 = .ok (.aload_n 0, 1) := by decide +kernel
theorem dX5_isNumber_1 : decode cX5_isNumber 1 = .ok (.getfield 68, 3) := by decide +kernel
theorem dX5_isNumber_4 : decode cX5_isNumber 4 = .ok (.istore_n 2, 1) := by decide +kernel
theorem dX5_isNumber_5 : decode cX5_isNumber 5 = .ok (.aload_n 0, 1) := by decide +kernel
theorem dX5_isNumber_6 : decode cX5_isNumber 6 = .ok (.bipush 45, 2) := by decide +kernel
theorem dX5_isNumber_8 : decode cX5_isNumber 8 = .ok (.invokevirtual 88, 3) := by decide +kernel
theorem dX5_isNumber_11 : decode cX5_isNumber 11 = .ok (.istore_n 3, 1) := by decide +kernel
theorem dX5_isNumber_12 : decode cX5_isNumber 12 = .ok (.aload_n 0, 1) := by decide +kernel
theorem dX5_isNumber_13 : decode cX5_isNumber 13 = .ok (.bipush 48, 2) := by decide +kernel
theorem dX5_isNumber_15 : decode cX5_isNumber 15 = .ok (.bipush 57, 2) := by decide +kernel
theorem dX5_isNumber_17 : decode cX5_isNumber 17 = .ok (.invokevirtual 78, 3) := by decide +kernel
theorem dX5_isNumber_20 : decode cX5_isNumber 20 = .ok (.ifCond .ne 8, 3) := by decide +kernel
theorem dX5_isNumber_23 : decode cX5_isNumber 23 = .ok (.aload_n 0, 1) := by decide +kernel
theorem dX5_isNumber_24 : decode cX5_isNumber 24 = .ok (.invokevirtual 91, 3) := by decide +kernel
theorem dX5_isNumber_27 : decode cX5_isNumber 27 = .ok (.ireturn, 1) := by decide +kernel
theorem dX5_isNumber_28 : decode cX5_isNumber 28 = .ok (.aload_n 0, 1) := by decide +kernel
theorem dX5_isNumber_29 : decode cX5_isNumber 29 = .ok (.bipush 48, 2) := by decide +kernel
theorem dX5_isNumber_31 : decode cX5_isNumber 31 = .ok (.bipush 48, 2) := by decide +kernel
theorem dX5_isNumber_33 : decode cX5_isNumber 33 = .ok (.invokevirtual 78, 3) := by decide +kernel
theorem dX5_isNumber_36 : decode cX5_isNumber 36 = .ok (.istore 4, 2) := by decide +kernel
theorem dX5_isNumber_38 : decode cX5_isNumber 38 = .ok (.aload_n 0, 1) := by decide +kernel
theorem dX5_isNumber_39 : decode cX5_isNumber 39 = .ok (.dup, 1) := by decide +kernel
theorem dX5_isNumber_40 : decode cX5_isNumber 40 = .ok (.getfield 68, 3) := by decide +kernel
theorem dX5_isNumber_43 : decode cX5_isNumber 43 = .ok (.iconst 1, 1) := by decide +kernel
theorem dX5_isNumber_44 : decode cX5_isNumber 44 = .ok (.iadd, 1) := by decide +kernel
theorem dX5_isNumber_45 : decode cX5_isNumber 45 = .ok (.putfield 68, 3) := by decide +kernel
theorem dX5_isNumber_48 : decode cX5_isNumber 48 = .ok (.iconst 1, 1) := by decide +kernel
theorem dX5_isNumber_49 : decode cX5_isNumber 49 = .ok (.istore 5, 2) := by decide +kernel
theorem dX5_isNumber_51 : decode cX5_isNumber 51 = .ok (.iload 5, 2) := by decide +kernel
theorem dX5_isNumber_53 : decode cX5_isNumber 53 = .ok (.iconst 4, 1) := by decide +kernel
theorem dX5_isNumber_54 : decode cX5_isNumber 54 = .ok (.if_icmp .ge 35, 3) := by decide +kernel
theorem dX5_isNumber_57 : decode cX5_isNumber 57 = .ok (.iload 4, 2) := by decide +kernel
theorem dX5_isNumber_59 : decode cX5_isNumber 59 = .ok (.ifCond .ne 30, 3) := by decide +kernel
theorem dX5_isNumber_62 : decode cX5_isNumber 62 = .ok (.aload_n 0, 1) := by decide +kernel
theorem dX5_isNumber_63 : decode cX5_isNumber 63 = .ok (.bipush 48, 2) := by decide +kernel
theorem dX5_isNumber_65 : decode cX5_isNumber 65 = .ok (.bipush 57, 2) := by decide +kernel
theorem dX5_isNumber_67 : decode cX5_isNumber 67 = .ok (.invokevirtual 78, 3) := by decide +kernel
theorem dX5_isNumber_70 : decode cX5_isNumber 70 = .ok (.ifCond .eq 19, 3) := by decide +kernel
theorem dX5_isNumber_73 : decode cX5_isNumber 73 = .ok (.aload_n 0, 1) := by decide +kernel
theorem dX5_isNumber_74 : decode cX5_isNumber 74 = .ok (.dup, 1) := by decide +kernel
theorem dX5_isNumber_75 : decode cX5_isNumber 75 = .ok (.getfield 68, 3) := by decide +kernel
theorem dX5_isNumber_78 : decode cX5_isNumber 78 = .ok (.iconst 1, 1) := by decide +kernel
theorem dX5_isNumber_79 : decode cX5_isNumber 79 = .ok (.iadd, 1) := by decide +kernel
theorem dX5_isNumber_80 : decode cX5_isNumber 80 = .ok (.putfield 68, 3) := by decide +kernel
theorem dX5_isNumber_83 : decode cX5_isNumber 83 = .ok (.iinc 5 1, 3) := by decide +kernel
theorem dX5_isNumber_86 : decode cX5_isNumber 86 = .ok (.goto (-35), 3) := by decide +kernel
theorem dX5_isNumber_89 : decode cX5_isNumber 89 = .ok (.iload 4, 2) := by decide +kernel
theorem dX5_isNumber_91 : decode cX5_isNumber 91 = .ok (.ifCond .eq 23, 3) := by decide +kernel
theorem dX5_isNumber_94 : decode cX5_isNumber 94 = .ok (.iload_n 3, 1) := by decide +kernel
theorem dX5_isNumber_95 : decode cX5_isNumber 95 = .ok (.ifCond .eq 19, 3) := by decide +kernel
theorem dX5_isNumber_98 : decode cX5_isNumber 98 = .ok (.aload_n 0, 1) := by decide +kernel
theorem dX5_isNumber_99 : decode cX5_isNumber 99 = .ok (.bipush 46, 2) := by decide +kernel
theorem dX5_isNumber_101 : decode cX5_isNumber 101 = .ok (.bipush 46, 2) := by decide +kernel
theorem dX5_isNumber_103 : decode cX5_isNumber 103 = .ok (.invokevirtual 78, 3) := by decide +kernel
theorem dX5_isNumber_106 : decode cX5_isNumber 106 = .ok (.ifCond .ne 8, 3) := by decide +kernel
theorem dX5_isNumber_109 : decode cX5_isNumber 109 = .ok (.aload_n 0, 1) := by decide +kernel
theorem dX5_isNumber_110 : decode cX5_isNumber 110 = .ok (.invokevirtual 91, 3) := by decide +kernel
theorem dX5_isNumber_113 : decode cX5_isNumber 113 = .ok (.ireturn, 1) := by decide +kernel
theorem dX5_isNumber_114 : decode cX5_isNumber 114 = .ok (.aload_n 0, 1) := by decide +kernel
theorem dX5_isNumber_115 : decode cX5_isNumber 115 = .ok (.bipush 46, 2) := by decide +kernel
theorem dX5_isNumber_117 : decode cX5_isNumber 117 = .ok (.invokevirtual 88, 3) := by decide +kernel
theorem dX5_isNumber_120 : decode cX5_isNumber 120 = .ok (.istore 5, 2) := by decide +kernel
theorem dX5_isNumber_122 : decode cX5_isNumber 122 = .ok (.iload 5, 2) := by decide +kernel
theorem dX5_isNumber_124 : decode cX5_isNumber 124 = .ok (.ifCond .eq 54, 3) := by decide +kernel
theorem dX5_isNumber_127 : decode cX5_isNumber 127 = .ok (.aload_n 0, 1) := by decide +kernel
theorem dX5_isNumber_128 : decode cX5_isNumber 128 = .ok (.bipush 48, 2) := by decide +kernel
theorem dX5_isNumber_130 : decode cX5_isNumber 130 = .ok (.bipush 57, 2) := by decide +kernel
theorem dX5_isNumber_132 : decode cX5_isNumber 132 = .ok (.invokevirtual 78, 3) := by decide +kernel
theorem dX5_isNumber_135 : decode cX5_isNumber 135 = .ok (.ifCond .ne 8, 3) := by decide +kernel
theorem dX5_isNumber_138 : decode cX5_isNumber 138 = .ok (.aload_n 0, 1) := by decide +kernel
theorem dX5_isNumber_139 : decode cX5_isNumber 139 = .ok (.invokevirtual 91, 3) := by decide +kernel
theorem dX5_isNumber_142 : decode cX5_isNumber 142 = .ok (.ireturn, 1) := by decide +kernel
theorem dX5_isNumber_143 : decode cX5_isNumber 143 = .ok (.aload_n 0, 1) := by decide +kernel
theorem dX5_isNumber_144 : decode cX5_isNumber 144 = .ok (.dup, 1) := by decide +kernel
theorem dX5_isNumber_145 : decode cX5_isNumber 145 = .ok (.getfield 68, 3) := by decide +kernel
theorem dX5_isNumber_148 : decode cX5_isNumber 148 = .ok (.iconst 1, 1) := by decide +kernel
theorem dX5_isNumber_149 : decode cX5_isNumber 149 = .ok (.iadd, 1) := by decide +kernel
theorem dX5_isNumber_150 : decode cX5_isNumber 150 = .ok (.putfield 68, 3) := by decide +kernel
theorem dX5_isNumber_153 : decode cX5_isNumber 153 = .ok (.aload_n 0, 1) := by decide +kernel
theorem dX5_isNumber_154 : decode cX5_isNumber 154 = .ok (.dup, 1) := by decide +kernel
theorem dX5_isNumber_155 : decode cX5_isNumber 155 = .ok (.getfield 68, 3) := by decide +kernel
theorem dX5_isNumber_158 : decode cX5_isNumber 158 = .ok (.aload_n 0, 1) := by decide +kernel
theorem dX5_isNumber_159 : decode cX5_isNumber 159 = .ok (.bipush 48, 2) := by decide +kernel
theorem dX5_isNumber_161 : decode cX5_isNumber 161 = .ok (.bipush 57, 2) := by decide +kernel
theorem dX5_isNumber_163 : decode cX5_isNumber 163 = .ok (.invokevirtual 78, 3) := by decide +kernel
theorem dX5_isNumber_166 : decode cX5_isNumber 166 = .ok (.ifCond .eq 7, 3) := by decide +kernel
theorem dX5_isNumber_169 : decode cX5_isNumber 169 = .ok (.iconst 1, 1) := by decide +kernel
theorem dX5_isNumber_170 : decode cX5_isNumber 170 = .ok (.goto 4, 3) := by decide +kernel
theorem dX5_isNumber_173 : decode cX5_isNumber 173 = .ok (.iconst 0, 1) := by decide +kernel
theorem dX5_isNumber_174 : decode cX5_isNumber 174 = .ok (.iadd, 1) := by decide +kernel
theorem dX5_isNumber_175 : decode cX5_isNumber 175 = .ok (.putfield 68, 3) := by decide +kernel
theorem dX5_isNumber_178 : decode cX5_isNumber 178 = .ok (.aload_n 0, 1) := by decide +kernel
theorem dX5_isNumber_179 : decode cX5_isNumber 179 = .ok (.iload 5, 2) := by decide +kernel
theorem dX5_isNumber_181 : decode cX5_isNumber 181 = .ok (.ifCond .eq 7, 3) := by decide +kernel
theorem dX5_isNumber_184 : decode cX5_isNumber 184 = .ok (.iconst 3, 1) := by decide +kernel
theorem dX5_isNumber_185 : decode cX5_isNumber 185 = .ok (.goto 4, 3) := by decide +kernel
theorem dX5_isNumber_188 : decode cX5_isNumber 188 = .ok (.iconst 2, 1) := by decide +kernel
theorem dX5_isNumber_189 : decode cX5_isNumber 189 = .ok (.iload_n 1, 1) := by decide +kernel
theorem dX5_isNumber_190 : decode cX5_isNumber 190 = .ok (.iload_n 2, 1) := by decide +kernel
theorem dX5_isNumber_191 : decode cX5_isNumber 191 = .ok (.invokevirtual 95, 3) := by decide +kernel
theorem dX5_isNumber_194 : decode cX5_isNumber 194 = .ok (.iconst 1, 1) := by decide +kernel
theorem dX5_isNumber_195 : decode cX5_isNumber 195 = .ok (.ireturn, 1) := by decide +kernel
set_option maxRecDepth 20000 in
theorem ggX5_isWord_X5_isAt : GoodIn wsX5_isWord wsX5_isAt := goodIn_r _ [6, 1, 7, 8, 9, 10, 5, 11, 33, 34, 35, 36, 37, 38, 39, 40, 41, 42, 43, 44, 45, 46, 47, 48, 49, 50, 51, 52, 53, 54, 55, 56, 57, 58] (by decide +kernel) (by decide +kernel)
set_option maxRecDepth 20000 in
theorem gX5_isWord_X5_isAt : GoodIn wsX5_isWord (wsV RX5 78 RX5 yX5_isAt wsX5_isAt) := goodIn_app (goodIn_of _ (by decide +kernel)) ggX5_isWord_X5_isAt
set_option maxRecDepth 20000 in
theorem ggX5_isWord_X5_stops : GoodIn wsX5_isWord wsX5_stops := goodIn_r _ [15, 1, 7, 16, 33, 34, 35, 36, 37, 38, 39, 40, 41, 42, 43, 44, 45, 46, 47, 48, 49, 50, 51, 52, 53, 54, 55, 56, 57, 58] (by decide +kernel) (by decide +kernel)
set_option maxRecDepth 20000 in
theorem gX5_isWord_X5_stops : GoodIn wsX5_isWord (wsV RX5 91 RX5 yX5_stops wsX5_stops) := goodIn_app (goodIn_of _ (by decide +kernel)) ggX5_isWord_X5_stops
set_option maxRecDepth 20000 in
theorem ggX5_isWord_X5_isSign : GoodIn wsX5_isWord wsX5_isSign := goodIn_r _ [20, 1, 2, 3, 4, 5, 6, 7, 8, 9, 10, 11, 33, 34, 35, 36, 37, 38, 39, 40, 41, 42, 43, 44, 45, 46, 47, 48, 49, 50, 51, 52, 53, 54, 55, 56, 57, 58] (by decide +kernel) (by decide +kernel)
set_option maxRecDepth 20000 in
theorem gX5_isWord_X5_isSign : GoodIn wsX5_isWord (wsV RX5 88 RX5 yX5_isSign wsX5_isSign) := goodIn_app (goodIn_of _ (by decide +kernel)) ggX5_isWord_X5_isSign
set_option maxRecDepth 20000 in
theorem ggX5_isWord_X5_comes : GoodIn wsX5_isWord wsX5_comes := goodIn_r _ [24, 25, 26, 27, 28, 29, 30, 31, 32, 33, 34, 35, 36, 37, 38, 39, 40, 41, 42, 43, 44, 45, 46, 47, 48, 49, 50, 51, 52, 53, 54, 55, 56, 57, 58] (by decide +kernel) (by decide +kernel)
set_option maxRecDepth 20000 in
theorem gX5_isWord_X5_comes : GoodIn wsX5_isWord (wsV RX5 95 RX5 yX5_comes wsX5_comes) := goodIn_app (goodIn_of _ (by decide +kernel)) ggX5_isWord_X5_comes
theorem dX5_isWord_0 : decode cX5_isWord 0 = .ok (.aload_n 0, 1) := by decide +kernel
theorem dX5_isWord_1 : decode cX5_isWord 1 = .ok (.getfield 68, 3) := by decide +kernel
theorem dX5_isWord_4 : decode cX5_isWord 4 = .ok (.istore_n 2, 1) := by decide +kernel
theorem dX5_isWord_5 : decode cX5_isWord 5 = .ok (.aload_n 0, 1) := by decide +kernel
theorem dX5_isWord_6 : decode cX5_isWord 6 = .ok (.dup, 1) := by decide +kernel
theorem dX5_isWord_7 : decode cX5_isWord 7 = .ok (.getfield 68, 3) := by decide +kernel
theorem dX5_isWord_10 : decode cX5_isWord 10 = .ok (.iconst 1, 1) := by decide +kernel
theorem dX5_isWord_11 : decode cX5_isWord 11 = .ok (.iadd, 1) := by decide +kernel
theorem dX5_isWord_12 : decode cX5_isWord 12 = .ok (.putfield 68, 3) := by decide +kernel
theorem dX5_isWord_15 : decode cX5_isWord 15 = .ok (.aload_n 0, 1) := by decide +kernel
theorem dX5_isWord_16 : decode cX5_isWord 16 = .ok (.bipush 97, 2) := by decide +kernel
theorem dX5_isWord_18 : decode cX5_isWord 18 = .ok (.bipush 122, 2) := by decide +kernel
theorem dX5_isWord_20 : decode cX5_isWord 20 = .ok (.invokevirtual 78, 3) := by decide +kernel
theorem dX5_isWord_23 : decode cX5_isWord 23 = .ok (.ifCond .ne 8, 3) := by decide +kernel
theorem dX5_isWord_26 : decode cX5_isWord 26 = .ok (.aload_n 0, 1) := by decide +kernel
theorem dX5_isWord_27 : decode cX5_isWord 27 = .ok (.invokevirtual 91, 3) := by decide +kernel
theorem dX5_isWord_30 : decode cX5_isWord 30 = .ok (.ireturn, 1) := by decide +kernel
theorem dX5_isWord_31 : decode cX5_isWord 31 = .ok (.iconst 0, 1) := by decide +kernel
theorem dX5_isWord_32 : decode cX5_isWord 32 = .ok (.istore_n 3, 1) := by decide +kernel
theorem dX5_isWord_33 : decode cX5_isWord 33 = .ok (.iload_n 3, 1) := by decide +kernel
theorem dX5_isWord_34 : decode cX5_isWord 34 = .ok (.iconst 5, 1) := by decide +kernel
theorem dX5_isWord_35 : decode cX5_isWord 35 = .ok (.if_icmp .ge 30, 3) := by decide +kernel
theorem dX5_isWord_38 : decode cX5_isWord 38 = .ok (.aload_n 0, 1) := by decide +kernel
theorem dX5_isWord_39 : decode cX5_isWord 39 = .ok (.bipush 97, 2) := by decide +kernel
theorem dX5_isWord_41 : decode cX5_isWord 41 = .ok (.bipush 122, 2) := by decide +kernel
theorem dX5_isWord_43 : decode cX5_isWord 43 = .ok (.invokevirtual 78, 3) := by decide +kernel
theorem dX5_isWord_46 : decode cX5_isWord 46 = .ok (.ifCond .eq 19, 3) := by decide +kernel
theorem dX5_isWord_49 : decode cX5_isWord 49 = .ok (.aload_n 0, 1) := by decide +kernel
theorem dX5_isWord_50 : decode cX5_isWord 50 = .ok (.dup, 1) := by decide +kernel
theorem dX5_isWord_51 : decode cX5_isWord 51 = .ok (.getfield 68, 3) := by decide +kernel
theorem dX5_isWord_54 : decode cX5_isWord 54 = .ok (.iconst 1, 1) := by decide +kernel
theorem dX5_isWord_55 : decode cX5_isWord 55 = .ok (.iadd, 1) := by decide +kernel
theorem dX5_isWord_56 : decode cX5_isWord 56 = .ok (.putfield 68, 3) := by decide +kernel
theorem dX5_isWord_59 : decode cX5_isWord 59 = .ok (.iinc 3 1, 3) := by decide +kernel
theorem dX5_isWord_62 : decode cX5_isWord 62 = .ok (.goto (-29), 3) := by decide +kernel
theorem dX5_isWord_65 : decode cX5_isWord 65 = .ok (.aload_n 0, 1) := by decide +kernel
theorem dX5_isWord_66 : decode cX5_isWord 66 = .ok (.bipush 39, 2) := by decide +kernel
theorem dX5_isWord_68 : decode cX5_isWord 68 = .ok (.invokevirtual 88, 3) := by decide +kernel
theorem dX5_isWord_71 : decode cX5_isWord 71 = .ok (.ifCond .ne 8, 3) := by decide +kernel
theorem dX5_isWord_74 : decode cX5_isWord 74 = .ok (.aload_n 0, 1) := by decide +kernel
theorem dX5_isWord_75 : decode cX5_isWord 75 = .ok (.invokevirtual 91, 3) := by decide +kernel
theorem dX5_isWord_78 : decode cX5_isWord 78 = .ok (.ireturn, 1) := by decide +kernel
theorem dX5_isWord_79 : decode cX5_isWord 79 = .ok (.aload_n 0, 1) := by decide +kernel
theorem dX5_isWord_80 : decode cX5_isWord 80 = .ok (.iconst 4, 1) := by decide +kernel
theorem dX5_isWord_81 : decode cX5_isWord 81 = .ok (.iload_n 1, 1) := by decide +kernel
theorem dX5_isWord_82 : decode cX5_isWord 82 = .ok (.iload_n 2, 1) := by decide +kernel
theorem dX5_isWord_83 : decode cX5_isWord 83 = .ok (.invokevirtual 95, 3) := by decide +kernel
theorem dX5_isWord_86 : decode cX5_isWord 86 = .ok (.iconst 1, 1) := by decide +kernel
theorem dX5_isWord_87 : decode cX5_isWord 87 = .ok (.ireturn, 1) := by decide +kernel
set_option maxRecDepth 20000 in
theorem ggX5_opens_X5_stops : GoodIn wsX5_opens wsX5_stops := goodIn_r _ [10, 2, 11, 12, 22, 23, 24, 25, 26, 27, 28, 29, 30, 31, 32, 33, 34, 35, 36, 37, 38, 39, 40, 41, 42, 43, 44, 45, 46, 47] (by decide +kernel) (by decide +kernel)
set_option maxRecDepth 20000 in
theorem gX5_opens_X5_stops : GoodIn wsX5_opens (wsV RX5 91 RX5 yX5_stops wsX5_stops) := goodIn_app (goodIn_of _ (by decide +kernel)) ggX5_opens_X5_stops
set_option maxRecDepth 20000 in
theorem ggX5_opens_X5_comes : GoodIn wsX5_opens wsX5_comes := goodIn_r _ [16, 17, 4, 18, 1, 3, 19, 20, 21, 22, 23, 24, 25, 26, 27, 28, 29, 30, 31, 32, 33, 34, 35, 36, 37, 38, 39, 40, 41, 42, 43, 44, 45, 46, 47] (by decide +kernel) (by decide +kernel)
set_option maxRecDepth 20000 in
theorem gX5_opens_X5_comes : GoodIn wsX5_opens (wsV RX5 95 RX5 yX5_comes wsX5_comes) := goodIn_app (goodIn_of _ (by decide +kernel)) ggX5_opens_X5_comes
theorem dX5_opens_0 : decode cX5_opens 0 = .ok (.aload_n 0, 1) := by decide +kernel
theorem dX5_opens_1 : decode cX5_opens 1 = .ok (.getfield 85, 3) := by decide +kernel
theorem dX5_opens_4 : decode cX5_opens 4 = .ok (.iconst 4, 1) := by decide +kernel
theorem dX5_opens_5 : decode cX5_opens 5 = .ok (.if_icmp .ne 8, 3) := by decide +kernel
theorem dX5_opens_8 : decode cX5_opens 8 = .ok (.aload_n 0, 1) := by decide +kernel
theorem dX5_opens_9 : decode cX5_opens 9 = .ok (.invokevirtual 91, 3) := by decide +kernel
theorem dX5_opens_12 : decode cX5_opens 12 = .ok (.ireturn, 1) := by decide +kernel
theorem dX5_opens_13 : decode cX5_opens 13 = .ok (.aload_n 0, 1) := by decide +kernel
theorem dX5_opens_14 : decode cX5_opens 14 = .ok (.iload_n 1, 1) := by decide +kernel
theorem dX5_opens_15 : decode cX5_opens 15 = .ok (.iload_n 2, 1) := by decide +kernel
theorem dX5_opens_16 : decode cX5_opens 16 = .ok (.aload_n 0, 1) := by decide +kernel
theorem dX5_opens_17 : decode cX5_opens 17 = .ok (.getfield 68, 3) := by decide +kernel
theorem dX5_opens_20 : decode cX5_opens 20 = .ok (.invokevirtual 95, 3) := by decide +kernel
theorem dX5_opens_23 : decode cX5_opens 23 = .ok (.aload_n 0, 1) := by decide +kernel
theorem dX5_opens_24 : decode cX5_opens 24 = .ok (.dup, 1) := by decide +kernel
theorem dX5_opens_25 : decode cX5_opens 25 = .ok (.getfield 68, 3) := by decide +kernel
theorem dX5_opens_28 : decode cX5_opens 28 = .ok (.iconst 1, 1) := by decide +kernel
theorem dX5_opens_29 : decode cX5_opens 29 = .ok (.iadd, 1) := by decide +kernel
theorem dX5_opens_30 : decode cX5_opens 30 = .ok (.putfield 68, 3) := by decide +kernel
theorem dX5_opens_33 : decode cX5_opens 33 = .ok (.aload_n 0, 1) := by decide +kernel
theorem dX5_opens_34 : decode cX5_opens 34 = .ok (.getfield 37, 3) := by decide +kernel
theorem dX5_opens_37 : decode cX5_opens 37 = .ok (.aload_n 0, 1) := by decide +kernel
theorem dX5_opens_38 : decode cX5_opens 38 = .ok (.getfield 85, 3) := by decide +kernel
theorem dX5_opens_41 : decode cX5_opens 41 = .ok (.aload_n 0, 1) := by decide +kernel
theorem dX5_opens_42 : decode cX5_opens 42 = .ok (.getfield 82, 3) := by decide +kernel
theorem dX5_opens_45 : decode cX5_opens 45 = .ok (.iconst 1, 1) := by decide +kernel
theorem dX5_opens_46 : decode cX5_opens 46 = .ok (.isub, 1) := by decide +kernel
theorem dX5_opens_47 : decode cX5_opens 47 = .ok (.iastore, 1) := by decide +kernel
theorem dX5_opens_48 : decode cX5_opens 48 = .ok (.aload_n 0, 1) := by decide +kernel
theorem dX5_opens_49 : decode cX5_opens 49 = .ok (.dup, 1) := by decide +kernel
theorem dX5_opens_50 : decode cX5_opens 50 = .ok (.getfield 85, 3) := by decide +kernel
theorem dX5_opens_53 : decode cX5_opens 53 = .ok (.iconst 1, 1) := by decide +kernel
theorem dX5_opens_54 : decode cX5_opens 54 = .ok (.iadd, 1) := by decide +kernel
theorem dX5_opens_55 : decode cX5_opens 55 = .ok (.putfield 85, 3) := by decide +kernel
theorem dX5_opens_58 : decode cX5_opens 58 = .ok (.aload_n 0, 1) := by decide +kernel
theorem dX5_opens_59 : decode cX5_opens 59 = .ok (.aload_n 0, 1) := by decide +kernel
theorem dX5_opens_60 : decode cX5_opens 60 = .ok (.getfield 85, 3) := by decide +kernel
theorem dX5_opens_63 : decode cX5_opens 63 = .ok (.aload_n 0, 1) := by decide +kernel
theorem dX5_opens_64 : decode cX5_opens 64 = .ok (.getfield 99, 3) := by decide +kernel
theorem dX5_opens_67 : decode cX5_opens 67 = .ok (.if_icmp .le 10, 3) := by decide +kernel
theorem dX5_opens_70 : decode cX5_opens 70 = .ok (.aload_n 0, 1) := by decide +kernel
theorem dX5_opens_71 : decode cX5_opens 71 = .ok (.getfield 85, 3) := by decide +kernel
theorem dX5_opens_74 : decode cX5_opens 74 = .ok (.goto 7, 3) := by decide +kernel
theorem dX5_opens_77 : decode cX5_opens 77 = .ok (.aload_n 0, 1) := by decide +kernel
theorem dX5_opens_78 : decode cX5_opens 78 = .ok (.getfield 99, 3) := by decide +kernel
theorem dX5_opens_81 : decode cX5_opens 81 = .ok (.putfield 99, 3) := by decide +kernel
theorem dX5_opens_84 : decode cX5_opens 84 = .ok (.iconst 1, 1) := by decide +kernel
theorem dX5_opens_85 : decode cX5_opens 85 = .ok (.ireturn, 1) := by decide +kernel
set_option maxRecDepth 20000 in
theorem ggX5_isValue_X5_comes : GoodIn wsX5_isValue wsX5_comes := goodIn_r _ [8, 9, 10, 11, 12, 13, 14, 15, 16, 46, 47, 48, 49, 50, 51, 52, 53, 54, 55, 56, 57, 58, 59, 60, 61, 62, 63, 64, 65, 66, 67, 68, 69, 70, 71] (by decide +kernel) (by decide +kernel)
set_option maxRecDepth 20000 in
theorem gX5_isValue_X5_comes : GoodIn wsX5_isValue (wsV RX5 95 RX5 yX5_comes wsX5_comes) := goodIn_app (goodIn_of _ (by decide +kernel)) ggX5_isValue_X5_comes
set_option maxRecDepth 20000 in
theorem ggX5_isValue_X5_isWord : GoodIn wsX5_isValue wsX5_isWord := goodIn_r _ [20, 1, 21, 22, 23, 7, 24, 2, 3, 25, 26, 27, 28, 29, 30, 31, 32, 33, 34, 35, 36, 4, 5, 6, 8, 9, 10, 11, 12, 13, 14, 15, 16, 46, 47, 48, 49, 50, 51, 52, 53, 54, 55, 56, 57, 58, 59, 60, 61, 62, 63, 64, 65, 66, 67, 68, 69, 70, 71] (by decide +kernel) (by decide +kernel)
set_option maxRecDepth 20000 in
theorem gX5_isValue_X5_isWord : GoodIn wsX5_isValue (wsV RX5 102 RX5 yX5_isWord wsX5_isWord) := goodIn_app (goodIn_of _ (by decide +kernel)) ggX5_isValue_X5_isWord
set_option maxRecDepth 20000 in
theorem ggX5_isValue_X5_opens : GoodIn wsX5_isValue wsX5_opens := goodIn_r _ [40, 12, 1, 13, 10, 41, 28, 29, 30, 7, 31, 2, 32, 4, 5, 6, 8, 9, 11, 14, 15, 16, 46, 47, 48, 49, 50, 51, 52, 53, 54, 55, 56, 57, 58, 59, 60, 61, 62, 63, 64, 65, 66, 67, 68, 69, 70, 71] (by decide +kernel) (by decide +kernel)
set_option maxRecDepth 20000 in
theorem gX5_isValue_X5_opens : GoodIn wsX5_isValue (wsV RX5 105 RX5 yX5_opens wsX5_opens) := goodIn_app (goodIn_of _ (by decide +kernel)) ggX5_isValue_X5_opens
set_option maxRecDepth 20000 in
theorem ggX5_isValue_X5_in : GoodIn wsX5_isValue wsX5_in := goodIn_r _ [27] (by decide +kernel) (by decide +kernel)
set_option maxRecDepth 20000 in
theorem gX5_isValue_X5_in : GoodIn wsX5_isValue (va_wsS RX5 53 yX5_in wsX5_in) := goodIn_app (goodIn_of _ (by decide +kernel)) ggX5_isValue_X5_in
set_option maxRecDepth 20000 in
theorem ggX5_isValue_X5_isNumber : GoodIn wsX5_isValue wsX5_isNumber := goodIn_r _ [45, 1, 33, 34, 35, 7, 36, 21, 22, 23, 24, 2, 3, 25, 26, 27, 28, 29, 30, 31, 32, 4, 5, 6, 8, 9, 10, 11, 12, 13, 14, 15, 16, 46, 47, 48, 49, 50, 51, 52, 53, 54, 55, 56, 57, 58, 59, 60, 61, 62, 63, 64, 65, 66, 67, 68, 69, 70, 71] (by decide +kernel) (by decide +kernel)
set_option maxRecDepth 20000 in
theorem gX5_isValue_X5_isNumber : GoodIn wsX5_isValue (wsV RX5 108 RX5 yX5_isNumber wsX5_isNumber) := goodIn_app (goodIn_of _ (by decide +kernel)) ggX5_isValue_X5_isNumber
set_option maxRecDepth 20000 in
theorem ggX5_isValue_X5_stops : GoodIn wsX5_isValue wsX5_stops := goodIn_r _ [31, 1, 2, 32, 46, 47, 48, 49, 50, 51, 52, 53, 54, 55, 56, 57, 58, 59, 60, 61, 62, 63, 64, 65, 66, 67, 68, 69, 70, 71] (by decide +kernel) (by decide +kernel)
set_option maxRecDepth 20000 in
theorem gX5_isValue_X5_stops : GoodIn wsX5_isValue (wsV RX5 91 RX5 yX5_stops wsX5_stops) := goodIn_app (goodIn_of _ (by decide +kernel)) ggX5_isValue_X5_stops
theorem dX5_isValue_0 : decode cX5_isValue 0 = .ok (.aload_n 0, 1) := by decide +kernel
theorem dX5_isValue_1 : decode cX5_isValue 1 = .ok (.getfield 68, 3) := by decide +kernel
theorem dX5_isValue_4 : decode cX5_isValue 4 = .ok (.aload_n 0, 1) := by decide +kernel
theorem dX5_isValue_5 : decode cX5_isValue 5 = .ok (.getfield 71, 3) := by decide +kernel
theorem dX5_isValue_8 : decode cX5_isValue 8 = .ok (.if_icmp .ge 15, 3) := by decide +kernel
theorem dX5_isValue_11 : decode cX5_isValue 11 = .ok (.aload_n 0, 1) := by decide +kernel
theorem dX5_isValue_12 : decode cX5_isValue 12 = .ok (.getfield 16, 3) := by decide +kernel
theorem dX5_isValue_15 : decode cX5_isValue 15 = .ok (.aload_n 0, 1) := by decide +kernel
theorem dX5_isValue_16 : decode cX5_isValue 16 = .ok (.getfield 68, 3) := by decide +kernel
theorem dX5_isValue_19 : decode cX5_isValue 19 = .ok (.iaload, 1) := by decide +kernel
theorem dX5_isValue_20 : decode cX5_isValue 20 = .ok (.goto 4, 3) := by decide +kernel
theorem dX5_isValue_23 : decode cX5_isValue 23 = .ok (.iconst 0, 1) := by decide +kernel
theorem dX5_isValue_24 : decode cX5_isValue 24 = .ok (.istore_n 2, 1) := by decide +kernel
theorem dX5_isValue_25 : decode cX5_isValue 25 = .ok (.iload_n 2, 1) := by decide +kernel
theorem dX5_isValue_26 : decode cX5_isValue 26 = .ok (.lookupswitch 111 #[(39, 90), (40, 103), (91, 96), (102, 58), (110, 58), (116, 58)], 58) := by decide +kernel
theorem dX5_isValue_84 : decode cX5_isValue 84 = .ok (.aload_n 0, 1) := by decide +kernel
theorem dX5_isValue_85 : decode cX5_isValue 85 = .ok (.iload_n 2, 1) := by decide +kernel
theorem dX5_isValue_86 : decode cX5_isValue 86 = .ok (.bipush 110, 2) := by decide +kernel
theorem dX5_isValue_88 : decode cX5_isValue 88 = .ok (.if_icmp .ne 7, 3) := by decide +kernel
theorem dX5_isValue_91 : decode cX5_isValue 91 = .ok (.iconst 0, 1) := by decide +kernel
theorem dX5_isValue_92 : decode cX5_isValue 92 = .ok (.goto 4, 3) := by decide +kernel
theorem dX5_isValue_95 : decode cX5_isValue 95 = .ok (.iconst 1, 1) := by decide +kernel
theorem dX5_isValue_96 : decode cX5_isValue 96 = .ok (.iload_n 1, 1) := by decide +kernel
theorem dX5_isValue_97 : decode cX5_isValue 97 = .ok (.aload_n 0, 1) := by decide +kernel
theorem dX5_isValue_98 : decode cX5_isValue 98 = .ok (.getfield 68, 3) := by decide +kernel
theorem dX5_isValue_101 : decode cX5_isValue 101 = .ok (.invokevirtual 95, 3) := by decide +kernel
theorem dX5_isValue_104 : decode cX5_isValue 104 = .ok (.aload_n 0, 1) := by decide +kernel
theorem dX5_isValue_105 : decode cX5_isValue 105 = .ok (.dup, 1) := by decide +kernel
theorem dX5_isValue_106 : decode cX5_isValue 106 = .ok (.getfield 68, 3) := by decide +kernel
theorem dX5_isValue_109 : decode cX5_isValue 109 = .ok (.iconst 1, 1) := by decide +kernel
theorem dX5_isValue_110 : decode cX5_isValue 110 = .ok (.iadd, 1) := by decide +kernel
theorem dX5_isValue_111 : decode cX5_isValue 111 = .ok (.putfield 68, 3) := by decide +kernel
theorem dX5_isValue_114 : decode cX5_isValue 114 = .ok (.iconst 1, 1) := by decide +kernel
theorem dX5_isValue_115 : decode cX5_isValue 115 = .ok (.ireturn, 1) := by decide +kernel
theorem dX5_isValue_116 : decode cX5_isValue 116 = .ok (.aload_n 0, 1) := by decide +kernel
theorem dX5_isValue_117 : decode cX5_isValue 117 = .ok (.iload_n 1, 1) := by decide +kernel
theorem dX5_isValue_118 : decode cX5_isValue 118 = .ok (.invokevirtual 102, 3) := by decide +kernel
theorem dX5_isValue_121 : decode cX5_isValue 121 = .ok (.ireturn, 1) := by decide +kernel
theorem dX5_isValue_122 : decode cX5_isValue 122 = .ok (.aload_n 0, 1) := by decide +kernel
theorem dX5_isValue_123 : decode cX5_isValue 123 = .ok (.iconst 5, 1) := by decide +kernel
theorem dX5_isValue_124 : decode cX5_isValue 124 = .ok (.iload_n 1, 1) := by decide +kernel
theorem dX5_isValue_125 : decode cX5_isValue 125 = .ok (.invokevirtual 105, 3) := by decide +kernel
theorem dX5_isValue_128 : decode cX5_isValue 128 = .ok (.ireturn, 1) := by decide +kernel
theorem dX5_isValue_129 : decode cX5_isValue 129 = .ok (.aload_n 0, 1) := by decide +kernel
theorem dX5_isValue_130 : decode cX5_isValue 130 = .ok (.bipush 6, 2) := by decide +kernel
theorem dX5_isValue_132 : decode cX5_isValue 132 = .ok (.iload_n 1, 1) := by decide +kernel
theorem dX5_isValue_133 : decode cX5_isValue 133 = .ok (.invokevirtual 105, 3) := by decide +kernel
theorem dX5_isValue_136 : decode cX5_isValue 136 = .ok (.ireturn, 1) := by decide +kernel
theorem dX5_isValue_137 : decode cX5_isValue 137 = .ok (.iload_n 2, 1) := by decide +kernel
theorem dX5_isValue_138 : decode cX5_isValue 138 = .ok (.bipush 45, 2) := by decide +kernel
theorem dX5_isValue_140 : decode cX5_isValue 140 = .ok (.if_icmp .eq 14, 3) := by decide +kernel
theorem dX5_isValue_143 : decode cX5_isValue 143 = .ok (.iload_n 2, 1) := by decide +kernel
theorem dX5_isValue_144 : decode cX5_isValue 144 = .ok (.bipush 48, 2) := by decide +kernel
theorem dX5_isValue_146 : decode cX5_isValue 146 = .ok (.bipush 57, 2) := by decide +kernel
theorem dX5_isValue_148 : decode cX5_isValue 148 = .ok (.invokestatic 53, 3) := by decide +kernel
theorem dX5_isValue_151 : decode cX5_isValue 151 = .ok (.ifCond .eq 11, 3) := by decide +kernel
theorem dX5_isValue_154 : decode cX5_isValue 154 = .ok (.aload_n 0, 1) := by decide +kernel
theorem dX5_isValue_155 : decode cX5_isValue 155 = .ok (.iload_n 1, 1) := by decide +kernel
theorem dX5_isValue_156 : decode cX5_isValue 156 = .ok (.invokevirtual 108, 3) := by decide +kernel
theorem dX5_isValue_159 : decode cX5_isValue 159 = .ok (.goto 7, 3) := by decide +kernel
theorem dX5_isValue_162 : decode cX5_isValue 162 = .ok (.aload_n 0, 1) := by decide +kernel
theorem dX5_isValue_163 : decode cX5_isValue 163 = .ok (.invokevirtual 91, 3) := by decide +kernel
theorem dX5_isValue_166 : decode cX5_isValue 166 = .ok (.ireturn, 1) := by decide +kernel
theorem dX5_closes_0 : decode cX5_closes 0 = .ok (.aload_n 0, 1) := by decide +kernel
theorem dX5_closes_1 : decode cX5_closes 1 = .ok (.getfield 31, 3) := by decide +kernel
theorem dX5_closes_4 : decode cX5_closes 4 = .ok (.iload_n 1, 1) := by decide +kernel
theorem dX5_closes_5 : decode cX5_closes 5 = .ok (.aload_n 0, 1) := by decide +kernel
theorem dX5_closes_6 : decode cX5_closes 6 = .ok (.getfield 68, 3) := by decide +kernel
theorem dX5_closes_9 : decode cX5_closes 9 = .ok (.iastore, 1) := by decide +kernel
theorem dX5_closes_10 : decode cX5_closes 10 = .ok (.aload_n 0, 1) := by decide +kernel
theorem dX5_closes_11 : decode cX5_closes 11 = .ok (.dup, 1) := by decide +kernel
theorem dX5_closes_12 : decode cX5_closes 12 = .ok (.getfield 68, 3) := by decide +kernel
theorem dX5_closes_15 : decode cX5_closes 15 = .ok (.iconst 1, 1) := by decide +kernel
theorem dX5_closes_16 : decode cX5_closes 16 = .ok (.iadd, 1) := by decide +kernel
theorem dX5_closes_17 : decode cX5_closes 17 = .ok (.putfield 68, 3) := by decide +kernel
theorem dX5_closes_20 : decode cX5_closes 20 = .ok (.aload_n 0, 1) := by decide +kernel
theorem dX5_closes_21 : decode cX5_closes 21 = .ok (.dup, 1) := by decide +kernel
theorem dX5_closes_22 : decode cX5_closes 22 = .ok (.getfield 85, 3) := by decide +kernel
theorem dX5_closes_25 : decode cX5_closes 25 = .ok (.iconst 1, 1) := by decide +kernel
theorem dX5_closes_26 : decode cX5_closes 26 = .ok (.isub, 1) := by decide +kernel
theorem dX5_closes_27 : decode cX5_closes 27 = .ok (.putfield 85, 3) := by decide +kernel
theorem dX5_closes_30 : decode cX5_closes 30 = .ok (.iconst 1, 1) := by decide +kernel
theorem dX5_closes_31 : decode cX5_closes 31 = .ok (.ireturn, 1) := by decide +kernel
set_option maxRecDepth 20000 in
theorem ggX5_goesOn_X5_isAt : GoodIn wsX5_goesOn wsX5_isAt := goodIn_r _ [11, 6, 12, 5, 13, 14, 10, 15, 55, 56, 57, 58, 59, 60, 61, 62, 63, 64, 65, 66, 67, 68, 69, 70, 71, 72, 73, 74, 75, 76, 77, 78, 79, 80] (by decide +kernel) (by decide +kernel)
set_option maxRecDepth 20000 in
theorem gX5_goesOn_X5_isAt : GoodIn wsX5_goesOn (wsV RX5 78 RX5 yX5_isAt wsX5_isAt) := goodIn_app (goodIn_of _ (by decide +kernel)) ggX5_goesOn_X5_isAt
set_option maxRecDepth 20000 in
theorem ggX5_goesOn_X5_closes : GoodIn wsX5_goesOn wsX5_closes := goodIn_r _ [19, 20, 6, 2, 55, 56, 57, 58, 59, 60, 61, 62, 63, 64, 65, 66, 67, 68, 69, 70, 71, 72, 73, 74, 75, 76, 77, 78, 79, 80] (by decide +kernel) (by decide +kernel)
