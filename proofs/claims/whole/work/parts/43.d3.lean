set_option maxRecDepth 20000 in
theorem gX5_goesOn_X5_closes : GoodIn wsX5_goesOn (wsV RX5 111 RX5 yX5_closes wsX5_closes) := goodIn_app (goodIn_of _ (by decide +kernel)) ggX5_goesOn_X5_closes
set_option maxRecDepth 20000 in
theorem ggX5_goesOn_X5_stops : GoodIn wsX5_goesOn wsX5_stops := goodIn_r _ [24, 6, 12, 25, 55, 56, 57, 58, 59, 60, 61, 62, 63, 64, 65, 66, 67, 68, 69, 70, 71, 72, 73, 74, 75, 76, 77, 78, 79, 80] (by decide +kernel) (by decide +kernel)
set_option maxRecDepth 20000 in
theorem gX5_goesOn_X5_stops : GoodIn wsX5_goesOn (wsV RX5 91 RX5 yX5_stops wsX5_stops) := goodIn_app (goodIn_of _ (by decide +kernel)) ggX5_goesOn_X5_stops
set_option maxRecDepth 20000 in
theorem ggX5_goesOn_X5_isValue : GoodIn wsX5_goesOn wsX5_isValue := goodIn_r _ [29, 6, 12, 5, 30, 31, 32, 10, 33, 3, 34, 35, 2, 1, 36, 37, 4, 38, 39, 40, 41, 7, 8, 9, 11, 13, 14, 15, 21, 22, 23, 24, 25, 42, 43, 44, 45, 46, 47, 48, 49, 50, 51, 52, 53, 54, 55, 56, 57, 58, 59, 60, 61, 62, 63, 64, 65, 66, 67, 68, 69, 70, 71, 72, 73, 74, 75, 76, 77, 78, 79, 80] (by decide +kernel) (by decide +kernel)
set_option maxRecDepth 20000 in
theorem gX5_goesOn_X5_isValue : GoodIn wsX5_goesOn (wsV RX5 114 RX5 yX5_isValue wsX5_isValue) := goodIn_app (goodIn_of _ (by decide +kernel)) ggX5_goesOn_X5_isValue
set_option maxRecDepth 20000 in
theorem ggX5_goesOn_X5_isSign : GoodIn wsX5_goesOn wsX5_isSign := goodIn_r _ [45, 6, 7, 8, 9, 10, 11, 12, 5, 13, 14, 15, 55, 56, 57, 58, 59, 60, 61, 62, 63, 64, 65, 66, 67, 68, 69, 70, 71, 72, 73, 74, 75, 76, 77, 78, 79, 80] (by decide +kernel) (by decide +kernel)
set_option maxRecDepth 20000 in
theorem gX5_goesOn_X5_isSign : GoodIn wsX5_goesOn (wsV RX5 88 RX5 yX5_isSign wsX5_isSign) := goodIn_app (goodIn_of _ (by decide +kernel)) ggX5_goesOn_X5_isSign
theorem dX5_goesOn_0 : decode cX5_goesOn 0 = .ok (.aload_n 0, 1) := by decide +kernel
theorem dX5_goesOn_1 : decode cX5_goesOn 1 = .ok (.getfield 37, 3) := by decide +kernel
theorem dX5_goesOn_4 : decode cX5_goesOn 4 = .ok (.aload_n 0, 1) := by decide +kernel
theorem dX5_goesOn_5 : decode cX5_goesOn 5 = .ok (.getfield 85, 3) := by decide +kernel
theorem dX5_goesOn_8 : decode cX5_goesOn 8 = .ok (.iconst 1, 1) := by decide +kernel
theorem dX5_goesOn_9 : decode cX5_goesOn 9 = .ok (.isub, 1) := by decide +kernel
theorem dX5_goesOn_10 : decode cX5_goesOn 10 = .ok (.iaload, 1) := by decide +kernel
theorem dX5_goesOn_11 : decode cX5_goesOn 11 = .ok (.istore_n 1, 1) := by decide +kernel
theorem dX5_goesOn_12 : decode cX5_goesOn 12 = .ok (.aload_n 0, 1) := by decide +kernel
theorem dX5_goesOn_13 : decode cX5_goesOn 13 = .ok (.getfield 19, 3) := by decide +kernel
theorem dX5_goesOn_16 : decode cX5_goesOn 16 = .ok (.iload_n 1, 1) := by decide +kernel
theorem dX5_goesOn_17 : decode cX5_goesOn 17 = .ok (.iaload, 1) := by decide +kernel
theorem dX5_goesOn_18 : decode cX5_goesOn 18 = .ok (.bipush 6, 2) := by decide +kernel
theorem dX5_goesOn_20 : decode cX5_goesOn 20 = .ok (.if_icmp .ne 102, 3) := by decide +kernel
theorem dX5_goesOn_23 : decode cX5_goesOn 23 = .ok (.aload_n 0, 1) := by decide +kernel
theorem dX5_goesOn_24 : decode cX5_goesOn 24 = .ok (.bipush 41, 2) := by decide +kernel
theorem dX5_goesOn_26 : decode cX5_goesOn 26 = .ok (.bipush 41, 2) := by decide +kernel
theorem dX5_goesOn_28 : decode cX5_goesOn 28 = .ok (.invokevirtual 78, 3) := by decide +kernel
theorem dX5_goesOn_31 : decode cX5_goesOn 31 = .ok (.ifCond .eq 9, 3) := by decide +kernel
theorem dX5_goesOn_34 : decode cX5_goesOn 34 = .ok (.aload_n 0, 1) := by decide +kernel
theorem dX5_goesOn_35 : decode cX5_goesOn 35 = .ok (.iload_n 1, 1) := by decide +kernel
theorem dX5_goesOn_36 : decode cX5_goesOn 36 = .ok (.invokevirtual 111, 3) := by decide +kernel
theorem dX5_goesOn_39 : decode cX5_goesOn 39 = .ok (.ireturn, 1) := by decide +kernel
theorem dX5_goesOn_40 : decode cX5_goesOn 40 = .ok (.aload_n 0, 1) := by decide +kernel
theorem dX5_goesOn_41 : decode cX5_goesOn 41 = .ok (.bipush 65, 2) := by decide +kernel
theorem dX5_goesOn_43 : decode cX5_goesOn 43 = .ok (.bipush 72, 2) := by decide +kernel
theorem dX5_goesOn_45 : decode cX5_goesOn 45 = .ok (.invokevirtual 78, 3) := by decide +kernel
theorem dX5_goesOn_48 : decode cX5_goesOn 48 = .ok (.ifCond .eq 28, 3) := by decide +kernel
theorem dX5_goesOn_51 : decode cX5_goesOn 51 = .ok (.aload_n 0, 1) := by decide +kernel
theorem dX5_goesOn_52 : decode cX5_goesOn 52 = .ok (.getfield 34, 3) := by decide +kernel
theorem dX5_goesOn_55 : decode cX5_goesOn 55 = .ok (.iload_n 1, 1) := by decide +kernel
theorem dX5_goesOn_56 : decode cX5_goesOn 56 = .ok (.iaload, 1) := by decide +kernel
theorem dX5_goesOn_57 : decode cX5_goesOn 57 = .ok (.aload_n 0, 1) := by decide +kernel
theorem dX5_goesOn_58 : decode cX5_goesOn 58 = .ok (.getfield 16, 3) := by decide +kernel
theorem dX5_goesOn_61 : decode cX5_goesOn 61 = .ok (.aload_n 0, 1) := by decide +kernel
theorem dX5_goesOn_62 : decode cX5_goesOn 62 = .ok (.getfield 68, 3) := by decide +kernel
theorem dX5_goesOn_65 : decode cX5_goesOn 65 = .ok (.iaload, 1) := by decide +kernel
theorem dX5_goesOn_66 : decode cX5_goesOn 66 = .ok (.bipush 65, 2) := by decide +kernel
theorem dX5_goesOn_68 : decode cX5_goesOn 68 = .ok (.isub, 1) := by decide +kernel
theorem dX5_goesOn_69 : decode cX5_goesOn 69 = .ok (.ishr, 1) := by decide +kernel
theorem dX5_goesOn_70 : decode cX5_goesOn 70 = .ok (.iconst 1, 1) := by decide +kernel
theorem dX5_goesOn_71 : decode cX5_goesOn 71 = .ok (.iand, 1) := by decide +kernel
theorem dX5_goesOn_72 : decode cX5_goesOn 72 = .ok (.iconst 1, 1) := by decide +kernel
theorem dX5_goesOn_73 : decode cX5_goesOn 73 = .ok (.if_icmp .ne 8, 3) := by decide +kernel
theorem dX5_goesOn_76 : decode cX5_goesOn 76 = .ok (.aload_n 0, 1) := by decide +kernel
theorem dX5_goesOn_77 : decode cX5_goesOn 77 = .ok (.invokevirtual 91, 3) := by decide +kernel
theorem dX5_goesOn_80 : decode cX5_goesOn 80 = .ok (.ireturn, 1) := by decide +kernel
theorem dX5_goesOn_81 : decode cX5_goesOn 81 = .ok (.aload_n 0, 1) := by decide +kernel
theorem dX5_goesOn_82 : decode cX5_goesOn 82 = .ok (.getfield 16, 3) := by decide +kernel
theorem dX5_goesOn_85 : decode cX5_goesOn 85 = .ok (.aload_n 0, 1) := by decide +kernel
theorem dX5_goesOn_86 : decode cX5_goesOn 86 = .ok (.getfield 68, 3) := by decide +kernel
theorem dX5_goesOn_89 : decode cX5_goesOn 89 = .ok (.iaload, 1) := by decide +kernel
theorem dX5_goesOn_90 : decode cX5_goesOn 90 = .ok (.bipush 65, 2) := by decide +kernel
theorem dX5_goesOn_92 : decode cX5_goesOn 92 = .ok (.isub, 1) := by decide +kernel
theorem dX5_goesOn_93 : decode cX5_goesOn 93 = .ok (.istore_n 2, 1) := by decide +kernel
theorem dX5_goesOn_94 : decode cX5_goesOn 94 = .ok (.aload_n 0, 1) := by decide +kernel
theorem dX5_goesOn_95 : decode cX5_goesOn 95 = .ok (.getfield 34, 3) := by decide +kernel
theorem dX5_goesOn_98 : decode cX5_goesOn 98 = .ok (.iload_n 1, 1) := by decide +kernel
theorem dX5_goesOn_99 : decode cX5_goesOn 99 = .ok (.dup2, 1) := by decide +kernel
theorem dX5_goesOn_100 : decode cX5_goesOn 100 = .ok (.iaload, 1) := by decide +kernel
theorem dX5_goesOn_101 : decode cX5_goesOn 101 = .ok (.iconst 1, 1) := by decide +kernel
theorem dX5_goesOn_102 : decode cX5_goesOn 102 = .ok (.iload_n 2, 1) := by decide +kernel
theorem dX5_goesOn_103 : decode cX5_goesOn 103 = .ok (.ishl, 1) := by decide +kernel
theorem dX5_goesOn_104 : decode cX5_goesOn 104 = .ok (.ior, 1) := by decide +kernel
theorem dX5_goesOn_105 : decode cX5_goesOn 105 = .ok (.iastore, 1) := by decide +kernel
theorem dX5_goesOn_106 : decode cX5_goesOn 106 = .ok (.aload_n 0, 1) := by decide +kernel
theorem dX5_goesOn_107 : decode cX5_goesOn 107 = .ok (.dup, 1) := by decide +kernel
theorem dX5_goesOn_108 : decode cX5_goesOn 108 = .ok (.getfield 68, 3) := by decide +kernel
theorem dX5_goesOn_111 : decode cX5_goesOn 111 = .ok (.iconst 1, 1) := by decide +kernel
theorem dX5_goesOn_112 : decode cX5_goesOn 112 = .ok (.iadd, 1) := by decide +kernel
theorem dX5_goesOn_113 : decode cX5_goesOn 113 = .ok (.putfield 68, 3) := by decide +kernel
theorem dX5_goesOn_116 : decode cX5_goesOn 116 = .ok (.aload_n 0, 1) := by decide +kernel
theorem dX5_goesOn_117 : decode cX5_goesOn 117 = .ok (.iload_n 2, 1) := by decide +kernel
theorem dX5_goesOn_118 : decode cX5_goesOn 118 = .ok (.invokevirtual 114, 3) := by decide +kernel
theorem dX5_goesOn_121 : decode cX5_goesOn 121 = .ok (.ireturn, 1) := by decide +kernel
theorem dX5_goesOn_122 : decode cX5_goesOn 122 = .ok (.aload_n 0, 1) := by decide +kernel
theorem dX5_goesOn_123 : decode cX5_goesOn 123 = .ok (.bipush 93, 2) := by decide +kernel
theorem dX5_goesOn_125 : decode cX5_goesOn 125 = .ok (.bipush 93, 2) := by decide +kernel
theorem dX5_goesOn_127 : decode cX5_goesOn 127 = .ok (.invokevirtual 78, 3) := by decide +kernel
theorem dX5_goesOn_130 : decode cX5_goesOn 130 = .ok (.ifCond .eq 9, 3) := by decide +kernel
theorem dX5_goesOn_133 : decode cX5_goesOn 133 = .ok (.aload_n 0, 1) := by decide +kernel
theorem dX5_goesOn_134 : decode cX5_goesOn 134 = .ok (.iload_n 1, 1) := by decide +kernel
theorem dX5_goesOn_135 : decode cX5_goesOn 135 = .ok (.invokevirtual 111, 3) := by decide +kernel
theorem dX5_goesOn_138 : decode cX5_goesOn 138 = .ok (.ireturn, 1) := by decide +kernel
theorem dX5_goesOn_139 : decode cX5_goesOn 139 = .ok (.aload_n 0, 1) := by decide +kernel
theorem dX5_goesOn_140 : decode cX5_goesOn 140 = .ok (.getfield 34, 3) := by decide +kernel
theorem dX5_goesOn_143 : decode cX5_goesOn 143 = .ok (.iload_n 1, 1) := by decide +kernel
theorem dX5_goesOn_144 : decode cX5_goesOn 144 = .ok (.iaload, 1) := by decide +kernel
theorem dX5_goesOn_145 : decode cX5_goesOn 145 = .ok (.iconst 1, 1) := by decide +kernel
theorem dX5_goesOn_146 : decode cX5_goesOn 146 = .ok (.if_icmp .ne 17, 3) := by decide +kernel
theorem dX5_goesOn_149 : decode cX5_goesOn 149 = .ok (.aload_n 0, 1) := by decide +kernel
theorem dX5_goesOn_150 : decode cX5_goesOn 150 = .ok (.bipush 44, 2) := by decide +kernel
theorem dX5_goesOn_152 : decode cX5_goesOn 152 = .ok (.invokevirtual 88, 3) := by decide +kernel
theorem dX5_goesOn_155 : decode cX5_goesOn 155 = .ok (.ifCond .ne 8, 3) := by decide +kernel
theorem dX5_goesOn_158 : decode cX5_goesOn 158 = .ok (.aload_n 0, 1) := by decide +kernel
theorem dX5_goesOn_159 : decode cX5_goesOn 159 = .ok (.invokevirtual 91, 3) := by decide +kernel
theorem dX5_goesOn_162 : decode cX5_goesOn 162 = .ok (.ireturn, 1) := by decide +kernel
theorem dX5_goesOn_163 : decode cX5_goesOn 163 = .ok (.aload_n 0, 1) := by decide +kernel
theorem dX5_goesOn_164 : decode cX5_goesOn 164 = .ok (.getfield 34, 3) := by decide +kernel
theorem dX5_goesOn_167 : decode cX5_goesOn 167 = .ok (.iload_n 1, 1) := by decide +kernel
theorem dX5_goesOn_168 : decode cX5_goesOn 168 = .ok (.iconst 1, 1) := by decide +kernel
theorem dX5_goesOn_169 : decode cX5_goesOn 169 = .ok (.iastore, 1) := by decide +kernel
theorem dX5_goesOn_170 : decode cX5_goesOn 170 = .ok (.aload_n 0, 1) := by decide +kernel
theorem dX5_goesOn_171 : decode cX5_goesOn 171 = .ok (.bipush 8, 2) := by decide +kernel
theorem dX5_goesOn_173 : decode cX5_goesOn 173 = .ok (.invokevirtual 114, 3) := by decide +kernel
theorem dX5_goesOn_176 : decode cX5_goesOn 176 = .ok (.ireturn, 1) := by decide +kernel
set_option maxRecDepth 20000 in
theorem ggX5_isText_X5_isAt : GoodIn wsX5_isText wsX5_isAt := goodIn_r _ [11, 1, 6, 12, 13, 14, 10, 15, 59, 60, 61, 62, 63, 64, 65, 66, 67, 68, 69, 70, 71, 72, 73, 74, 75, 76, 77, 78, 79, 80, 81, 82, 83, 84] (by decide +kernel) (by decide +kernel)
set_option maxRecDepth 20000 in
theorem gX5_isText_X5_isAt : GoodIn wsX5_isText (wsV RX5 78 RX5 yX5_isAt wsX5_isAt) := goodIn_app (goodIn_of _ (by decide +kernel)) ggX5_isText_X5_isAt
set_option maxRecDepth 20000 in
theorem ggX5_isText_X5_stops : GoodIn wsX5_isText wsX5_stops := goodIn_r _ [19, 1, 6, 5, 59, 60, 61, 62, 63, 64, 65, 66, 67, 68, 69, 70, 71, 72, 73, 74, 75, 76, 77, 78, 79, 80, 81, 82, 83, 84] (by decide +kernel) (by decide +kernel)
set_option maxRecDepth 20000 in
theorem gX5_isText_X5_stops : GoodIn wsX5_isText (wsV RX5 91 RX5 yX5_stops wsX5_stops) := goodIn_app (goodIn_of _ (by decide +kernel)) ggX5_isText_X5_stops
set_option maxRecDepth 20000 in
theorem ggX5_isText_X5_opens : GoodIn wsX5_isText wsX5_opens := goodIn_r _ [23, 3, 1, 24, 2, 4, 16, 17, 18, 10, 19, 6, 5, 25, 26, 27, 28, 29, 30, 31, 32, 33, 59, 60, 61, 62, 63, 64, 65, 66, 67, 68, 69, 70, 71, 72, 73, 74, 75, 76, 77, 78, 79, 80, 81, 82, 83, 84] (by decide +kernel) (by decide +kernel)
set_option maxRecDepth 20000 in
theorem gX5_isText_X5_opens : GoodIn wsX5_isText (wsV RX5 105 RX5 yX5_opens wsX5_opens) := goodIn_app (goodIn_of _ (by decide +kernel)) ggX5_isText_X5_opens
set_option maxRecDepth 20000 in
theorem ggX5_isText_X5_goesOn : GoodIn wsX5_isText wsX5_goesOn := goodIn_r _ [37, 24, 3, 29, 33, 12, 1, 7, 8, 9, 10, 11, 6, 13, 14, 15, 38, 39, 40, 41, 42, 16, 17, 18, 19, 5, 43, 44, 45, 46, 25, 26, 27, 28, 2, 30, 31, 32, 47, 48, 49, 50, 51, 52, 53, 54, 20, 21, 22, 23, 4, 55, 56, 57, 58, 59, 60, 61, 62, 63, 64, 65, 66, 67, 68, 69, 70, 71, 72, 73, 74, 75, 76, 77, 78, 79, 80, 81, 82, 83, 84] (by decide +kernel) (by decide +kernel)
set_option maxRecDepth 20000 in
theorem gX5_isText_X5_goesOn : GoodIn wsX5_isText (wsV RX5 117 RX5 yX5_goesOn wsX5_goesOn) := goodIn_app (goodIn_of _ (by decide +kernel)) ggX5_isText_X5_goesOn
theorem dX5_isText_0 : decode cX5_isText 0 = .ok (.aload_n 0, 1) := by decide +kernel
theorem dX5_isText_1 : decode cX5_isText 1 = .ok (.iconst 0, 1) := by decide +kernel
theorem dX5_isText_2 : decode cX5_isText 2 = .ok (.putfield 68, 3) := by decide +kernel
theorem dX5_isText_5 : decode cX5_isText 5 = .ok (.aload_n 0, 1) := by decide +kernel
theorem dX5_isText_6 : decode cX5_isText 6 = .ok (.iconst 0, 1) := by decide +kernel
theorem dX5_isText_7 : decode cX5_isText 7 = .ok (.putfield 82, 3) := by decide +kernel
theorem dX5_isText_10 : decode cX5_isText 10 = .ok (.aload_n 0, 1) := by decide +kernel
theorem dX5_isText_11 : decode cX5_isText 11 = .ok (.iconst 0, 1) := by decide +kernel
theorem dX5_isText_12 : decode cX5_isText 12 = .ok (.putfield 85, 3) := by decide +kernel
theorem dX5_isText_15 : decode cX5_isText 15 = .ok (.aload_n 0, 1) := by decide +kernel
theorem dX5_isText_16 : decode cX5_isText 16 = .ok (.iconst 0, 1) := by decide +kernel
theorem dX5_isText_17 : decode cX5_isText 17 = .ok (.putfield 99, 3) := by decide +kernel
theorem dX5_isText_20 : decode cX5_isText 20 = .ok (.aload_n 0, 1) := by decide +kernel
theorem dX5_isText_21 : decode cX5_isText 21 = .ok (.iconst 0, 1) := by decide +kernel
theorem dX5_isText_22 : decode cX5_isText 22 = .ok (.putfield 74, 3) := by decide +kernel
theorem dX5_isText_25 : decode cX5_isText 25 = .ok (.aload_n 0, 1) := by decide +kernel
theorem dX5_isText_26 : decode cX5_isText 26 = .ok (.bipush 40, 2) := by decide +kernel
theorem dX5_isText_28 : decode cX5_isText 28 = .ok (.bipush 40, 2) := by decide +kernel
theorem dX5_isText_30 : decode cX5_isText 30 = .ok (.invokevirtual 78, 3) := by decide +kernel
theorem dX5_isText_33 : decode cX5_isText 33 = .ok (.ifCond .ne 8, 3) := by decide +kernel
theorem dX5_isText_36 : decode cX5_isText 36 = .ok (.aload_n 0, 1) := by decide +kernel
theorem dX5_isText_37 : decode cX5_isText 37 = .ok (.invokevirtual 91, 3) := by decide +kernel
theorem dX5_isText_40 : decode cX5_isText 40 = .ok (.ireturn, 1) := by decide +kernel
theorem dX5_isText_41 : decode cX5_isText 41 = .ok (.aload_n 0, 1) := by decide +kernel
theorem dX5_isText_42 : decode cX5_isText 42 = .ok (.bipush 6, 2) := by decide +kernel
theorem dX5_isText_44 : decode cX5_isText 44 = .ok (.iconst (-1), 1) := by decide +kernel
theorem dX5_isText_45 : decode cX5_isText 45 = .ok (.invokevirtual 105, 3) := by decide +kernel
theorem dX5_isText_48 : decode cX5_isText 48 = .ok (.pop, 1) := by decide +kernel
theorem dX5_isText_49 : decode cX5_isText 49 = .ok (.aload_n 0, 1) := by decide +kernel
theorem dX5_isText_50 : decode cX5_isText 50 = .ok (.getfield 85, 3) := by decide +kernel
theorem dX5_isText_53 : decode cX5_isText 53 = .ok (.ifCond .le 12, 3) := by decide +kernel
theorem dX5_isText_56 : decode cX5_isText 56 = .ok (.aload_n 0, 1) := by decide +kernel
theorem dX5_isText_57 : decode cX5_isText 57 = .ok (.invokevirtual 117, 3) := by decide +kernel
theorem dX5_isText_60 : decode cX5_isText 60 = .ok (.ifCond .ne (-11), 3) := by decide +kernel
theorem dX5_isText_63 : decode cX5_isText 63 = .ok (.iconst 0, 1) := by decide +kernel
theorem dX5_isText_64 : decode cX5_isText 64 = .ok (.ireturn, 1) := by decide +kernel
theorem dX5_isText_65 : decode cX5_isText 65 = .ok (.aload_n 0, 1) := by decide +kernel
theorem dX5_isText_66 : decode cX5_isText 66 = .ok (.aload_n 0, 1) := by decide +kernel
theorem dX5_isText_67 : decode cX5_isText 67 = .ok (.getfield 68, 3) := by decide +kernel
theorem dX5_isText_70 : decode cX5_isText 70 = .ok (.aload_n 0, 1) := by decide +kernel
theorem dX5_isText_71 : decode cX5_isText 71 = .ok (.getfield 71, 3) := by decide +kernel
theorem dX5_isText_74 : decode cX5_isText 74 = .ok (.if_icmp .ge 7, 3) := by decide +kernel
theorem dX5_isText_77 : decode cX5_isText 77 = .ok (.iconst 1, 1) := by decide +kernel
theorem dX5_isText_78 : decode cX5_isText 78 = .ok (.goto 4, 3) := by decide +kernel
theorem dX5_isText_81 : decode cX5_isText 81 = .ok (.iconst 0, 1) := by decide +kernel
theorem dX5_isText_82 : decode cX5_isText 82 = .ok (.putfield 74, 3) := by decide +kernel
theorem dX5_isText_85 : decode cX5_isText 85 = .ok (.aload_n 0, 1) := by decide +kernel
theorem dX5_isText_86 : decode cX5_isText 86 = .ok (.getfield 68, 3) := by decide +kernel
theorem dX5_isText_89 : decode cX5_isText 89 = .ok (.aload_n 0, 1) := by decide +kernel
theorem dX5_isText_90 : decode cX5_isText 90 = .ok (.getfield 71, 3) := by decide +kernel
theorem dX5_isText_93 : decode cX5_isText 93 = .ok (.if_icmp .ne 7, 3) := by decide +kernel
theorem dX5_isText_96 : decode cX5_isText 96 = .ok (.iconst 1, 1) := by decide +kernel
theorem dX5_isText_97 : decode cX5_isText 97 = .ok (.goto 4, 3) := by decide +kernel
theorem dX5_isText_100 : decode cX5_isText 100 = .ok (.iconst 0, 1) := by decide +kernel
theorem dX5_isText_101 : decode cX5_isText 101 = .ok (.ireturn, 1) := by decide +kernel
set_option maxRecDepth 20000 in
theorem ggX5_append_X5_in : GoodIn wsX5_append wsX5_in := goodIn_r _ [7] (by decide +kernel) (by decide +kernel)
set_option maxRecDepth 20000 in
theorem gX5_append_X5_in : GoodIn wsX5_append (va_wsS RX5 53 yX5_in wsX5_in) := goodIn_app (goodIn_of _ (by decide +kernel)) ggX5_append_X5_in
set_option maxRecDepth 20000 in
theorem ggX5_append_X5_fails : GoodIn wsX5_append wsX5_fails := goodIn_r _ [11, 1, 12, 13, 14, 15, 16, 17, 18, 19, 20, 21, 22, 23, 24, 25, 26, 27, 28, 29, 30, 31, 32, 33, 34, 35, 36, 37] (by decide +kernel) (by decide +kernel)
set_option maxRecDepth 20000 in
theorem gX5_append_X5_fails : GoodIn wsX5_append (wsV RX5 64 RX5 yX5_fails wsX5_fails) := goodIn_app (goodIn_of _ (by decide +kernel)) ggX5_append_X5_fails
theorem dX5_append_0 : decode cX5_append 0 = .ok (.aload_n 0, 1) := by decide +kernel
theorem dX5_append_1 : decode cX5_append 1 = .ok (.iconst 0, 1) := by decide +kernel
theorem dX5_append_2 : decode cX5_append 2 = .ok (.putfield 49, 3) := by decide +kernel
theorem dX5_append_5 : decode cX5_append 5 = .ok (.iload_n 1, 1) := by decide +kernel
theorem dX5_append_6 : decode cX5_append 6 = .ok (.bipush 33, 2) := by decide +kernel
theorem dX5_append_8 : decode cX5_append 8 = .ok (.bipush 126, 2) := by decide +kernel
theorem dX5_append_10 : decode cX5_append 10 = .ok (.invokestatic 53, 3) := by decide +kernel
theorem dX5_append_13 : decode cX5_append 13 = .ok (.ifCond .ne 9, 3) := by decide +kernel
theorem dX5_append_16 : decode cX5_append 16 = .ok (.aload_n 0, 1) := by decide +kernel
theorem dX5_append_17 : decode cX5_append 17 = .ok (.iconst 1, 1) := by decide +kernel
theorem dX5_append_18 : decode cX5_append 18 = .ok (.invokevirtual 64, 3) := by decide +kernel
theorem dX5_append_21 : decode cX5_append 21 = .ok (.ireturn, 1) := by decide +kernel
theorem dX5_append_22 : decode cX5_append 22 = .ok (.aload_n 0, 1) := by decide +kernel
theorem dX5_append_23 : decode cX5_append 23 = .ok (.getfield 71, 3) := by decide +kernel
theorem dX5_append_26 : decode cX5_append 26 = .ok (.bipush 60, 2) := by decide +kernel
theorem dX5_append_28 : decode cX5_append 28 = .ok (.if_icmp .ne 9, 3) := by decide +kernel
theorem dX5_append_31 : decode cX5_append 31 = .ok (.aload_n 0, 1) := by decide +kernel
theorem dX5_append_32 : decode cX5_append 32 = .ok (.iconst 2, 1) := by decide +kernel
theorem dX5_append_33 : decode cX5_append 33 = .ok (.invokevirtual 64, 3) := by decide +kernel
theorem dX5_append_36 : decode cX5_append 36 = .ok (.ireturn, 1) := by decide +kernel
theorem dX5_append_37 : decode cX5_append 37 = .ok (.aload_n 0, 1) := by decide +kernel
theorem dX5_append_38 : decode cX5_append 38 = .ok (.getfield 16, 3) := by decide +kernel
theorem dX5_append_41 : decode cX5_append 41 = .ok (.aload_n 0, 1) := by decide +kernel
theorem dX5_append_42 : decode cX5_append 42 = .ok (.getfield 71, 3) := by decide +kernel
theorem dX5_append_45 : decode cX5_append 45 = .ok (.iload_n 1, 1) := by decide +kernel
theorem dX5_append_46 : decode cX5_append 46 = .ok (.iastore, 1) := by decide +kernel
theorem dX5_append_47 : decode cX5_append 47 = .ok (.aload_n 0, 1) := by decide +kernel
theorem dX5_append_48 : decode cX5_append 48 = .ok (.dup, 1) := by decide +kernel
theorem dX5_append_49 : decode cX5_append 49 = .ok (.getfield 71, 3) := by decide +kernel
theorem dX5_append_52 : decode cX5_append 52 = .ok (.iconst 1, 1) := by decide +kernel
theorem dX5_append_53 : decode cX5_append 53 = .ok (.iadd, 1) := by decide +kernel
theorem dX5_append_54 : decode cX5_append 54 = .ok (.putfield 71, 3) := by decide +kernel
theorem dX5_append_57 : decode cX5_append 57 = .ok (.aload_n 0, 1) := by decide +kernel
theorem dX5_append_58 : decode cX5_append 58 = .ok (.getfield 71, 3) := by decide +kernel
theorem dX5_append_61 : decode cX5_append 61 = .ok (.ireturn, 1) := by decide +kernel
theorem dX5_clearBuffer_0 : decode cX5_clearBuffer 0 = .ok (.aload_n 0, 1) := by decide +kernel
theorem dX5_clearBuffer_1 : decode cX5_clearBuffer 1 = .ok (.iconst 0, 1) := by decide +kernel
theorem dX5_clearBuffer_2 : decode cX5_clearBuffer 2 = .ok (.putfield 49, 3) := by decide +kernel
theorem dX5_clearBuffer_5 : decode cX5_clearBuffer 5 = .ok (.aload_n 0, 1) := by decide +kernel
theorem dX5_clearBuffer_6 : decode cX5_clearBuffer 6 = .ok (.getfield 71, 3) := by decide +kernel
theorem dX5_clearBuffer_9 : decode cX5_clearBuffer 9 = .ok (.istore_n 1, 1) := by decide +kernel
theorem dX5_clearBuffer_10 : decode cX5_clearBuffer 10 = .ok (.aload_n 0, 1) := by decide +kernel
theorem dX5_clearBuffer_11 : decode cX5_clearBuffer 11 = .ok (.iconst 0, 1) := by decide +kernel
theorem dX5_clearBuffer_12 : decode cX5_clearBuffer 12 = .ok (.putfield 71, 3) := by decide +kernel
theorem dX5_clearBuffer_15 : decode cX5_clearBuffer 15 = .ok (.iload_n 1, 1) := by decide +kernel
theorem dX5_clearBuffer_16 : decode cX5_clearBuffer 16 = .ok (.ireturn, 1) := by decide +kernel
set_option maxRecDepth 20000 in
theorem ggX5_firstError_X5_isText : GoodIn wsX5_firstError wsX5_isText := goodIn_r _ [9, 3, 10, 11, 12, 2, 4, 13, 14, 15, 8, 16, 17, 18, 19, 20, 21, 22, 23, 24, 25, 26, 27, 28, 29, 30, 31, 32, 33, 34, 35, 36, 37, 38, 39, 40, 41, 42, 43, 44, 45, 46, 47, 48, 49, 50, 51, 52, 53, 54, 55, 56, 57, 58, 59, 60, 61, 62, 63, 64, 65, 66, 67, 68, 69, 70, 71, 72, 73, 74, 75, 76, 77, 78, 79, 80, 81, 82, 83, 84, 85, 86, 87, 88, 89] (by decide +kernel) (by decide +kernel)
set_option maxRecDepth 20000 in
theorem gX5_firstError_X5_isText : GoodIn wsX5_firstError (wsV RX5 120 RX5 yX5_isText wsX5_isText) := goodIn_app (goodIn_of _ (by decide +kernel)) ggX5_firstError_X5_isText
theorem dX5_firstError_0 : decode cX5_firstError 0 = .ok (.aload_n 0, 1) := by decide +kernel
theorem dX5_firstError_1 : decode cX5_firstError 1 = .ok (.iconst 0, 1) := by decide +kernel
theorem dX5_firstError_2 : decode cX5_firstError 2 = .ok (.putfield 49, 3) := by decide +kernel
theorem dX5_firstError_5 : decode cX5_firstError 5 = .ok (.aload_n 0, 1) := by decide +kernel
theorem dX5_firstError_6 : decode cX5_firstError 6 = .ok (.invokevirtual 120, 3) := by decide +kernel
theorem dX5_firstError_9 : decode cX5_firstError 9 = .ok (.istore_n 1, 1) := by decide +kernel
theorem dX5_firstError_10 : decode cX5_firstError 10 = .ok (.iload_n 1, 1) := by decide +kernel
theorem dX5_firstError_11 : decode cX5_firstError 11 = .ok (.ifCond .ne 17, 3) := by decide +kernel
theorem dX5_firstError_14 : decode cX5_firstError 14 = .ok (.aload_n 0, 1) := by decide +kernel
theorem dX5_firstError_15 : decode cX5_firstError 15 = .ok (.getfield 74, 3) := by decide +kernel
theorem dX5_firstError_18 : decode cX5_firstError 18 = .ok (.ifCond .eq 10, 3) := by decide +kernel
theorem dX5_firstError_21 : decode cX5_firstError 21 = .ok (.aload_n 0, 1) := by decide +kernel
theorem dX5_firstError_22 : decode cX5_firstError 22 = .ok (.getfield 68, 3) := by decide +kernel
theorem dX5_firstError_25 : decode cX5_firstError 25 = .ok (.goto 7, 3) := by decide +kernel
theorem dX5_firstError_28 : decode cX5_firstError 28 = .ok (.aload_n 0, 1) := by decide +kernel
theorem dX5_firstError_29 : decode cX5_firstError 29 = .ok (.getfield 71, 3) := by decide +kernel
theorem dX5_firstError_32 : decode cX5_firstError 32 = .ok (.ireturn, 1) := by decide +kernel
set_option maxRecDepth 20000 in
theorem ggX5_joined_X5_in : GoodIn wsX5_joined wsX5_in := goodIn_r _ [4] (by decide +kernel) (by decide +kernel)
set_option maxRecDepth 20000 in
theorem gX5_joined_X5_in : GoodIn wsX5_joined (va_wsS RX5 53 yX5_in wsX5_in) := goodIn_app (goodIn_of _ (by decide +kernel)) ggX5_joined_X5_in
theorem dX5_joined_0 : decode cX5_joined 0 = .ok (.iload_n 0, 1) := by decide +kernel
theorem dX5_joined_1 : decode cX5_joined 1 = .ok (.iload_n 1, 1) := by decide +kernel
theorem dX5_joined_2 : decode cX5_joined 2 = .ok (.if_icmp .eq 7, 3) := by decide +kernel
theorem dX5_joined_5 : decode cX5_joined 5 = .ok (.iload_n 1, 1) := by decide +kernel
theorem dX5_joined_6 : decode cX5_joined 6 = .ok (.ifCond .ne 5, 3) := by decide +kernel
theorem dX5_joined_9 : decode cX5_joined 9 = .ok (.iload_n 0, 1) := by decide +kernel
theorem dX5_joined_10 : decode cX5_joined 10 = .ok (.ireturn, 1) := by decide +kernel
theorem dX5_joined_11 : decode cX5_joined 11 = .ok (.iload_n 0, 1) := by decide +kernel
theorem dX5_joined_12 : decode cX5_joined 12 = .ok (.ifCond .ne 5, 3) := by decide +kernel
theorem dX5_joined_15 : decode cX5_joined 15 = .ok (.iload_n 1, 1) := by decide +kernel
theorem dX5_joined_16 : decode cX5_joined 16 = .ok (.ireturn, 1) := by decide +kernel
theorem dX5_joined_17 : decode cX5_joined 17 = .ok (.iload_n 0, 1) := by decide +kernel
theorem dX5_joined_18 : decode cX5_joined 18 = .ok (.iconst 1, 1) := by decide +kernel
theorem dX5_joined_19 : decode cX5_joined 19 = .ok (.iconst 4, 1) := by decide +kernel
theorem dX5_joined_20 : decode cX5_joined 20 = .ok (.invokestatic 53, 3) := by decide +kernel
theorem dX5_joined_23 : decode cX5_joined 23 = .ok (.ifCond .eq 12, 3) := by decide +kernel
theorem dX5_joined_26 : decode cX5_joined 26 = .ok (.iload_n 1, 1) := by decide +kernel
theorem dX5_joined_27 : decode cX5_joined 27 = .ok (.iconst 1, 1) := by decide +kernel
theorem dX5_joined_28 : decode cX5_joined 28 = .ok (.iconst 4, 1) := by decide +kernel
theorem dX5_joined_29 : decode cX5_joined 29 = .ok (.invokestatic 53, 3) := by decide +kernel
theorem dX5_joined_32 : decode cX5_joined 32 = .ok (.ifCond .ne 6, 3) := by decide +kernel
theorem dX5_joined_35 : decode cX5_joined 35 = .ok (.bipush 7, 2) := by decide +kernel
theorem dX5_joined_37 : decode cX5_joined 37 = .ok (.ireturn, 1) := by decide +kernel
theorem dX5_joined_38 : decode cX5_joined 38 = .ok (.iload_n 0, 1) := by decide +kernel
theorem dX5_joined_39 : decode cX5_joined 39 = .ok (.iconst 2, 1) := by decide +kernel
theorem dX5_joined_40 : decode cX5_joined 40 = .ok (.iconst 3, 1) := by decide +kernel
theorem dX5_joined_41 : decode cX5_joined 41 = .ok (.invokestatic 53, 3) := by decide +kernel
theorem dX5_joined_44 : decode cX5_joined 44 = .ok (.ifCond .eq 16, 3) := by decide +kernel
theorem dX5_joined_47 : decode cX5_joined 47 = .ok (.iload_n 1, 1) := by decide +kernel
theorem dX5_joined_48 : decode cX5_joined 48 = .ok (.iconst 2, 1) := by decide +kernel
theorem dX5_joined_49 : decode cX5_joined 49 = .ok (.iconst 3, 1) := by decide +kernel
theorem dX5_joined_50 : decode cX5_joined 50 = .ok (.invokestatic 53, 3) := by decide +kernel
theorem dX5_joined_53 : decode cX5_joined 53 = .ok (.ifCond .eq 7, 3) := by decide +kernel
theorem dX5_joined_56 : decode cX5_joined 56 = .ok (.iconst 3, 1) := by decide +kernel
theorem dX5_joined_57 : decode cX5_joined 57 = .ok (.goto 4, 3) := by decide +kernel
theorem dX5_joined_60 : decode cX5_joined 60 = .ok (.iconst 4, 1) := by decide +kernel
theorem dX5_joined_61 : decode cX5_joined 61 = .ok (.ireturn, 1) := by decide +kernel
theorem dX5_lays_0 : decode cX5_lays 0 = .ok (.iconst 0, 1) := by decide +kernel
theorem dX5_lays_1 : decode cX5_lays 1 = .ok (.istore_n 2, 1) := by decide +kernel
theorem dX5_lays_2 : decode cX5_lays 2 = .ok (.iload_n 2, 1) := by decide +kernel
theorem dX5_lays_3 : decode cX5_lays 3 = .ok (.sipush 210, 3) := by decide +kernel
theorem dX5_lays_6 : decode cX5_lays 6 = .ok (.if_icmp .ge 29, 3) := by decide +kernel
theorem dX5_lays_9 : decode cX5_lays 9 = .ok (.aload_n 0, 1) := by decide +kernel
theorem dX5_lays_10 : decode cX5_lays 10 = .ok (.getfield 40, 3) := by decide +kernel
theorem dX5_lays_13 : decode cX5_lays 13 = .ok (.iload_n 2, 1) := by decide +kernel
theorem dX5_lays_14 : decode cX5_lays 14 = .ok (.aload_n 0, 1) := by decide +kernel
theorem dX5_lays_15 : decode cX5_lays 15 = .ok (.getfield 7, 3) := by decide +kernel
theorem dX5_lays_18 : decode cX5_lays 18 = .ok (.iconst 5, 1) := by decide +kernel
theorem dX5_lays_19 : decode cX5_lays 19 = .ok (.sipush 210, 3) := by decide +kernel
theorem dX5_lays_22 : decode cX5_lays 22 = .ok (.iload_n 1, 1) := by decide +kernel
theorem dX5_lays_23 : decode cX5_lays 23 = .ok (.imul, 1) := by decide +kernel
theorem dX5_lays_24 : decode cX5_lays 24 = .ok (.iadd, 1) := by decide +kernel
theorem dX5_lays_25 : decode cX5_lays 25 = .ok (.iload_n 2, 1) := by decide +kernel
theorem dX5_lays_26 : decode cX5_lays 26 = .ok (.iadd, 1) := by decide +kernel
theorem dX5_lays_27 : decode cX5_lays 27 = .ok (.iaload, 1) := by decide +kernel
theorem dX5_lays_28 : decode cX5_lays 28 = .ok (.iastore, 1) := by decide +kernel
theorem dX5_lays_29 : decode cX5_lays 29 = .ok (.iinc 2 1, 3) := by decide +kernel
theorem dX5_lays_32 : decode cX5_lays 32 = .ok (.goto (-30), 3) := by decide +kernel
theorem dX5_lays_35 : decode cX5_lays 35 = .ok (.aload_n 0, 1) := by decide +kernel
theorem dX5_lays_36 : decode cX5_lays 36 = .ok (.aload_n 0, 1) := by decide +kernel
theorem dX5_lays_37 : decode cX5_lays 37 = .ok (.getfield 7, 3) := by decide +kernel
theorem dX5_lays_40 : decode cX5_lays 40 = .ok (.iconst 3, 1) := by decide +kernel
theorem dX5_lays_41 : decode cX5_lays 41 = .ok (.iload_n 1, 1) := by decide +kernel
theorem dX5_lays_42 : decode cX5_lays 42 = .ok (.iadd, 1) := by decide +kernel
theorem dX5_lays_43 : decode cX5_lays 43 = .ok (.iaload, 1) := by decide +kernel
theorem dX5_lays_44 : decode cX5_lays 44 = .ok (.putfield 123, 3) := by decide +kernel
theorem dX5_lays_47 : decode cX5_lays 47 = .ok (.aload_n 0, 1) := by decide +kernel
theorem dX5_lays_48 : decode cX5_lays 48 = .ok (.iconst 0, 1) := by decide +kernel
theorem dX5_lays_49 : decode cX5_lays 49 = .ok (.putfield 126, 3) := by decide +kernel
theorem dX5_lays_52 : decode cX5_lays 52 = .ok (.return_, 1) := by decide +kernel
theorem dX5_childAt_0 : decode cX5_childAt 0 = .ok (.iconst 0, 1) := by decide +kernel
theorem dX5_childAt_1 : decode cX5_childAt 1 = .ok (.istore_n 3, 1) := by decide +kernel
theorem dX5_childAt_2 : decode cX5_childAt 2 = .ok (.iload_n 3, 1) := by decide +kernel
theorem dX5_childAt_3 : decode cX5_childAt 3 = .ok (.aload_n 0, 1) := by decide +kernel
theorem dX5_childAt_4 : decode cX5_childAt 4 = .ok (.getfield 123, 3) := by decide +kernel
theorem dX5_childAt_7 : decode cX5_childAt 7 = .ok (.if_icmp .ge 54, 3) := by decide +kernel
theorem dX5_childAt_10 : decode cX5_childAt 10 = .ok (.aload_n 0, 1) := by decide +kernel
theorem dX5_childAt_11 : decode cX5_childAt 11 = .ok (.getfield 40, 3) := by decide +kernel
theorem dX5_childAt_14 : decode cX5_childAt 14 = .ok (.bipush 7, 2) := by decide +kernel
theorem dX5_childAt_16 : decode cX5_childAt 16 = .ok (.iload_n 3, 1) := by decide +kernel
theorem dX5_childAt_17 : decode cX5_childAt 17 = .ok (.imul, 1) := by decide +kernel
theorem dX5_childAt_18 : decode cX5_childAt 18 = .ok (.iaload, 1) := by decide +kernel
theorem dX5_childAt_19 : decode cX5_childAt 19 = .ok (.iconst (-1), 1) := by decide +kernel
theorem dX5_childAt_20 : decode cX5_childAt 20 = .ok (.if_icmp .eq 35, 3) := by decide +kernel
theorem dX5_childAt_23 : decode cX5_childAt 23 = .ok (.aload_n 0, 1) := by decide +kernel
theorem dX5_childAt_24 : decode cX5_childAt 24 = .ok (.getfield 40, 3) := by decide +kernel
theorem dX5_childAt_27 : decode cX5_childAt 27 = .ok (.bipush 7, 2) := by decide +kernel
theorem dX5_childAt_29 : decode cX5_childAt 29 = .ok (.iload_n 3, 1) := by decide +kernel
theorem dX5_childAt_30 : decode cX5_childAt 30 = .ok (.imul, 1) := by decide +kernel
theorem dX5_childAt_31 : decode cX5_childAt 31 = .ok (.iconst 1, 1) := by decide +kernel
theorem dX5_childAt_32 : decode cX5_childAt 32 = .ok (.iadd, 1) := by decide +kernel
theorem dX5_childAt_33 : decode cX5_childAt 33 = .ok (.iaload, 1) := by decide +kernel
theorem dX5_childAt_34 : decode cX5_childAt 34 = .ok (.iload_n 1, 1) := by decide +kernel
theorem dX5_childAt_35 : decode cX5_childAt 35 = .ok (.if_icmp .ne 20, 3) := by decide +kernel
theorem dX5_childAt_38 : decode cX5_childAt 38 = .ok (.aload_n 0, 1) := by decide +kernel
theorem dX5_childAt_39 : decode cX5_childAt 39 = .ok (.getfield 40, 3) := by decide +kernel
theorem dX5_childAt_42 : decode cX5_childAt 42 = .ok (.bipush 7, 2) := by decide +kernel
theorem dX5_childAt_44 : decode cX5_childAt 44 = .ok (.iload_n 3, 1) := by decide +kernel
theorem dX5_childAt_45 : decode cX5_childAt 45 = .ok (.imul, 1) := by decide +kernel
theorem dX5_childAt_46 : decode cX5_childAt 46 = .ok (.iconst 2, 1) := by decide +kernel
theorem dX5_childAt_47 : decode cX5_childAt 47 = .ok (.iadd, 1) := by decide +kernel
theorem dX5_childAt_48 : decode cX5_childAt 48 = .ok (.iaload, 1) := by decide +kernel
theorem dX5_childAt_49 : decode cX5_childAt 49 = .ok (.iload_n 2, 1) := by decide +kernel
theorem dX5_childAt_50 : decode cX5_childAt 50 = .ok (.if_icmp .ne 5, 3) := by decide +kernel
theorem dX5_childAt_53 : decode cX5_childAt 53 = .ok (.iload_n 3, 1) := by decide +kernel
theorem dX5_childAt_54 : decode cX5_childAt 54 = .ok (.ireturn, 1) := by decide +kernel
theorem dX5_childAt_55 : decode cX5_childAt 55 = .ok (.iinc 3 1, 3) := by decide +kernel
theorem dX5_childAt_58 : decode cX5_childAt 58 = .ok (.goto (-56), 3) := by decide +kernel
theorem dX5_childAt_61 : decode cX5_childAt 61 = .ok (.iconst (-1), 1) := by decide +kernel
theorem dX5_childAt_62 : decode cX5_childAt 62 = .ok (.ireturn, 1) := by decide +kernel
theorem dX5_makes_0 : decode cX5_makes 0 = .ok (.bipush 7, 2) := by decide +kernel
theorem dX5_makes_2 : decode cX5_makes 2 = .ok (.aload_n 0, 1) := by decide +kernel
theorem dX5_makes_3 : decode cX5_makes 3 = .ok (.getfield 123, 3) := by decide +kernel
theorem dX5_makes_6 : decode cX5_makes 6 = .ok (.imul, 1) := by decide +kernel
theorem dX5_makes_7 : decode cX5_makes 7 = .ok (.istore 5, 2) := by decide +kernel
theorem dX5_makes_9 : decode cX5_makes 9 = .ok (.aload_n 0, 1) := by decide +kernel
theorem dX5_makes_10 : decode cX5_makes 10 = .ok (.getfield 40, 3) := by decide +kernel
theorem dX5_makes_13 : decode cX5_makes 13 = .ok (.iload 5, 2) := by decide +kernel
theorem dX5_makes_15 : decode cX5_makes 15 = .ok (.iload_n 3, 1) := by decide +kernel
theorem dX5_makes_16 : decode cX5_makes 16 = .ok (.iastore, 1) := by decide +kernel
theorem dX5_makes_17 : decode cX5_makes 17 = .ok (.aload_n 0, 1) := by decide +kernel
theorem dX5_makes_18 : decode cX5_makes 18 = .ok (.getfield 40, 3) := by decide +kernel
theorem dX5_makes_21 : decode cX5_makes 21 = .ok (.iload 5, 2) := by decide +kernel
theorem dX5_makes_23 : decode cX5_makes 23 = .ok (.iconst 1, 1) := by decide +kernel
theorem dX5_makes_24 : decode cX5_makes 24 = .ok (.iadd, 1) := by decide +kernel
theorem dX5_makes_25 : decode cX5_makes 25 = .ok (.iload_n 1, 1) := by decide +kernel
theorem dX5_makes_26 : decode cX5_makes 26 = .ok (.iastore, 1) := by decide +kernel
theorem dX5_makes_27 : decode cX5_makes 27 = .ok (.aload_n 0, 1) := by decide +kernel
theorem dX5_makes_28 : decode cX5_makes 28 = .ok (.getfield 40, 3) := by decide +kernel
theorem dX5_makes_31 : decode cX5_makes 31 = .ok (.iload 5, 2) := by decide +kernel
theorem dX5_makes_33 : decode cX5_makes 33 = .ok (.iconst 2, 1) := by decide +kernel
theorem dX5_makes_34 : decode cX5_makes 34 = .ok (.iadd, 1) := by decide +kernel
theorem dX5_makes_35 : decode cX5_makes 35 = .ok (.iload_n 2, 1) := by decide +kernel
theorem dX5_makes_36 : decode cX5_makes 36 = .ok (.iastore, 1) := by decide +kernel
theorem dX5_makes_37 : decode cX5_makes 37 = .ok (.aload_n 0, 1) := by decide +kernel
theorem dX5_makes_38 : decode cX5_makes 38 = .ok (.getfield 40, 3) := by decide +kernel
theorem dX5_makes_41 : decode cX5_makes 41 = .ok (.iload 5, 2) := by decide +kernel
theorem dX5_makes_43 : decode cX5_makes 43 = .ok (.iconst 3, 1) := by decide +kernel
theorem dX5_makes_44 : decode cX5_makes 44 = .ok (.iadd, 1) := by decide +kernel
theorem dX5_makes_45 : decode cX5_makes 45 = .ok (.iconst 0, 1) := by decide +kernel
theorem dX5_makes_46 : decode cX5_makes 46 = .ok (.iastore, 1) := by decide +kernel
theorem dX5_makes_47 : decode cX5_makes 47 = .ok (.aload_n 0, 1) := by decide +kernel
theorem dX5_makes_48 : decode cX5_makes 48 = .ok (.getfield 40, 3) := by decide +kernel
theorem dX5_makes_51 : decode cX5_makes 51 = .ok (.iload 5, 2) := by decide +kernel
theorem dX5_makes_53 : decode cX5_makes 53 = .ok (.iconst 4, 1) := by decide +kernel
theorem dX5_makes_54 : decode cX5_makes 54 = .ok (.iadd, 1) := by decide +kernel
theorem dX5_makes_55 : decode cX5_makes 55 = .ok (.iconst 0, 1) := by decide +kernel
theorem dX5_makes_56 : decode cX5_makes 56 = .ok (.iastore, 1) := by decide +kernel
theorem dX5_makes_57 : decode cX5_makes 57 = .ok (.aload_n 0, 1) := by decide +kernel
theorem dX5_makes_58 : decode cX5_makes 58 = .ok (.getfield 40, 3) := by decide +kernel
theorem dX5_makes_61 : decode cX5_makes 61 = .ok (.iload 5, 2) := by decide +kernel
theorem dX5_makes_63 : decode cX5_makes 63 = .ok (.iconst 5, 1) := by decide +kernel
theorem dX5_makes_64 : decode cX5_makes 64 = .ok (.iadd, 1) := by decide +kernel
theorem dX5_makes_65 : decode cX5_makes 65 = .ok (.iconst 0, 1) := by decide +kernel
theorem dX5_makes_66 : decode cX5_makes 66 = .ok (.iastore, 1) := by decide +kernel
theorem dX5_makes_67 : decode cX5_makes 67 = .ok (.aload_n 0, 1) := by decide +kernel
theorem dX5_makes_68 : decode cX5_makes 68 = .ok (.getfield 40, 3) := by decide +kernel
theorem dX5_makes_71 : decode cX5_makes 71 = .ok (.iload 5, 2) := by decide +kernel
theorem dX5_makes_73 : decode cX5_makes 73 = .ok (.bipush 6, 2) := by decide +kernel
theorem dX5_makes_75 : decode cX5_makes 75 = .ok (.iadd, 1) := by decide +kernel
theorem dX5_makes_76 : decode cX5_makes 76 = .ok (.iload 4, 2) := by decide +kernel
theorem dX5_makes_78 : decode cX5_makes 78 = .ok (.iastore, 1) := by decide +kernel
theorem dX5_makes_79 : decode cX5_makes 79 = .ok (.aload_n 0, 1) := by decide +kernel
theorem dX5_makes_80 : decode cX5_makes 80 = .ok (.dup, 1) := by decide +kernel
theorem dX5_makes_81 : decode cX5_makes 81 = .ok (.getfield 123, 3) := by decide +kernel
theorem dX5_makes_84 : decode cX5_makes 84 = .ok (.iconst 1, 1) := by decide +kernel
theorem dX5_makes_85 : decode cX5_makes 85 = .ok (.iadd, 1) := by decide +kernel
theorem dX5_makes_86 : decode cX5_makes 86 = .ok (.putfield 123, 3) := by decide +kernel
theorem dX5_makes_89 : decode cX5_makes 89 = .ok (.aload_n 0, 1) := by decide +kernel
theorem dX5_makes_90 : decode cX5_makes 90 = .ok (.getfield 123, 3) := by decide +kernel
theorem dX5_makes_93 : decode cX5_makes 93 = .ok (.iconst 1, 1) := by decide +kernel
theorem dX5_makes_94 : decode cX5_makes 94 = .ok (.isub, 1) := by decide +kernel
theorem dX5_makes_95 : decode cX5_makes 95 = .ok (.ireturn, 1) := by decide +kernel
theorem dX5_bares_0 : decode cX5_bares 0 = .ok (.iload_n 1, 1) := by decide +kernel
theorem dX5_bares_1 : decode cX5_bares 1 = .ok (.iconst 1, 1) := by decide +kernel
theorem dX5_bares_2 : decode cX5_bares 2 = .ok (.iadd, 1) := by decide +kernel
theorem dX5_bares_3 : decode cX5_bares 3 = .ok (.istore_n 2, 1) := by decide +kernel
theorem dX5_bares_4 : decode cX5_bares 4 = .ok (.iload_n 2, 1) := by decide +kernel
theorem dX5_bares_5 : decode cX5_bares 5 = .ok (.aload_n 0, 1) := by decide +kernel
theorem dX5_bares_6 : decode cX5_bares 6 = .ok (.getfield 123, 3) := by decide +kernel
theorem dX5_bares_9 : decode cX5_bares 9 = .ok (.if_icmp .ge 78, 3) := by decide +kernel
theorem dX5_bares_12 : decode cX5_bares 12 = .ok (.aload_n 0, 1) := by decide +kernel
theorem dX5_bares_13 : decode cX5_bares 13 = .ok (.getfield 40, 3) := by decide +kernel
theorem dX5_bares_16 : decode cX5_bares 16 = .ok (.bipush 7, 2) := by decide +kernel
theorem dX5_bares_18 : decode cX5_bares 18 = .ok (.iload_n 2, 1) := by decide +kernel
theorem dX5_bares_19 : decode cX5_bares 19 = .ok (.imul, 1) := by decide +kernel
theorem dX5_bares_20 : decode cX5_bares 20 = .ok (.iconst 1, 1) := by decide +kernel
theorem dX5_bares_21 : decode cX5_bares 21 = .ok (.iadd, 1) := by decide +kernel
theorem dX5_bares_22 : decode cX5_bares 22 = .ok (.iaload, 1) := by decide +kernel
theorem dX5_bares_23 : decode cX5_bares 23 = .ok (.istore_n 3, 1) := by decide +kernel
theorem dX5_bares_24 : decode cX5_bares 24 = .ok (.iload_n 3, 1) := by decide +kernel
theorem dX5_bares_25 : decode cX5_bares 25 = .ok (.iload_n 1, 1) := by decide +kernel
theorem dX5_bares_26 : decode cX5_bares 26 = .ok (.if_icmp .eq 21, 3) := by decide +kernel
theorem dX5_bares_29 : decode cX5_bares 29 = .ok (.iload_n 3, 1) := by decide +kernel
theorem dX5_bares_30 : decode cX5_bares 30 = .ok (.iload_n 1, 1) := by decide +kernel
theorem dX5_bares_31 : decode cX5_bares 31 = .ok (.if_icmp .le 20, 3) := by decide +kernel
theorem dX5_bares_34 : decode cX5_bares 34 = .ok (.aload_n 0, 1) := by decide +kernel
theorem dX5_bares_35 : decode cX5_bares 35 = .ok (.getfield 40, 3) := by decide +kernel
theorem dX5_bares_38 : decode cX5_bares 38 = .ok (.bipush 7, 2) := by decide +kernel
theorem dX5_bares_40 : decode cX5_bares 40 = .ok (.iload_n 3, 1) := by decide +kernel
theorem dX5_bares_41 : decode cX5_bares 41 = .ok (.imul, 1) := by decide +kernel
theorem dX5_bares_42 : decode cX5_bares 42 = .ok (.iaload, 1) := by decide +kernel
theorem dX5_bares_43 : decode cX5_bares 43 = .ok (.iconst (-1), 1) := by decide +kernel
theorem dX5_bares_44 : decode cX5_bares 44 = .ok (.if_icmp .ne 7, 3) := by decide +kernel
theorem dX5_bares_47 : decode cX5_bares 47 = .ok (.iconst 1, 1) := by decide +kernel
theorem dX5_bares_48 : decode cX5_bares 48 = .ok (.goto 4, 3) := by decide +kernel
theorem dX5_bares_51 : decode cX5_bares 51 = .ok (.iconst 0, 1) := by decide +kernel
theorem dX5_bares_52 : decode cX5_bares 52 = .ok (.istore 4, 2) := by decide +kernel
theorem dX5_bares_54 : decode cX5_bares 54 = .ok (.aload_n 0, 1) := by decide +kernel
theorem dX5_bares_55 : decode cX5_bares 55 = .ok (.getfield 40, 3) := by decide +kernel
theorem dX5_bares_58 : decode cX5_bares 58 = .ok (.bipush 7, 2) := by decide +kernel
theorem dX5_bares_60 : decode cX5_bares 60 = .ok (.iload_n 2, 1) := by decide +kernel
theorem dX5_bares_61 : decode cX5_bares 61 = .ok (.imul, 1) := by decide +kernel
theorem dX5_bares_62 : decode cX5_bares 62 = .ok (.iload 4, 2) := by decide +kernel
theorem dX5_bares_64 : decode cX5_bares 64 = .ok (.ifCond .eq 7, 3) := by decide +kernel
theorem dX5_bares_67 : decode cX5_bares 67 = .ok (.iconst (-1), 1) := by decide +kernel
theorem dX5_bares_68 : decode cX5_bares 68 = .ok (.goto 12, 3) := by decide +kernel
theorem dX5_bares_71 : decode cX5_bares 71 = .ok (.aload_n 0, 1) := by decide +kernel
theorem dX5_bares_72 : decode cX5_bares 72 = .ok (.getfield 40, 3) := by decide +kernel
theorem dX5_bares_75 : decode cX5_bares 75 = .ok (.bipush 7, 2) := by decide +kernel
theorem dX5_bares_77 : decode cX5_bares 77 = .ok (.iload_n 2, 1) := by decide +kernel
theorem dX5_bares_78 : decode cX5_bares 78 = .ok (.imul, 1) := by decide +kernel
theorem dX5_bares_79 : decode cX5_bares 79 = .ok (.iaload, 1) := by decide +kernel
theorem dX5_bares_80 : decode cX5_bares 80 = .ok (.iastore, 1) := by decide +kernel
theorem dX5_bares_81 : decode cX5_bares 81 = .ok (.iinc 2 1, 3) := by decide +kernel
theorem dX5_bares_84 : decode cX5_bares 84 = .ok (.goto (-80), 3) := by decide +kernel
theorem dX5_bares_87 : decode cX5_bares 87 = .ok (.return_, 1) := by decide +kernel
set_option maxRecDepth 20000 in
theorem ggX5_widens_X5_bares : GoodIn wsX5_widens wsX5_bares := goodIn_r _ [7, 8, 1, 9, 10, 11, 12, 13, 14, 15, 16, 17, 18, 19, 20, 21, 22, 23, 24, 25, 26, 27, 28, 29, 30, 31, 32, 33, 34] (by decide +kernel) (by decide +kernel)
set_option maxRecDepth 20000 in
theorem gX5_widens_X5_bares : GoodIn wsX5_widens (wsV RX5 129 RX5 yX5_bares wsX5_bares) := goodIn_app (goodIn_of _ (by decide +kernel)) ggX5_widens_X5_bares
theorem dX5_widens_0 : decode cX5_widens 0 = .ok (.bipush 7, 2) := by decide +kernel
theorem dX5_widens_2 : decode cX5_widens 2 = .ok (.iload_n 1, 1) := by decide +kernel
theorem dX5_widens_3 : decode cX5_widens 3 = .ok (.imul, 1) := by decide +kernel
theorem dX5_widens_4 : decode cX5_widens 4 = .ok (.istore 4, 2) := by decide +kernel
theorem dX5_widens_6 : decode cX5_widens 6 = .ok (.iload_n 2, 1) := by decide +kernel
theorem dX5_widens_7 : decode cX5_widens 7 = .ok (.aload_n 0, 1) := by decide +kernel
theorem dX5_widens_8 : decode cX5_widens 8 = .ok (.getfield 40, 3) := by decide +kernel
theorem dX5_widens_11 : decode cX5_widens 11 = .ok (.iload 4, 2) := by decide +kernel
theorem dX5_widens_13 : decode cX5_widens 13 = .ok (.iaload, 1) := by decide +kernel
theorem dX5_widens_14 : decode cX5_widens 14 = .ok (.if_icmp .eq 38, 3) := by decide +kernel
theorem dX5_widens_17 : decode cX5_widens 17 = .ok (.aload_n 0, 1) := by decide +kernel
theorem dX5_widens_18 : decode cX5_widens 18 = .ok (.getfield 40, 3) := by decide +kernel
theorem dX5_widens_21 : decode cX5_widens 21 = .ok (.iload 4, 2) := by decide +kernel
theorem dX5_widens_23 : decode cX5_widens 23 = .ok (.iload_n 2, 1) := by decide +kernel
theorem dX5_widens_24 : decode cX5_widens 24 = .ok (.iastore, 1) := by decide +kernel
theorem dX5_widens_25 : decode cX5_widens 25 = .ok (.aload_n 0, 1) := by decide +kernel
theorem dX5_widens_26 : decode cX5_widens 26 = .ok (.getfield 40, 3) := by decide +kernel
theorem dX5_widens_29 : decode cX5_widens 29 = .ok (.iload 4, 2) := by decide +kernel
theorem dX5_widens_31 : decode cX5_widens 31 = .ok (.bipush 6, 2) := by decide +kernel
theorem dX5_widens_33 : decode cX5_widens 33 = .ok (.iadd, 1) := by decide +kernel
theorem dX5_widens_34 : decode cX5_widens 34 = .ok (.iload_n 3, 1) := by decide +kernel
theorem dX5_widens_35 : decode cX5_widens 35 = .ok (.iastore, 1) := by decide +kernel
theorem dX5_widens_36 : decode cX5_widens 36 = .ok (.iload_n 2, 1) := by decide +kernel
theorem dX5_widens_37 : decode cX5_widens 37 = .ok (.bipush 7, 2) := by decide +kernel
theorem dX5_widens_39 : decode cX5_widens 39 = .ok (.if_icmp .ne 13, 3) := by decide +kernel
theorem dX5_widens_42 : decode cX5_widens 42 = .ok (.aload_n 0, 1) := by decide +kernel
theorem dX5_widens_43 : decode cX5_widens 43 = .ok (.iconst 1, 1) := by decide +kernel
theorem dX5_widens_44 : decode cX5_widens 44 = .ok (.putfield 126, 3) := by decide +kernel
theorem dX5_widens_47 : decode cX5_widens 47 = .ok (.aload_n 0, 1) := by decide +kernel
theorem dX5_widens_48 : decode cX5_widens 48 = .ok (.iload_n 1, 1) := by decide +kernel
theorem dX5_widens_49 : decode cX5_widens 49 = .ok (.invokevirtual 129, 3) := by decide +kernel
theorem dX5_widens_52 : decode cX5_widens 52 = .ok (.return_, 1) := by decide +kernel
theorem dX5_nodes_0 : decode cX5_nodes 0 = .ok (.iconst 0, 1) := by decide +kernel
theorem dX5_nodes_1 : decode cX5_nodes 1 = .ok (.istore_n 1, 1) := by decide +kernel
theorem dX5_nodes_2 : decode cX5_nodes 2 = .ok (.iconst 0, 1) := by decide +kernel
theorem dX5_nodes_3 : decode cX5_nodes 3 = .ok (.istore_n 2, 1) := by decide +kernel
theorem dX5_nodes_4 : decode cX5_nodes 4 = .ok (.iload_n 2, 1) := by decide +kernel
theorem dX5_nodes_5 : decode cX5_nodes 5 = .ok (.aload_n 0, 1) := by decide +kernel
theorem dX5_nodes_6 : decode cX5_nodes 6 = .ok (.getfield 123, 3) := by decide +kernel
theorem dX5_nodes_9 : decode cX5_nodes 9 = .ok (.if_icmp .ge 30, 3) := by decide +kernel
theorem dX5_nodes_12 : decode cX5_nodes 12 = .ok (.iload_n 1, 1) := by decide +kernel
theorem dX5_nodes_13 : decode cX5_nodes 13 = .ok (.aload_n 0, 1) := by decide +kernel
theorem dX5_nodes_14 : decode cX5_nodes 14 = .ok (.getfield 40, 3) := by decide +kernel
theorem dX5_nodes_17 : decode cX5_nodes 17 = .ok (.bipush 7, 2) := by decide +kernel
theorem dX5_nodes_19 : decode cX5_nodes 19 = .ok (.iload_n 2, 1) := by decide +kernel
theorem dX5_nodes_20 : decode cX5_nodes 20 = .ok (.imul, 1) := by decide +kernel
theorem dX5_nodes_21 : decode cX5_nodes 21 = .ok (.iaload, 1) := by decide +kernel
theorem dX5_nodes_22 : decode cX5_nodes 22 = .ok (.iconst (-1), 1) := by decide +kernel
theorem dX5_nodes_23 : decode cX5_nodes 23 = .ok (.if_icmp .ne 7, 3) := by decide +kernel
theorem dX5_nodes_26 : decode cX5_nodes 26 = .ok (.iconst 0, 1) := by decide +kernel
theorem dX5_nodes_27 : decode cX5_nodes 27 = .ok (.goto 4, 3) := by decide +kernel
theorem dX5_nodes_30 : decode cX5_nodes 30 = .ok (.iconst 1, 1) := by decide +kernel
theorem dX5_nodes_31 : decode cX5_nodes 31 = .ok (.iadd, 1) := by decide +kernel
theorem dX5_nodes_32 : decode cX5_nodes 32 = .ok (.istore_n 1, 1) := by decide +kernel
theorem dX5_nodes_33 : decode cX5_nodes 33 = .ok (.iinc 2 1, 3) := by decide +kernel
theorem dX5_nodes_36 : decode cX5_nodes 36 = .ok (.goto (-32), 3) := by decide +kernel
theorem dX5_nodes_39 : decode cX5_nodes 39 = .ok (.iload_n 1, 1) := by decide +kernel
theorem dX5_nodes_40 : decode cX5_nodes 40 = .ok (.ireturn, 1) := by decide +kernel
set_option maxRecDepth 20000 in
theorem ggX5_nodeFor_X5_childAt : GoodIn wsX5_nodeFor wsX5_childAt := goodIn_r _ [11, 4, 3, 16, 17, 18, 19, 20, 21, 22, 23, 24, 25, 26, 27, 28, 29, 30, 31, 32, 33, 34, 35, 36, 37, 38, 39, 40, 41] (by decide +kernel) (by decide +kernel)
set_option maxRecDepth 20000 in
theorem gX5_nodeFor_X5_childAt : GoodIn wsX5_nodeFor (wsV RX5 133 RX5 yX5_childAt wsX5_childAt) := goodIn_app (goodIn_of _ (by decide +kernel)) ggX5_nodeFor_X5_childAt
set_option maxRecDepth 20000 in
theorem ggX5_nodeFor_X5_makes : GoodIn wsX5_nodeFor wsX5_makes := goodIn_r _ [15, 4, 3, 16, 17, 18, 19, 20, 21, 22, 23, 24, 25, 26, 27, 28, 29, 30, 31, 32, 33, 34, 35, 36, 37, 38, 39, 40, 41] (by decide +kernel) (by decide +kernel)
set_option maxRecDepth 20000 in
theorem gX5_nodeFor_X5_makes : GoodIn wsX5_nodeFor (wsV RX5 137 RX5 yX5_makes wsX5_makes) := goodIn_app (goodIn_of _ (by decide +kernel)) ggX5_nodeFor_X5_makes
theorem dX5_nodeFor_0 : decode cX5_nodeFor 0 = .ok (.iload_n 1, 1) := by decide +kernel
theorem dX5_nodeFor_1 : decode cX5_nodeFor 1 = .ok (.ifCond .ne 7, 3) := by decide +kernel
theorem dX5_nodeFor_4 : decode cX5_nodeFor 4 = .ok (.iconst (-1), 1) := by decide +kernel
theorem dX5_nodeFor_5 : decode cX5_nodeFor 5 = .ok (.goto 14, 3) := by decide +kernel
theorem dX5_nodeFor_8 : decode cX5_nodeFor 8 = .ok (.aload_n 0, 1) := by decide +kernel
theorem dX5_nodeFor_9 : decode cX5_nodeFor 9 = .ok (.getfield 43, 3) := by decide +kernel
theorem dX5_nodeFor_12 : decode cX5_nodeFor 12 = .ok (.aload_n 0, 1) := by decide +kernel
theorem dX5_nodeFor_13 : decode cX5_nodeFor 13 = .ok (.getfield 22, 3) := by decide +kernel
theorem dX5_nodeFor_16 : decode cX5_nodeFor 16 = .ok (.iload_n 1, 1) := by decide +kernel
theorem dX5_nodeFor_17 : decode cX5_nodeFor 17 = .ok (.iaload, 1) := by decide +kernel
theorem dX5_nodeFor_18 : decode cX5_nodeFor 18 = .ok (.iaload, 1) := by decide +kernel
theorem dX5_nodeFor_19 : decode cX5_nodeFor 19 = .ok (.istore_n 3, 1) := by decide +kernel
theorem dX5_nodeFor_20 : decode cX5_nodeFor 20 = .ok (.iload_n 1, 1) := by decide +kernel
theorem dX5_nodeFor_21 : decode cX5_nodeFor 21 = .ok (.ifCond .le 24, 3) := by decide +kernel
theorem dX5_nodeFor_24 : decode cX5_nodeFor 24 = .ok (.iload_n 3, 1) := by decide +kernel
theorem dX5_nodeFor_25 : decode cX5_nodeFor 25 = .ok (.iconst (-1), 1) := by decide +kernel
theorem dX5_nodeFor_26 : decode cX5_nodeFor 26 = .ok (.if_icmp .eq 17, 3) := by decide +kernel
theorem dX5_nodeFor_29 : decode cX5_nodeFor 29 = .ok (.aload_n 0, 1) := by decide +kernel
theorem dX5_nodeFor_30 : decode cX5_nodeFor 30 = .ok (.getfield 40, 3) := by decide +kernel
theorem dX5_nodeFor_33 : decode cX5_nodeFor 33 = .ok (.bipush 7, 2) := by decide +kernel
theorem dX5_nodeFor_35 : decode cX5_nodeFor 35 = .ok (.iload_n 3, 1) := by decide +kernel
theorem dX5_nodeFor_36 : decode cX5_nodeFor 36 = .ok (.imul, 1) := by decide +kernel
theorem dX5_nodeFor_37 : decode cX5_nodeFor 37 = .ok (.iaload, 1) := by decide +kernel
theorem dX5_nodeFor_38 : decode cX5_nodeFor 38 = .ok (.bipush 7, 2) := by decide +kernel
theorem dX5_nodeFor_40 : decode cX5_nodeFor 40 = .ok (.if_icmp .ne 5, 3) := by decide +kernel
theorem dX5_nodeFor_43 : decode cX5_nodeFor 43 = .ok (.iconst (-1), 1) := by decide +kernel
theorem dX5_nodeFor_44 : decode cX5_nodeFor 44 = .ok (.ireturn, 1) := by decide +kernel
theorem dX5_nodeFor_45 : decode cX5_nodeFor 45 = .ok (.iload_n 1, 1) := by decide +kernel
theorem dX5_nodeFor_46 : decode cX5_nodeFor 46 = .ok (.ifCond .ne 14, 3) := by decide +kernel
theorem dX5_nodeFor_49 : decode cX5_nodeFor 49 = .ok (.aload_n 0, 1) := by decide +kernel
theorem dX5_nodeFor_50 : decode cX5_nodeFor 50 = .ok (.getfield 123, 3) := by decide +kernel
theorem dX5_nodeFor_53 : decode cX5_nodeFor 53 = .ok (.ifCond .le 7, 3) := by decide +kernel
theorem dX5_nodeFor_56 : decode cX5_nodeFor 56 = .ok (.iconst 0, 1) := by decide +kernel
theorem dX5_nodeFor_57 : decode cX5_nodeFor 57 = .ok (.goto 14, 3) := by decide +kernel
theorem dX5_nodeFor_60 : decode cX5_nodeFor 60 = .ok (.aload_n 0, 1) := by decide +kernel
theorem dX5_nodeFor_61 : decode cX5_nodeFor 61 = .ok (.iload_n 3, 1) := by decide +kernel
theorem dX5_nodeFor_62 : decode cX5_nodeFor 62 = .ok (.aload_n 0, 1) := by decide +kernel
theorem dX5_nodeFor_63 : decode cX5_nodeFor 63 = .ok (.getfield 25, 3) := by decide +kernel
theorem dX5_nodeFor_66 : decode cX5_nodeFor 66 = .ok (.iload_n 1, 1) := by decide +kernel
theorem dX5_nodeFor_67 : decode cX5_nodeFor 67 = .ok (.iaload, 1) := by decide +kernel
theorem dX5_nodeFor_68 : decode cX5_nodeFor 68 = .ok (.invokevirtual 133, 3) := by decide +kernel
theorem dX5_nodeFor_71 : decode cX5_nodeFor 71 = .ok (.istore 4, 2) := by decide +kernel
theorem dX5_nodeFor_73 : decode cX5_nodeFor 73 = .ok (.iload 4, 2) := by decide +kernel
theorem dX5_nodeFor_75 : decode cX5_nodeFor 75 = .ok (.iconst (-1), 1) := by decide +kernel
theorem dX5_nodeFor_76 : decode cX5_nodeFor 76 = .ok (.if_icmp .ne 24, 3) := by decide +kernel
theorem dX5_nodeFor_79 : decode cX5_nodeFor 79 = .ok (.aload_n 0, 1) := by decide +kernel
theorem dX5_nodeFor_80 : decode cX5_nodeFor 80 = .ok (.iload_n 3, 1) := by decide +kernel
theorem dX5_nodeFor_81 : decode cX5_nodeFor 81 = .ok (.aload_n 0, 1) := by decide +kernel
theorem dX5_nodeFor_82 : decode cX5_nodeFor 82 = .ok (.getfield 25, 3) := by decide +kernel
theorem dX5_nodeFor_85 : decode cX5_nodeFor 85 = .ok (.iload_n 1, 1) := by decide +kernel
theorem dX5_nodeFor_86 : decode cX5_nodeFor 86 = .ok (.iaload, 1) := by decide +kernel
theorem dX5_nodeFor_87 : decode cX5_nodeFor 87 = .ok (.aload_n 0, 1) := by decide +kernel
theorem dX5_nodeFor_88 : decode cX5_nodeFor 88 = .ok (.getfield 19, 3) := by decide +kernel
theorem dX5_nodeFor_91 : decode cX5_nodeFor 91 = .ok (.iload_n 1, 1) := by decide +kernel
theorem dX5_nodeFor_92 : decode cX5_nodeFor 92 = .ok (.iaload, 1) := by decide +kernel
theorem dX5_nodeFor_93 : decode cX5_nodeFor 93 = .ok (.iload_n 2, 1) := by decide +kernel
theorem dX5_nodeFor_94 : decode cX5_nodeFor 94 = .ok (.invokevirtual 137, 3) := by decide +kernel
theorem dX5_nodeFor_97 : decode cX5_nodeFor 97 = .ok (.goto 5, 3) := by decide +kernel
theorem dX5_nodeFor_100 : decode cX5_nodeFor 100 = .ok (.iload 4, 2) := by decide +kernel
theorem dX5_nodeFor_102 : decode cX5_nodeFor 102 = .ok (.ireturn, 1) := by decide +kernel
set_option maxRecDepth 20000 in
theorem ggX5_shows_X5_lays : GoodIn wsX5_shows wsX5_lays := goodIn_r _ [10, 4, 1, 11, 12, 41, 42, 43, 44, 45, 46, 47, 48, 49, 50, 51, 52, 53, 54, 55, 56, 57, 58, 59, 60, 61, 62, 63, 64, 65, 66] (by decide +kernel) (by decide +kernel)
set_option maxRecDepth 20000 in
theorem gX5_shows_X5_lays : GoodIn wsX5_shows (wsV RX5 141 RX5 yX5_lays wsX5_lays) := goodIn_app (goodIn_of _ (by decide +kernel)) ggX5_shows_X5_lays
set_option maxRecDepth 20000 in
theorem ggX5_shows_X5_nodeFor : GoodIn wsX5_shows wsX5_nodeFor := goodIn_r _ [16, 3, 17, 4, 11, 18, 5, 19, 20, 21, 9, 22, 23, 24, 25, 26, 41, 42, 43, 44, 45, 46, 47, 48, 49, 50, 51, 52, 53, 54, 55, 56, 57, 58, 59, 60, 61, 62, 63, 64, 65, 66] (by decide +kernel) (by decide +kernel)
set_option maxRecDepth 20000 in
theorem gX5_shows_X5_nodeFor : GoodIn wsX5_shows (wsV RX5 144 RX5 yX5_nodeFor wsX5_nodeFor) := goodIn_app (goodIn_of _ (by decide +kernel)) ggX5_shows_X5_nodeFor
set_option maxRecDepth 20000 in
theorem ggX5_shows_X5_joined : GoodIn wsX5_shows wsX5_joined := goodIn_r _ [29, 30, 31, 9, 32] (by decide +kernel) (by decide +kernel)
set_option maxRecDepth 20000 in
theorem gX5_shows_X5_joined : GoodIn wsX5_shows (va_wsS RX5 147 yX5_joined wsX5_joined) := goodIn_app (goodIn_of _ (by decide +kernel)) ggX5_shows_X5_joined
set_option maxRecDepth 20000 in
theorem ggX5_shows_X5_widens : GoodIn wsX5_shows wsX5_widens := goodIn_r _ [36, 4, 12, 37, 38, 39, 9, 40, 11, 41, 42, 43, 44, 45, 46, 47, 48, 49, 50, 51, 52, 53, 54, 55, 56, 57, 58, 59, 60, 61, 62, 63, 64, 65, 66] (by decide +kernel) (by decide +kernel)
set_option maxRecDepth 20000 in
theorem gX5_shows_X5_widens : GoodIn wsX5_shows (wsV RX5 150 RX5 yX5_widens wsX5_widens) := goodIn_app (goodIn_of _ (by decide +kernel)) ggX5_shows_X5_widens
theorem dX5_shows_0 : decode cX5_shows 0 = .ok (.aload_n 0, 1) := by decide +kernel
theorem dX5_shows_1 : decode cX5_shows 1 = .ok (.iload_n 1, 1) := by decide +kernel
theorem dX5_shows_2 : decode cX5_shows 2 = .ok (.invokevirtual 141, 3) := by decide +kernel
theorem dX5_shows_5 : decode cX5_shows 5 = .ok (.aload_n 0, 1) := by decide +kernel
theorem dX5_shows_6 : decode cX5_shows 6 = .ok (.getfield 7, 3) := by decide +kernel
theorem dX5_shows_9 : decode cX5_shows 9 = .ok (.iconst 1, 1) := by decide +kernel
theorem dX5_shows_10 : decode cX5_shows 10 = .ok (.iload_n 1, 1) := by decide +kernel
theorem dX5_shows_11 : decode cX5_shows 11 = .ok (.iadd, 1) := by decide +kernel
theorem dX5_shows_12 : decode cX5_shows 12 = .ok (.iaload, 1) := by decide +kernel
theorem dX5_shows_13 : decode cX5_shows 13 = .ok (.iconst 1, 1) := by decide +kernel
theorem dX5_shows_14 : decode cX5_shows 14 = .ok (.iadd, 1) := by decide +kernel
theorem dX5_shows_15 : decode cX5_shows 15 = .ok (.istore_n 2, 1) := by decide +kernel
theorem dX5_shows_16 : decode cX5_shows 16 = .ok (.iconst 0, 1) := by decide +kernel
theorem dX5_shows_17 : decode cX5_shows 17 = .ok (.istore_n 3, 1) := by decide +kernel
theorem dX5_shows_18 : decode cX5_shows 18 = .ok (.iload_n 3, 1) := by decide +kernel
theorem dX5_shows_19 : decode cX5_shows 19 = .ok (.aload_n 0, 1) := by decide +kernel
theorem dX5_shows_20 : decode cX5_shows 20 = .ok (.getfield 82, 3) := by decide +kernel
theorem dX5_shows_23 : decode cX5_shows 23 = .ok (.if_icmp .ge 133, 3) := by decide +kernel
theorem dX5_shows_26 : decode cX5_shows 26 = .ok (.aload_n 0, 1) := by decide +kernel
theorem dX5_shows_27 : decode cX5_shows 27 = .ok (.iload_n 3, 1) := by decide +kernel
theorem dX5_shows_28 : decode cX5_shows 28 = .ok (.iload_n 2, 1) := by decide +kernel
theorem dX5_shows_29 : decode cX5_shows 29 = .ok (.invokevirtual 144, 3) := by decide +kernel
theorem dX5_shows_32 : decode cX5_shows 32 = .ok (.istore 4, 2) := by decide +kernel
theorem dX5_shows_34 : decode cX5_shows 34 = .ok (.aload_n 0, 1) := by decide +kernel
theorem dX5_shows_35 : decode cX5_shows 35 = .ok (.getfield 43, 3) := by decide +kernel
theorem dX5_shows_38 : decode cX5_shows 38 = .ok (.iload_n 3, 1) := by decide +kernel
theorem dX5_shows_39 : decode cX5_shows 39 = .ok (.iload 4, 2) := by decide +kernel
theorem dX5_shows_41 : decode cX5_shows 41 = .ok (.iastore, 1) := by decide +kernel
theorem dX5_shows_42 : decode cX5_shows 42 = .ok (.iload 4, 2) := by decide +kernel
theorem dX5_shows_44 : decode cX5_shows 44 = .ok (.iconst (-1), 1) := by decide +kernel
theorem dX5_shows_45 : decode cX5_shows 45 = .ok (.if_icmp .eq 105, 3) := by decide +kernel
theorem dX5_shows_48 : decode cX5_shows 48 = .ok (.bipush 7, 2) := by decide +kernel
theorem dX5_shows_50 : decode cX5_shows 50 = .ok (.iload 4, 2) := by decide +kernel
theorem dX5_shows_52 : decode cX5_shows 52 = .ok (.imul, 1) := by decide +kernel
theorem dX5_shows_53 : decode cX5_shows 53 = .ok (.istore 5, 2) := by decide +kernel
theorem dX5_shows_55 : decode cX5_shows 55 = .ok (.aload_n 0, 1) := by decide +kernel
theorem dX5_shows_56 : decode cX5_shows 56 = .ok (.getfield 40, 3) := by decide +kernel
theorem dX5_shows_59 : decode cX5_shows 59 = .ok (.iload 5, 2) := by decide +kernel
theorem dX5_shows_61 : decode cX5_shows 61 = .ok (.iconst 3, 1) := by decide +kernel
theorem dX5_shows_62 : decode cX5_shows 62 = .ok (.iadd, 1) := by decide +kernel
theorem dX5_shows_63 : decode cX5_shows 63 = .ok (.dup2, 1) := by decide +kernel
theorem dX5_shows_64 : decode cX5_shows 64 = .ok (.iaload, 1) := by decide +kernel
theorem dX5_shows_65 : decode cX5_shows 65 = .ok (.iconst 1, 1) := by decide +kernel
theorem dX5_shows_66 : decode cX5_shows 66 = .ok (.iadd, 1) := by decide +kernel
theorem dX5_shows_67 : decode cX5_shows 67 = .ok (.iastore, 1) := by decide +kernel
theorem dX5_shows_68 : decode cX5_shows 68 = .ok (.aload_n 0, 1) := by decide +kernel
theorem dX5_shows_69 : decode cX5_shows 69 = .ok (.getfield 40, 3) := by decide +kernel
theorem dX5_shows_72 : decode cX5_shows 72 = .ok (.iload 5, 2) := by decide +kernel
theorem dX5_shows_74 : decode cX5_shows 74 = .ok (.iconst 5, 1) := by decide +kernel
theorem dX5_shows_75 : decode cX5_shows 75 = .ok (.iadd, 1) := by decide +kernel
theorem dX5_shows_76 : decode cX5_shows 76 = .ok (.dup2, 1) := by decide +kernel
theorem dX5_shows_77 : decode cX5_shows 77 = .ok (.iaload, 1) := by decide +kernel
theorem dX5_shows_78 : decode cX5_shows 78 = .ok (.aload_n 0, 1) := by decide +kernel
theorem dX5_shows_79 : decode cX5_shows 79 = .ok (.getfield 19, 3) := by decide +kernel
theorem dX5_shows_82 : decode cX5_shows 82 = .ok (.iload_n 3, 1) := by decide +kernel
theorem dX5_shows_83 : decode cX5_shows 83 = .ok (.iaload, 1) := by decide +kernel
theorem dX5_shows_84 : decode cX5_shows 84 = .ok (.bipush 6, 2) := by decide +kernel
theorem dX5_shows_86 : decode cX5_shows 86 = .ok (.if_icmp .ne 7, 3) := by decide +kernel
theorem dX5_shows_89 : decode cX5_shows 89 = .ok (.iconst 1, 1) := by decide +kernel
theorem dX5_shows_90 : decode cX5_shows 90 = .ok (.goto 4, 3) := by decide +kernel
theorem dX5_shows_93 : decode cX5_shows 93 = .ok (.iconst 0, 1) := by decide +kernel
theorem dX5_shows_94 : decode cX5_shows 94 = .ok (.iadd, 1) := by decide +kernel
theorem dX5_shows_95 : decode cX5_shows 95 = .ok (.iastore, 1) := by decide +kernel
theorem dX5_shows_96 : decode cX5_shows 96 = .ok (.aload_n 0, 1) := by decide +kernel
theorem dX5_shows_97 : decode cX5_shows 97 = .ok (.getfield 40, 3) := by decide +kernel
theorem dX5_shows_100 : decode cX5_shows 100 = .ok (.iload 5, 2) := by decide +kernel
theorem dX5_shows_102 : decode cX5_shows 102 = .ok (.iconst 4, 1) := by decide +kernel
theorem dX5_shows_103 : decode cX5_shows 103 = .ok (.iadd, 1) := by decide +kernel
theorem dX5_shows_104 : decode cX5_shows 104 = .ok (.aload_n 0, 1) := by decide +kernel
theorem dX5_shows_105 : decode cX5_shows 105 = .ok (.getfield 19, 3) := by decide +kernel
theorem dX5_shows_108 : decode cX5_shows 108 = .ok (.iload_n 3, 1) := by decide +kernel
theorem dX5_shows_109 : decode cX5_shows 109 = .ok (.iaload, 1) := by decide +kernel
theorem dX5_shows_110 : decode cX5_shows 110 = .ok (.ifCond .ne 7, 3) := by decide +kernel
theorem dX5_shows_113 : decode cX5_shows 113 = .ok (.iconst 1, 1) := by decide +kernel
theorem dX5_shows_114 : decode cX5_shows 114 = .ok (.goto 12, 3) := by decide +kernel
theorem dX5_shows_117 : decode cX5_shows 117 = .ok (.aload_n 0, 1) := by decide +kernel
theorem dX5_shows_118 : decode cX5_shows 118 = .ok (.getfield 40, 3) := by decide +kernel
theorem dX5_shows_121 : decode cX5_shows 121 = .ok (.iload 5, 2) := by decide +kernel
theorem dX5_shows_123 : decode cX5_shows 123 = .ok (.iconst 4, 1) := by decide +kernel
theorem dX5_shows_124 : decode cX5_shows 124 = .ok (.iadd, 1) := by decide +kernel
theorem dX5_shows_125 : decode cX5_shows 125 = .ok (.iaload, 1) := by decide +kernel
theorem dX5_shows_126 : decode cX5_shows 126 = .ok (.iastore, 1) := by decide +kernel
theorem dX5_shows_127 : decode cX5_shows 127 = .ok (.aload_n 0, 1) := by decide +kernel
theorem dX5_shows_128 : decode cX5_shows 128 = .ok (.iload 4, 2) := by decide +kernel
theorem dX5_shows_130 : decode cX5_shows 130 = .ok (.aload_n 0, 1) := by decide +kernel
theorem dX5_shows_131 : decode cX5_shows 131 = .ok (.getfield 40, 3) := by decide +kernel
theorem dX5_shows_134 : decode cX5_shows 134 = .ok (.iload 5, 2) := by decide +kernel
theorem dX5_shows_136 : decode cX5_shows 136 = .ok (.iaload, 1) := by decide +kernel
theorem dX5_shows_137 : decode cX5_shows 137 = .ok (.aload_n 0, 1) := by decide +kernel
theorem dX5_shows_138 : decode cX5_shows 138 = .ok (.getfield 19, 3) := by decide +kernel
theorem dX5_shows_141 : decode cX5_shows 141 = .ok (.iload_n 3, 1) := by decide +kernel
theorem dX5_shows_142 : decode cX5_shows 142 = .ok (.iaload, 1) := by decide +kernel
theorem dX5_shows_143 : decode cX5_shows 143 = .ok (.invokestatic 147, 3) := by decide +kernel
theorem dX5_shows_146 : decode cX5_shows 146 = .ok (.iload_n 2, 1) := by decide +kernel
theorem dX5_shows_147 : decode cX5_shows 147 = .ok (.invokevirtual 150, 3) := by decide +kernel
theorem dX5_shows_150 : decode cX5_shows 150 = .ok (.iinc 3 1, 3) := by decide +kernel
theorem dX5_shows_153 : decode cX5_shows 153 = .ok (.goto (-135), 3) := by decide +kernel
theorem dX5_shows_156 : decode cX5_shows 156 = .ok (.return_, 1) := by decide +kernel
set_option maxRecDepth 20000 in
theorem ggX5_isRefused_X5_nodes : GoodIn wsX5_isRefused wsX5_nodes := goodIn_r _ [7, 8, 9, 10, 11, 12, 13, 14, 15, 16, 17, 18, 19, 20, 21, 22, 23, 24, 25, 26, 27, 28, 29, 30, 31, 32, 33, 34, 35] (by decide +kernel) (by decide +kernel)
set_option maxRecDepth 20000 in
theorem gX5_isRefused_X5_nodes : GoodIn wsX5_isRefused (wsV RX5 153 RX5 yX5_nodes wsX5_nodes) := goodIn_app (goodIn_of _ (by decide +kernel)) ggX5_isRefused_X5_nodes
theorem dX5_isRefused_0 : decode cX5_isRefused 0 = .ok (.aload_n 0, 1) := by decide +kernel
theorem dX5_isRefused_1 : decode cX5_isRefused 1 = .ok (.invokevirtual 153, 3) := by decide +kernel
theorem dX5_isRefused_4 : decode cX5_isRefused 4 = .ok (.bipush 30, 2) := by decide +kernel
theorem dX5_isRefused_6 : decode cX5_isRefused 6 = .ok (.if_icmp .gt 20, 3) := by decide +kernel
theorem dX5_isRefused_9 : decode cX5_isRefused 9 = .ok (.aload_n 0, 1) := by decide +kernel
theorem dX5_isRefused_10 : decode cX5_isRefused 10 = .ok (.getfield 7, 3) := by decide +kernel
theorem dX5_isRefused_13 : decode cX5_isRefused 13 = .ok (.iconst 0, 1) := by decide +kernel
theorem dX5_isRefused_14 : decode cX5_isRefused 14 = .ok (.iaload, 1) := by decide +kernel
theorem dX5_isRefused_15 : decode cX5_isRefused 15 = .ok (.iconst 1, 1) := by decide +kernel
theorem dX5_isRefused_16 : decode cX5_isRefused 16 = .ok (.if_icmp .ne 14, 3) := by decide +kernel
theorem dX5_isRefused_19 : decode cX5_isRefused 19 = .ok (.aload_n 0, 1) := by decide +kernel
theorem dX5_isRefused_20 : decode cX5_isRefused 20 = .ok (.getfield 126, 3) := by decide +kernel
theorem dX5_isRefused_23 : decode cX5_isRefused 23 = .ok (.ifCond .eq 7, 3) := by decide +kernel
theorem dX5_isRefused_26 : decode cX5_isRefused 26 = .ok (.iconst 1, 1) := by decide +kernel
theorem dX5_isRefused_27 : decode cX5_isRefused 27 = .ok (.goto 4, 3) := by decide +kernel
theorem dX5_isRefused_30 : decode cX5_isRefused 30 = .ok (.iconst 0, 1) := by decide +kernel
theorem dX5_isRefused_31 : decode cX5_isRefused 31 = .ok (.ireturn, 1) := by decide +kernel
set_option maxRecDepth 20000 in
theorem ggX5_nextChild_X5_childAt : GoodIn wsX5_nextChild wsX5_childAt := goodIn_r _ [5, 6, 7, 8, 9, 10, 11, 12, 13, 14, 15, 16, 17, 18, 19, 20, 21, 22, 23, 24, 25, 26, 27, 28, 29, 30, 31, 32, 33] (by decide +kernel) (by decide +kernel)
set_option maxRecDepth 20000 in
theorem gX5_nextChild_X5_childAt : GoodIn wsX5_nextChild (wsV RX5 133 RX5 yX5_childAt wsX5_childAt) := goodIn_app (goodIn_of _ (by decide +kernel)) ggX5_nextChild_X5_childAt
theorem dX5_nextChild_0 : decode cX5_nextChild 0 = .ok (.iload_n 2, 1) := by decide +kernel
theorem dX5_nextChild_1 : decode cX5_nextChild 1 = .ok (.iconst 1, 1) := by decide +kernel
theorem dX5_nextChild_2 : decode cX5_nextChild 2 = .ok (.iadd, 1) := by decide +kernel
theorem dX5_nextChild_3 : decode cX5_nextChild 3 = .ok (.istore_n 3, 1) := by decide +kernel
theorem dX5_nextChild_4 : decode cX5_nextChild 4 = .ok (.iload_n 3, 1) := by decide +kernel
theorem dX5_nextChild_5 : decode cX5_nextChild 5 = .ok (.bipush 8, 2) := by decide +kernel
theorem dX5_nextChild_7 : decode cX5_nextChild 7 = .ok (.if_icmp .gt 26, 3) := by decide +kernel
theorem dX5_nextChild_10 : decode cX5_nextChild 10 = .ok (.aload_n 0, 1) := by decide +kernel
theorem dX5_nextChild_11 : decode cX5_nextChild 11 = .ok (.iload_n 1, 1) := by decide +kernel
theorem dX5_nextChild_12 : decode cX5_nextChild 12 = .ok (.iload_n 3, 1) := by decide +kernel
theorem dX5_nextChild_13 : decode cX5_nextChild 13 = .ok (.invokevirtual 133, 3) := by decide +kernel
theorem dX5_nextChild_16 : decode cX5_nextChild 16 = .ok (.istore 4, 2) := by decide +kernel
theorem dX5_nextChild_18 : decode cX5_nextChild 18 = .ok (.iload 4, 2) := by decide +kernel
theorem dX5_nextChild_20 : decode cX5_nextChild 20 = .ok (.iconst (-1), 1) := by decide +kernel
theorem dX5_nextChild_21 : decode cX5_nextChild 21 = .ok (.if_icmp .eq 6, 3) := by decide +kernel
theorem dX5_nextChild_24 : decode cX5_nextChild 24 = .ok (.iload 4, 2) := by decide +kernel
theorem dX5_nextChild_26 : decode cX5_nextChild 26 = .ok (.ireturn, 1) := by decide +kernel
theorem dX5_nextChild_27 : decode cX5_nextChild 27 = .ok (.iinc 3 1, 3) := by decide +kernel
theorem dX5_nextChild_30 : decode cX5_nextChild 30 = .ok (.goto (-26), 3) := by decide +kernel
theorem dX5_nextChild_33 : decode cX5_nextChild 33 = .ok (.iconst (-1), 1) := by decide +kernel
theorem dX5_nextChild_34 : decode cX5_nextChild 34 = .ok (.ireturn, 1) := by decide +kernel
set_option maxRecDepth 20000 in
theorem ggX5_nextNode_X5_nextChild : GoodIn wsX5_nextNode wsX5_nextChild := goodIn_r _ [6, 7, 8, 9, 5, 10, 11, 1, 12, 13, 14, 15, 16, 17, 18, 19, 20, 21, 22, 23, 24, 25, 26, 27, 28, 29, 30, 31, 32, 33, 34, 35, 36, 37] (by decide +kernel) (by decide +kernel)
set_option maxRecDepth 20000 in
theorem gX5_nextNode_X5_nextChild : GoodIn wsX5_nextNode (wsV RX5 157 RX5 yX5_nextChild wsX5_nextChild) := goodIn_app (goodIn_of _ (by decide +kernel)) ggX5_nextNode_X5_nextChild
theorem dX5_nextNode_0 : decode cX5_nextNode 0 = .ok (.aload_n 0, 1) := by decide +kernel
theorem dX5_nextNode_1 : decode cX5_nextNode 1 = .ok (.iload_n 1, 1) := by decide +kernel
theorem dX5_nextNode_2 : decode cX5_nextNode 2 = .ok (.iconst (-1), 1) := by decide +kernel
theorem dX5_nextNode_3 : decode cX5_nextNode 3 = .ok (.invokevirtual 157, 3) := by decide +kernel
theorem dX5_nextNode_6 : decode cX5_nextNode 6 = .ok (.istore_n 2, 1) := by decide +kernel
theorem dX5_nextNode_7 : decode cX5_nextNode 7 = .ok (.iload_n 1, 1) := by decide +kernel
theorem dX5_nextNode_8 : decode cX5_nextNode 8 = .ok (.istore_n 3, 1) := by decide +kernel
theorem dX5_nextNode_9 : decode cX5_nextNode 9 = .ok (.iload_n 2, 1) := by decide +kernel
theorem dX5_nextNode_10 : decode cX5_nextNode 10 = .ok (.iconst (-1), 1) := by decide +kernel
theorem dX5_nextNode_11 : decode cX5_nextNode 11 = .ok (.if_icmp .ne 49, 3) := by decide +kernel
theorem dX5_nextNode_14 : decode cX5_nextNode 14 = .ok (.iload_n 3, 1) := by decide +kernel
theorem dX5_nextNode_15 : decode cX5_nextNode 15 = .ok (.ifCond .le 45, 3) := by decide +kernel
theorem dX5_nextNode_18 : decode cX5_nextNode 18 = .ok (.aload_n 0, 1) := by decide +kernel
theorem dX5_nextNode_19 : decode cX5_nextNode 19 = .ok (.aload_n 0, 1) := by decide +kernel
theorem dX5_nextNode_20 : decode cX5_nextNode 20 = .ok (.getfield 40, 3) := by decide +kernel
theorem dX5_nextNode_23 : decode cX5_nextNode 23 = .ok (.bipush 7, 2) := by decide +kernel
theorem dX5_nextNode_25 : decode cX5_nextNode 25 = .ok (.iload_n 3, 1) := by decide +kernel
theorem dX5_nextNode_26 : decode cX5_nextNode 26 = .ok (.imul, 1) := by decide +kernel
theorem dX5_nextNode_27 : decode cX5_nextNode 27 = .ok (.iconst 1, 1) := by decide +kernel
theorem dX5_nextNode_28 : decode cX5_nextNode 28 = .ok (.iadd, 1) := by decide +kernel
theorem dX5_nextNode_29 : decode cX5_nextNode 29 = .ok (.iaload, 1) := by decide +kernel
theorem dX5_nextNode_30 : decode cX5_nextNode 30 = .ok (.aload_n 0, 1) := by decide +kernel
theorem dX5_nextNode_31 : decode cX5_nextNode 31 = .ok (.getfield 40, 3) := by decide +kernel
theorem dX5_nextNode_34 : decode cX5_nextNode 34 = .ok (.bipush 7, 2) := by decide +kernel
theorem dX5_nextNode_36 : decode cX5_nextNode 36 = .ok (.iload_n 3, 1) := by decide +kernel
theorem dX5_nextNode_37 : decode cX5_nextNode 37 = .ok (.imul, 1) := by decide +kernel
theorem dX5_nextNode_38 : decode cX5_nextNode 38 = .ok (.iconst 2, 1) := by decide +kernel
theorem dX5_nextNode_39 : decode cX5_nextNode 39 = .ok (.iadd, 1) := by decide +kernel
theorem dX5_nextNode_40 : decode cX5_nextNode 40 = .ok (.iaload, 1) := by decide +kernel
theorem dX5_nextNode_41 : decode cX5_nextNode 41 = .ok (.invokevirtual 157, 3) := by decide +kernel
theorem dX5_nextNode_44 : decode cX5_nextNode 44 = .ok (.istore_n 2, 1) := by decide +kernel
theorem dX5_nextNode_45 : decode cX5_nextNode 45 = .ok (.aload_n 0, 1) := by decide +kernel
theorem dX5_nextNode_46 : decode cX5_nextNode 46 = .ok (.getfield 40, 3) := by decide +kernel
theorem dX5_nextNode_49 : decode cX5_nextNode 49 = .ok (.bipush 7, 2) := by decide +kernel
theorem dX5_nextNode_51 : decode cX5_nextNode 51 = .ok (.iload_n 3, 1) := by decide +kernel
theorem dX5_nextNode_52 : decode cX5_nextNode 52 = .ok (.imul, 1) := by decide +kernel
theorem dX5_nextNode_53 : decode cX5_nextNode 53 = .ok (.iconst 1, 1) := by decide +kernel
theorem dX5_nextNode_54 : decode cX5_nextNode 54 = .ok (.iadd, 1) := by decide +kernel
theorem dX5_nextNode_55 : decode cX5_nextNode 55 = .ok (.iaload, 1) := by decide +kernel
theorem dX5_nextNode_56 : decode cX5_nextNode 56 = .ok (.istore_n 3, 1) := by decide +kernel
theorem dX5_nextNode_57 : decode cX5_nextNode 57 = .ok (.goto (-48), 3) := by decide +kernel
theorem dX5_nextNode_60 : decode cX5_nextNode 60 = .ok (.iload_n 2, 1) := by decide +kernel
theorem dX5_nextNode_61 : decode cX5_nextNode 61 = .ok (.ireturn, 1) := by decide +kernel
set_option maxRecDepth 20000 in
theorem ggX5_becomes_X5_nextNode : GoodIn wsX5_becomes wsX5_nextNode := goodIn_r _ [9, 4, 10, 11, 12, 8, 13, 14, 15, 16, 17, 1, 18, 19, 20, 21, 22, 23, 24, 25, 26, 27, 28, 29, 30, 31, 32, 33, 34, 35, 36, 37, 38, 39, 40, 41, 42, 43] (by decide +kernel) (by decide +kernel)
set_option maxRecDepth 20000 in
theorem gX5_becomes_X5_nextNode : GoodIn wsX5_becomes (wsV RX5 160 RX5 yX5_nextNode wsX5_nextNode) := goodIn_app (goodIn_of _ (by decide +kernel)) ggX5_becomes_X5_nextNode
theorem dX5_becomes_0 : decode cX5_becomes 0 = .ok (.iconst 0, 1) := by decide +kernel
theorem dX5_becomes_1 : decode cX5_becomes 1 = .ok (.istore_n 2, 1) := by decide +kernel
theorem dX5_becomes_2 : decode cX5_becomes 2 = .ok (.aload_n 0, 1) := by decide +kernel
theorem dX5_becomes_3 : decode cX5_becomes 3 = .ok (.getfield 123, 3) := by decide +kernel
theorem dX5_becomes_6 : decode cX5_becomes 6 = .ok (.ifCond .le 7, 3) := by decide +kernel
theorem dX5_becomes_9 : decode cX5_becomes 9 = .ok (.iconst 0, 1) := by decide +kernel
theorem dX5_becomes_10 : decode cX5_becomes 10 = .ok (.goto 4, 3) := by decide +kernel
theorem dX5_becomes_13 : decode cX5_becomes 13 = .ok (.iconst (-1), 1) := by decide +kernel
theorem dX5_becomes_14 : decode cX5_becomes 14 = .ok (.istore_n 3, 1) := by decide +kernel
theorem dX5_becomes_15 : decode cX5_becomes 15 = .ok (.iload_n 3, 1) := by decide +kernel
theorem dX5_becomes_16 : decode cX5_becomes 16 = .ok (.iconst (-1), 1) := by decide +kernel
theorem dX5_becomes_17 : decode cX5_becomes 17 = .ok (.if_icmp .eq 107, 3) := by decide +kernel
theorem dX5_becomes_20 : decode cX5_becomes 20 = .ok (.aload_n 0, 1) := by decide +kernel
theorem dX5_becomes_21 : decode cX5_becomes 21 = .ok (.getfield 46, 3) := by decide +kernel
theorem dX5_becomes_24 : decode cX5_becomes 24 = .ok (.iload_n 3, 1) := by decide +kernel
theorem dX5_becomes_25 : decode cX5_becomes 25 = .ok (.iload_n 2, 1) := by decide +kernel
theorem dX5_becomes_26 : decode cX5_becomes 26 = .ok (.iastore, 1) := by decide +kernel
theorem dX5_becomes_27 : decode cX5_becomes 27 = .ok (.iconst 5, 1) := by decide +kernel
theorem dX5_becomes_28 : decode cX5_becomes 28 = .ok (.sipush 210, 3) := by decide +kernel
theorem dX5_becomes_31 : decode cX5_becomes 31 = .ok (.iload_n 1, 1) := by decide +kernel
theorem dX5_becomes_32 : decode cX5_becomes 32 = .ok (.imul, 1) := by decide +kernel
theorem dX5_becomes_33 : decode cX5_becomes 33 = .ok (.iadd, 1) := by decide +kernel
theorem dX5_becomes_34 : decode cX5_becomes 34 = .ok (.bipush 7, 2) := by decide +kernel
theorem dX5_becomes_36 : decode cX5_becomes 36 = .ok (.iload_n 2, 1) := by decide +kernel
theorem dX5_becomes_37 : decode cX5_becomes 37 = .ok (.imul, 1) := by decide +kernel
theorem dX5_becomes_38 : decode cX5_becomes 38 = .ok (.iadd, 1) := by decide +kernel
theorem dX5_becomes_39 : decode cX5_becomes 39 = .ok (.istore 4, 2) := by decide +kernel
theorem dX5_becomes_41 : decode cX5_becomes 41 = .ok (.iconst 0, 1) := by decide +kernel
theorem dX5_becomes_42 : decode cX5_becomes 42 = .ok (.istore 5, 2) := by decide +kernel
theorem dX5_becomes_44 : decode cX5_becomes 44 = .ok (.iload 5, 2) := by decide +kernel
theorem dX5_becomes_46 : decode cX5_becomes 46 = .ok (.bipush 7, 2) := by decide +kernel
theorem dX5_becomes_48 : decode cX5_becomes 48 = .ok (.if_icmp .ge 31, 3) := by decide +kernel
theorem dX5_becomes_51 : decode cX5_becomes 51 = .ok (.aload_n 0, 1) := by decide +kernel
theorem dX5_becomes_52 : decode cX5_becomes 52 = .ok (.getfield 7, 3) := by decide +kernel
theorem dX5_becomes_55 : decode cX5_becomes 55 = .ok (.iload 4, 2) := by decide +kernel
theorem dX5_becomes_57 : decode cX5_becomes 57 = .ok (.iload 5, 2) := by decide +kernel
theorem dX5_becomes_59 : decode cX5_becomes 59 = .ok (.iadd, 1) := by decide +kernel
theorem dX5_becomes_60 : decode cX5_becomes 60 = .ok (.aload_n 0, 1) := by decide +kernel
theorem dX5_becomes_61 : decode cX5_becomes 61 = .ok (.getfield 40, 3) := by decide +kernel
theorem dX5_becomes_64 : decode cX5_becomes 64 = .ok (.bipush 7, 2) := by decide +kernel
theorem dX5_becomes_66 : decode cX5_becomes 66 = .ok (.iload_n 3, 1) := by decide +kernel
theorem dX5_becomes_67 : decode cX5_becomes 67 = .ok (.imul, 1) := by decide +kernel
theorem dX5_becomes_68 : decode cX5_becomes 68 = .ok (.iload 5, 2) := by decide +kernel
theorem dX5_becomes_70 : decode cX5_becomes 70 = .ok (.iadd, 1) := by decide +kernel
theorem dX5_becomes_71 : decode cX5_becomes 71 = .ok (.iaload, 1) := by decide +kernel
theorem dX5_becomes_72 : decode cX5_becomes 72 = .ok (.iastore, 1) := by decide +kernel
theorem dX5_becomes_73 : decode cX5_becomes 73 = .ok (.iinc 5 1, 3) := by decide +kernel
theorem dX5_becomes_76 : decode cX5_becomes 76 = .ok (.goto (-32), 3) := by decide +kernel
theorem dX5_becomes_79 : decode cX5_becomes 79 = .ok (.aload_n 0, 1) := by decide +kernel
theorem dX5_becomes_80 : decode cX5_becomes 80 = .ok (.getfield 7, 3) := by decide +kernel
theorem dX5_becomes_83 : decode cX5_becomes 83 = .ok (.iload 4, 2) := by decide +kernel
theorem dX5_becomes_85 : decode cX5_becomes 85 = .ok (.iconst 1, 1) := by decide +kernel
theorem dX5_becomes_86 : decode cX5_becomes 86 = .ok (.iadd, 1) := by decide +kernel
theorem dX5_becomes_87 : decode cX5_becomes 87 = .ok (.iload_n 3, 1) := by decide +kernel
theorem dX5_becomes_88 : decode cX5_becomes 88 = .ok (.ifCond .ne 7, 3) := by decide +kernel
theorem dX5_becomes_91 : decode cX5_becomes 91 = .ok (.iconst (-1), 1) := by decide +kernel
theorem dX5_becomes_92 : decode cX5_becomes 92 = .ok (.goto 19, 3) := by decide +kernel
theorem dX5_becomes_95 : decode cX5_becomes 95 = .ok (.aload_n 0, 1) := by decide +kernel
theorem dX5_becomes_96 : decode cX5_becomes 96 = .ok (.getfield 46, 3) := by decide +kernel
theorem dX5_becomes_99 : decode cX5_becomes 99 = .ok (.aload_n 0, 1) := by decide +kernel
theorem dX5_becomes_100 : decode cX5_becomes 100 = .ok (.getfield 40, 3) := by decide +kernel
theorem dX5_becomes_103 : decode cX5_becomes 103 = .ok (.bipush 7, 2) := by decide +kernel
theorem dX5_becomes_105 : decode cX5_becomes 105 = .ok (.iload_n 3, 1) := by decide +kernel
theorem dX5_becomes_106 : decode cX5_becomes 106 = .ok (.imul, 1) := by decide +kernel
theorem dX5_becomes_107 : decode cX5_becomes 107 = .ok (.iconst 1, 1) := by decide +kernel
theorem dX5_becomes_108 : decode cX5_becomes 108 = .ok (.iadd, 1) := by decide +kernel
theorem dX5_becomes_109 : decode cX5_becomes 109 = .ok (.iaload, 1) := by decide +kernel
theorem dX5_becomes_110 : decode cX5_becomes 110 = .ok (.iaload, 1) := by decide +kernel
theorem dX5_becomes_111 : decode cX5_becomes 111 = .ok (.iastore, 1) := by decide +kernel
theorem dX5_becomes_112 : decode cX5_becomes 112 = .ok (.iinc 2 1, 3) := by decide +kernel
theorem dX5_becomes_115 : decode cX5_becomes 115 = .ok (.aload_n 0, 1) := by decide +kernel
theorem dX5_becomes_116 : decode cX5_becomes 116 = .ok (.iload_n 3, 1) := by decide +kernel
theorem dX5_becomes_117 : decode cX5_becomes 117 = .ok (.invokevirtual 160, 3) := by decide +kernel
theorem dX5_becomes_120 : decode cX5_becomes 120 = .ok (.istore_n 3, 1) := by decide +kernel
theorem dX5_becomes_121 : decode cX5_becomes 121 = .ok (.goto (-106), 3) := by decide +kernel
theorem dX5_becomes_124 : decode cX5_becomes 124 = .ok (.aload_n 0, 1) := by decide +kernel
theorem dX5_becomes_125 : decode cX5_becomes 125 = .ok (.getfield 7, 3) := by decide +kernel
theorem dX5_becomes_128 : decode cX5_becomes 128 = .ok (.iconst 3, 1) := by decide +kernel
theorem dX5_becomes_129 : decode cX5_becomes 129 = .ok (.iload_n 1, 1) := by decide +kernel
theorem dX5_becomes_130 : decode cX5_becomes 130 = .ok (.iadd, 1) := by decide +kernel
theorem dX5_becomes_131 : decode cX5_becomes 131 = .ok (.iload_n 2, 1) := by decide +kernel
theorem dX5_becomes_132 : decode cX5_becomes 132 = .ok (.iastore, 1) := by decide +kernel
theorem dX5_becomes_133 : decode cX5_becomes 133 = .ok (.return_, 1) := by decide +kernel
set_option maxRecDepth 20000 in
theorem ggX5_learn_X5_isShape : GoodIn wsX5_learn wsX5_isShape := goodIn_r _ [7, 8, 9, 6, 10] (by decide +kernel) (by decide +kernel)
set_option maxRecDepth 20000 in
theorem gX5_learn_X5_isShape : GoodIn wsX5_learn (va_wsS RX5 57 yX5_isShape wsX5_isShape) := goodIn_app (goodIn_of _ (by decide +kernel)) ggX5_learn_X5_isShape
set_option maxRecDepth 20000 in
theorem ggX5_learn_X5_fails : GoodIn wsX5_learn wsX5_fails := goodIn_r _ [14, 1, 134, 135, 136, 137, 138, 139, 140, 141, 142, 143, 144, 145, 146, 147, 148, 149, 150, 151, 152, 153, 154, 155, 156, 157, 158, 159] (by decide +kernel) (by decide +kernel)
set_option maxRecDepth 20000 in
theorem gX5_learn_X5_fails : GoodIn wsX5_learn (wsV RX5 64 RX5 yX5_fails wsX5_fails) := goodIn_app (goodIn_of _ (by decide +kernel)) ggX5_learn_X5_fails
set_option maxRecDepth 20000 in
theorem ggX5_learn_X5_isText : GoodIn wsX5_learn wsX5_isText := goodIn_r _ [18, 19, 20, 21, 22, 23, 3, 24, 25, 26, 6, 27, 28, 8, 9, 10, 29, 30, 31, 32, 33, 34, 35, 36, 37, 38, 39, 40, 41, 42, 43, 44, 45, 46, 47, 48, 49, 50, 51, 52, 53, 54, 55, 56, 57, 58, 59, 60, 61, 62, 63, 64, 65, 66, 67, 68, 69, 70, 71, 134, 135, 136, 137, 138, 139, 140, 141, 142, 143, 144, 145, 146, 147, 148, 149, 150, 151, 152, 153, 154, 155, 156, 157, 158, 159] (by decide +kernel) (by decide +kernel)
set_option maxRecDepth 20000 in
theorem gX5_learn_X5_isText : GoodIn wsX5_learn (wsV RX5 120 RX5 yX5_isText wsX5_isText) := goodIn_app (goodIn_of _ (by decide +kernel)) ggX5_learn_X5_isText
set_option maxRecDepth 20000 in
theorem ggX5_learn_X5_shows : GoodIn wsX5_learn wsX5_shows := goodIn_r _ [75, 2, 20, 76, 77, 42, 78, 79, 80, 6, 81, 82, 83, 84, 85, 86, 87, 43, 44, 88, 89, 90, 91, 92, 93, 94, 95, 96, 97, 98, 8, 9, 10, 99, 100, 101, 102, 103, 104, 105, 106, 134, 135, 136, 137, 138, 139, 140, 141, 142, 143, 144, 145, 146, 147, 148, 149, 150, 151, 152, 153, 154, 155, 156, 157, 158, 159] (by decide +kernel) (by decide +kernel)
set_option maxRecDepth 20000 in
theorem gX5_learn_X5_shows : GoodIn wsX5_learn (wsV RX5 163 RX5 yX5_shows wsX5_shows) := goodIn_app (goodIn_of _ (by decide +kernel)) ggX5_learn_X5_shows
set_option maxRecDepth 20000 in
theorem ggX5_learn_X5_isRefused : GoodIn wsX5_learn wsX5_isRefused := goodIn_r _ [110, 2, 83, 111, 112, 113, 6, 114, 82, 77, 134, 135, 136, 137, 138, 139, 140, 141, 142, 143, 144, 145, 146, 147, 148, 149, 150, 151, 152, 153, 154, 155, 156, 157, 158, 159] (by decide +kernel) (by decide +kernel)
set_option maxRecDepth 20000 in
theorem gX5_learn_X5_isRefused : GoodIn wsX5_learn (wsV RX5 166 RX5 yX5_isRefused wsX5_isRefused) := goodIn_app (goodIn_of _ (by decide +kernel)) ggX5_learn_X5_isRefused
set_option maxRecDepth 20000 in
theorem ggX5_learn_X5_saves : GoodIn wsX5_learn wsX5_saves := goodIn_r _ [118, 119, 120, 2, 134, 135, 136, 137, 138, 139, 140, 141, 142, 143, 144, 145, 146, 147, 148, 149, 150, 151, 152, 153, 154, 155, 156, 157, 158, 159] (by decide +kernel) (by decide +kernel)
set_option maxRecDepth 20000 in
theorem gX5_learn_X5_saves : GoodIn wsX5_learn (wsV RX5 169 RX5 yX5_saves wsX5_saves) := goodIn_app (goodIn_of _ (by decide +kernel)) ggX5_learn_X5_saves
set_option maxRecDepth 20000 in
theorem ggX5_learn_X5_becomes : GoodIn wsX5_learn wsX5_becomes := goodIn_r _ [124, 82, 125, 2, 77, 126, 127, 128, 6, 129, 130, 131, 132, 133, 88, 89, 90, 91, 134, 135, 136, 137, 138, 139, 140, 141, 142, 143, 144, 145, 146, 147, 148, 149, 150, 151, 152, 153, 154, 155, 156, 157, 158, 159] (by decide +kernel) (by decide +kernel)
set_option maxRecDepth 20000 in
theorem gX5_learn_X5_becomes : GoodIn wsX5_learn (wsV RX5 172 RX5 yX5_becomes wsX5_becomes) := goodIn_app (goodIn_of _ (by decide +kernel)) ggX5_learn_X5_becomes
theorem dX5_learn_0 : decode cX5_learn 0 = .ok (.aload_n 0, 1) := by decide +kernel
theorem dX5_learn_1 : decode cX5_learn 1 = .ok (.iconst 0, 1) := by decide +kernel
theorem dX5_learn_2 : decode cX5_learn 2 = .ok (.putfield 49, 3) := by decide +kernel
theorem dX5_learn_5 : decode cX5_learn 5 = .ok (.iload_n 1, 1) := by decide +kernel
theorem dX5_learn_6 : decode cX5_learn 6 = .ok (.invokestatic 57, 3) := by decide +kernel
theorem dX5_learn_9 : decode cX5_learn 9 = .ok (.ifCond .ne 9, 3) := by decide +kernel
theorem dX5_learn_12 : decode cX5_learn 12 = .ok (.aload_n 0, 1) := by decide +kernel
theorem dX5_learn_13 : decode cX5_learn 13 = .ok (.iconst 1, 1) := by decide +kernel
theorem dX5_learn_14 : decode cX5_learn 14 = .ok (.invokevirtual 64, 3) := by decide +kernel
theorem dX5_learn_17 : decode cX5_learn 17 = .ok (.ireturn, 1) := by decide +kernel
theorem dX5_learn_18 : decode cX5_learn 18 = .ok (.aload_n 0, 1) := by decide +kernel
theorem dX5_learn_19 : decode cX5_learn 19 = .ok (.invokevirtual 120, 3) := by decide +kernel
theorem dX5_learn_22 : decode cX5_learn 22 = .ok (.ifCond .ne 9, 3) := by decide +kernel
theorem dX5_learn_25 : decode cX5_learn 25 = .ok (.aload_n 0, 1) := by decide +kernel
theorem dX5_learn_26 : decode cX5_learn 26 = .ok (.iconst 2, 1) := by decide +kernel
theorem dX5_learn_27 : decode cX5_learn 27 = .ok (.invokevirtual 64, 3) := by decide +kernel
theorem dX5_learn_30 : decode cX5_learn 30 = .ok (.ireturn, 1) := by decide +kernel
theorem dX5_learn_31 : decode cX5_learn 31 = .ok (.aload_n 0, 1) := by decide +kernel
theorem dX5_learn_32 : decode cX5_learn 32 = .ok (.iload_n 1, 1) := by decide +kernel
theorem dX5_learn_33 : decode cX5_learn 33 = .ok (.invokevirtual 163, 3) := by decide +kernel
theorem dX5_learn_36 : decode cX5_learn 36 = .ok (.aload_n 0, 1) := by decide +kernel
theorem dX5_learn_37 : decode cX5_learn 37 = .ok (.invokevirtual 166, 3) := by decide +kernel
theorem dX5_learn_40 : decode cX5_learn 40 = .ok (.ifCond .eq 9, 3) := by decide +kernel
theorem dX5_learn_43 : decode cX5_learn 43 = .ok (.aload_n 0, 1) := by decide +kernel
theorem dX5_learn_44 : decode cX5_learn 44 = .ok (.iconst 3, 1) := by decide +kernel
theorem dX5_learn_45 : decode cX5_learn 45 = .ok (.invokevirtual 64, 3) := by decide +kernel
theorem dX5_learn_48 : decode cX5_learn 48 = .ok (.ireturn, 1) := by decide +kernel
theorem dX5_learn_49 : decode cX5_learn 49 = .ok (.aload_n 0, 1) := by decide +kernel
theorem dX5_learn_50 : decode cX5_learn 50 = .ok (.invokevirtual 169, 3) := by decide +kernel
theorem dX5_learn_53 : decode cX5_learn 53 = .ok (.aload_n 0, 1) := by decide +kernel
theorem dX5_learn_54 : decode cX5_learn 54 = .ok (.iload_n 1, 1) := by decide +kernel
theorem dX5_learn_55 : decode cX5_learn 55 = .ok (.invokevirtual 172, 3) := by decide +kernel
theorem dX5_learn_58 : decode cX5_learn 58 = .ok (.aload_n 0, 1) := by decide +kernel
theorem dX5_learn_59 : decode cX5_learn 59 = .ok (.getfield 7, 3) := by decide +kernel
theorem dX5_learn_62 : decode cX5_learn 62 = .ok (.iconst 1, 1) := by decide +kernel
theorem dX5_learn_63 : decode cX5_learn 63 = .ok (.iload_n 1, 1) := by decide +kernel
theorem dX5_learn_64 : decode cX5_learn 64 = .ok (.iadd, 1) := by decide +kernel
theorem dX5_learn_65 : decode cX5_learn 65 = .ok (.dup2, 1) := by decide +kernel
theorem dX5_learn_66 : decode cX5_learn 66 = .ok (.iaload, 1) := by decide +kernel
theorem dX5_learn_67 : decode cX5_learn 67 = .ok (.iconst 1, 1) := by decide +kernel
theorem dX5_learn_68 : decode cX5_learn 68 = .ok (.iadd, 1) := by decide +kernel
theorem dX5_learn_69 : decode cX5_learn 69 = .ok (.iastore, 1) := by decide +kernel
theorem dX5_learn_70 : decode cX5_learn 70 = .ok (.aload_n 0, 1) := by decide +kernel
theorem dX5_learn_71 : decode cX5_learn 71 = .ok (.iconst 0, 1) := by decide +kernel
theorem dX5_learn_72 : decode cX5_learn 72 = .ok (.putfield 71, 3) := by decide +kernel
theorem dX5_learn_75 : decode cX5_learn 75 = .ok (.aload_n 0, 1) := by decide +kernel
theorem dX5_learn_76 : decode cX5_learn 76 = .ok (.getfield 7, 3) := by decide +kernel
theorem dX5_learn_79 : decode cX5_learn 79 = .ok (.iconst 3, 1) := by decide +kernel
theorem dX5_learn_80 : decode cX5_learn 80 = .ok (.iload_n 1, 1) := by decide +kernel
theorem dX5_learn_81 : decode cX5_learn 81 = .ok (.iadd, 1) := by decide +kernel
theorem dX5_learn_82 : decode cX5_learn 82 = .ok (.iaload, 1) := by decide +kernel
theorem dX5_learn_83 : decode cX5_learn 83 = .ok (.ireturn, 1) := by decide +kernel
set_option maxRecDepth 20000 in
theorem ggX5_joins_X5_lays : GoodIn wsX5_joins wsX5_lays := goodIn_r _ [9, 3, 1, 4, 10, 37, 38, 39, 40, 41, 42, 43, 44, 45, 46, 47, 48, 49, 50, 51, 52, 53, 54, 55, 56, 57, 58, 59, 60, 61, 62] (by decide +kernel) (by decide +kernel)
set_option maxRecDepth 20000 in
theorem gX5_joins_X5_lays : GoodIn wsX5_joins (wsV RX5 141 RX5 yX5_lays wsX5_lays) := goodIn_app (goodIn_of _ (by decide +kernel)) ggX5_joins_X5_lays
set_option maxRecDepth 20000 in
theorem ggX5_joins_X5_of : GoodIn wsX5_joins wsX5_of := goodIn_r _ [14, 1, 37, 38, 39, 40, 41, 42, 43, 44, 45, 46, 47, 48, 49, 50, 51, 52, 53, 54, 55, 56, 57, 58, 59, 60, 61, 62] (by decide +kernel) (by decide +kernel)
set_option maxRecDepth 20000 in
theorem gX5_joins_X5_of : GoodIn wsX5_joins (wsV RX5 175 RX5 yX5_of wsX5_of) := goodIn_app (goodIn_of _ (by decide +kernel)) ggX5_joins_X5_of
set_option maxRecDepth 20000 in
theorem ggX5_joins_X5_childAt : GoodIn wsX5_joins wsX5_childAt := goodIn_r _ [18, 4, 3, 37, 38, 39, 40, 41, 42, 43, 44, 45, 46, 47, 48, 49, 50, 51, 52, 53, 54, 55, 56, 57, 58, 59, 60, 61, 62] (by decide +kernel) (by decide +kernel)
set_option maxRecDepth 20000 in
theorem gX5_joins_X5_childAt : GoodIn wsX5_joins (wsV RX5 133 RX5 yX5_childAt wsX5_childAt) := goodIn_app (goodIn_of _ (by decide +kernel)) ggX5_joins_X5_childAt
set_option maxRecDepth 20000 in
theorem ggX5_joins_X5_makes : GoodIn wsX5_joins wsX5_makes := goodIn_r _ [22, 4, 3, 37, 38, 39, 40, 41, 42, 43, 44, 45, 46, 47, 48, 49, 50, 51, 52, 53, 54, 55, 56, 57, 58, 59, 60, 61, 62] (by decide +kernel) (by decide +kernel)
set_option maxRecDepth 20000 in
theorem gX5_joins_X5_makes : GoodIn wsX5_joins (wsV RX5 137 RX5 yX5_makes wsX5_makes) := goodIn_app (goodIn_of _ (by decide +kernel)) ggX5_joins_X5_makes
set_option maxRecDepth 20000 in
theorem ggX5_joins_X5_joined : GoodIn wsX5_joins wsX5_joined := goodIn_r _ [25, 26, 27, 8, 28] (by decide +kernel) (by decide +kernel)
set_option maxRecDepth 20000 in
theorem gX5_joins_X5_joined : GoodIn wsX5_joins (va_wsS RX5 147 yX5_joined wsX5_joined) := goodIn_app (goodIn_of _ (by decide +kernel)) ggX5_joins_X5_joined
set_option maxRecDepth 20000 in
theorem ggX5_joins_X5_widens : GoodIn wsX5_joins wsX5_widens := goodIn_r _ [32, 3, 10, 33, 34, 35, 8, 36, 4, 37, 38, 39, 40, 41, 42, 43, 44, 45, 46, 47, 48, 49, 50, 51, 52, 53, 54, 55, 56, 57, 58, 59, 60, 61, 62] (by decide +kernel) (by decide +kernel)
set_option maxRecDepth 20000 in
theorem gX5_joins_X5_widens : GoodIn wsX5_joins (wsV RX5 150 RX5 yX5_widens wsX5_widens) := goodIn_app (goodIn_of _ (by decide +kernel)) ggX5_joins_X5_widens
theorem dX5_joins_0 : decode cX5_joins 0 = .ok (.aload_n 0, 1) := by decide +kernel
theorem dX5_joins_1 : decode cX5_joins 1 = .ok (.iload_n 1, 1) := by decide +kernel
theorem dX5_joins_2 : decode cX5_joins 2 = .ok (.invokevirtual 141, 3) := by decide +kernel
theorem dX5_joins_5 : decode cX5_joins 5 = .ok (.iconst 1, 1) := by decide +kernel
theorem dX5_joins_6 : decode cX5_joins 6 = .ok (.iload_n 1, 1) := by decide +kernel
theorem dX5_joins_7 : decode cX5_joins 7 = .ok (.isub, 1) := by decide +kernel
theorem dX5_joins_8 : decode cX5_joins 8 = .ok (.istore_n 2, 1) := by decide +kernel
theorem dX5_joins_9 : decode cX5_joins 9 = .ok (.iconst 0, 1) := by decide +kernel
theorem dX5_joins_10 : decode cX5_joins 10 = .ok (.istore_n 3, 1) := by decide +kernel
theorem dX5_joins_11 : decode cX5_joins 11 = .ok (.iload_n 3, 1) := by decide +kernel
theorem dX5_joins_12 : decode cX5_joins 12 = .ok (.aload_n 0, 1) := by decide +kernel
theorem dX5_joins_13 : decode cX5_joins 13 = .ok (.getfield 7, 3) := by decide +kernel
theorem dX5_joins_16 : decode cX5_joins 16 = .ok (.iconst 3, 1) := by decide +kernel
theorem dX5_joins_17 : decode cX5_joins 17 = .ok (.iload_n 2, 1) := by decide +kernel
theorem dX5_joins_18 : decode cX5_joins 18 = .ok (.iadd, 1) := by decide +kernel
theorem dX5_joins_19 : decode cX5_joins 19 = .ok (.iaload, 1) := by decide +kernel
theorem dX5_joins_20 : decode cX5_joins 20 = .ok (.if_icmp .ge 259, 3) := by decide +kernel
theorem dX5_joins_23 : decode cX5_joins 23 = .ok (.iload_n 3, 1) := by decide +kernel
theorem dX5_joins_24 : decode cX5_joins 24 = .ok (.ifCond .ne 7, 3) := by decide +kernel
theorem dX5_joins_27 : decode cX5_joins 27 = .ok (.iconst (-1), 1) := by decide +kernel
theorem dX5_joins_28 : decode cX5_joins 28 = .ok (.goto 15, 3) := by decide +kernel
theorem dX5_joins_31 : decode cX5_joins 31 = .ok (.aload_n 0, 1) := by decide +kernel
theorem dX5_joins_32 : decode cX5_joins 32 = .ok (.getfield 43, 3) := by decide +kernel
theorem dX5_joins_35 : decode cX5_joins 35 = .ok (.aload_n 0, 1) := by decide +kernel
theorem dX5_joins_36 : decode cX5_joins 36 = .ok (.iload_n 2, 1) := by decide +kernel
theorem dX5_joins_37 : decode cX5_joins 37 = .ok (.iload_n 3, 1) := by decide +kernel
theorem dX5_joins_38 : decode cX5_joins 38 = .ok (.iconst 1, 1) := by decide +kernel
theorem dX5_joins_39 : decode cX5_joins 39 = .ok (.invokevirtual 175, 3) := by decide +kernel
theorem dX5_joins_42 : decode cX5_joins 42 = .ok (.iaload, 1) := by decide +kernel
theorem dX5_joins_43 : decode cX5_joins 43 = .ok (.istore 4, 2) := by decide +kernel
theorem dX5_joins_45 : decode cX5_joins 45 = .ok (.aload_n 0, 1) := by decide +kernel
theorem dX5_joins_46 : decode cX5_joins 46 = .ok (.getfield 7, 3) := by decide +kernel
theorem dX5_joins_49 : decode cX5_joins 49 = .ok (.iconst 1, 1) := by decide +kernel
theorem dX5_joins_50 : decode cX5_joins 50 = .ok (.iload_n 1, 1) := by decide +kernel
theorem dX5_joins_51 : decode cX5_joins 51 = .ok (.iadd, 1) := by decide +kernel
theorem dX5_joins_52 : decode cX5_joins 52 = .ok (.iaload, 1) := by decide +kernel
theorem dX5_joins_53 : decode cX5_joins 53 = .ok (.aload_n 0, 1) := by decide +kernel
theorem dX5_joins_54 : decode cX5_joins 54 = .ok (.iload_n 2, 1) := by decide +kernel
theorem dX5_joins_55 : decode cX5_joins 55 = .ok (.iload_n 3, 1) := by decide +kernel
theorem dX5_joins_56 : decode cX5_joins 56 = .ok (.bipush 6, 2) := by decide +kernel
theorem dX5_joins_58 : decode cX5_joins 58 = .ok (.invokevirtual 175, 3) := by decide +kernel
theorem dX5_joins_61 : decode cX5_joins 61 = .ok (.iadd, 1) := by decide +kernel
theorem dX5_joins_62 : decode cX5_joins 62 = .ok (.istore 5, 2) := by decide +kernel
theorem dX5_joins_64 : decode cX5_joins 64 = .ok (.iload_n 3, 1) := by decide +kernel
theorem dX5_joins_65 : decode cX5_joins 65 = .ok (.ifCond .le 28, 3) := by decide +kernel
theorem dX5_joins_68 : decode cX5_joins 68 = .ok (.iload 4, 2) := by decide +kernel
theorem dX5_joins_70 : decode cX5_joins 70 = .ok (.iconst (-1), 1) := by decide +kernel
theorem dX5_joins_71 : decode cX5_joins 71 = .ok (.if_icmp .eq 18, 3) := by decide +kernel
theorem dX5_joins_74 : decode cX5_joins 74 = .ok (.aload_n 0, 1) := by decide +kernel
theorem dX5_joins_75 : decode cX5_joins 75 = .ok (.getfield 40, 3) := by decide +kernel
theorem dX5_joins_78 : decode cX5_joins 78 = .ok (.bipush 7, 2) := by decide +kernel
theorem dX5_joins_80 : decode cX5_joins 80 = .ok (.iload 4, 2) := by decide +kernel
theorem dX5_joins_82 : decode cX5_joins 82 = .ok (.imul, 1) := by decide +kernel
theorem dX5_joins_83 : decode cX5_joins 83 = .ok (.iaload, 1) := by decide +kernel
theorem dX5_joins_84 : decode cX5_joins 84 = .ok (.bipush 7, 2) := by decide +kernel
theorem dX5_joins_86 : decode cX5_joins 86 = .ok (.if_icmp .ne 7, 3) := by decide +kernel
theorem dX5_joins_89 : decode cX5_joins 89 = .ok (.iconst 1, 1) := by decide +kernel
theorem dX5_joins_90 : decode cX5_joins 90 = .ok (.goto 4, 3) := by decide +kernel
theorem dX5_joins_93 : decode cX5_joins 93 = .ok (.iconst 0, 1) := by decide +kernel
theorem dX5_joins_94 : decode cX5_joins 94 = .ok (.istore 6, 2) := by decide +kernel
theorem dX5_joins_96 : decode cX5_joins 96 = .ok (.iload 6, 2) := by decide +kernel
theorem dX5_joins_98 : decode cX5_joins 98 = .ok (.ifCond .eq 7, 3) := by decide +kernel
theorem dX5_joins_101 : decode cX5_joins 101 = .ok (.iconst (-1), 1) := by decide +kernel
theorem dX5_joins_102 : decode cX5_joins 102 = .ok (.goto 31, 3) := by decide +kernel
theorem dX5_joins_105 : decode cX5_joins 105 = .ok (.iload_n 3, 1) := by decide +kernel
theorem dX5_joins_106 : decode cX5_joins 106 = .ok (.ifCond .ne 14, 3) := by decide +kernel
theorem dX5_joins_109 : decode cX5_joins 109 = .ok (.aload_n 0, 1) := by decide +kernel
theorem dX5_joins_110 : decode cX5_joins 110 = .ok (.getfield 123, 3) := by decide +kernel
theorem dX5_joins_113 : decode cX5_joins 113 = .ok (.ifCond .le 7, 3) := by decide +kernel
theorem dX5_joins_116 : decode cX5_joins 116 = .ok (.iconst 0, 1) := by decide +kernel
theorem dX5_joins_117 : decode cX5_joins 117 = .ok (.goto 16, 3) := by decide +kernel
theorem dX5_joins_120 : decode cX5_joins 120 = .ok (.aload_n 0, 1) := by decide +kernel
theorem dX5_joins_121 : decode cX5_joins 121 = .ok (.iload 4, 2) := by decide +kernel
theorem dX5_joins_123 : decode cX5_joins 123 = .ok (.aload_n 0, 1) := by decide +kernel
theorem dX5_joins_124 : decode cX5_joins 124 = .ok (.iload_n 2, 1) := by decide +kernel
theorem dX5_joins_125 : decode cX5_joins 125 = .ok (.iload_n 3, 1) := by decide +kernel
theorem dX5_joins_126 : decode cX5_joins 126 = .ok (.iconst 2, 1) := by decide +kernel
theorem dX5_joins_127 : decode cX5_joins 127 = .ok (.invokevirtual 175, 3) := by decide +kernel
theorem dX5_joins_130 : decode cX5_joins 130 = .ok (.invokevirtual 133, 3) := by decide +kernel
theorem dX5_joins_133 : decode cX5_joins 133 = .ok (.istore 7, 2) := by decide +kernel
theorem dX5_joins_135 : decode cX5_joins 135 = .ok (.iload 6, 2) := by decide +kernel
theorem dX5_joins_137 : decode cX5_joins 137 = .ok (.ifCond .ne 33, 3) := by decide +kernel
theorem dX5_joins_140 : decode cX5_joins 140 = .ok (.iload 7, 2) := by decide +kernel
theorem dX5_joins_142 : decode cX5_joins 142 = .ok (.iconst (-1), 1) := by decide +kernel
theorem dX5_joins_143 : decode cX5_joins 143 = .ok (.if_icmp .ne 27, 3) := by decide +kernel
theorem dX5_joins_146 : decode cX5_joins 146 = .ok (.aload_n 0, 1) := by decide +kernel
theorem dX5_joins_147 : decode cX5_joins 147 = .ok (.iload 4, 2) := by decide +kernel
theorem dX5_joins_149 : decode cX5_joins 149 = .ok (.aload_n 0, 1) := by decide +kernel
theorem dX5_joins_150 : decode cX5_joins 150 = .ok (.iload_n 2, 1) := by decide +kernel
theorem dX5_joins_151 : decode cX5_joins 151 = .ok (.iload_n 3, 1) := by decide +kernel
theorem dX5_joins_152 : decode cX5_joins 152 = .ok (.iconst 2, 1) := by decide +kernel
theorem dX5_joins_153 : decode cX5_joins 153 = .ok (.invokevirtual 175, 3) := by decide +kernel
theorem dX5_joins_156 : decode cX5_joins 156 = .ok (.aload_n 0, 1) := by decide +kernel
theorem dX5_joins_157 : decode cX5_joins 157 = .ok (.iload_n 2, 1) := by decide +kernel
theorem dX5_joins_158 : decode cX5_joins 158 = .ok (.iload_n 3, 1) := by decide +kernel
theorem dX5_joins_159 : decode cX5_joins 159 = .ok (.iconst 0, 1) := by decide +kernel
theorem dX5_joins_160 : decode cX5_joins 160 = .ok (.invokevirtual 175, 3) := by decide +kernel
theorem dX5_joins_163 : decode cX5_joins 163 = .ok (.iload 5, 2) := by decide +kernel
theorem dX5_joins_165 : decode cX5_joins 165 = .ok (.invokevirtual 137, 3) := by decide +kernel
theorem dX5_joins_168 : decode cX5_joins 168 = .ok (.istore 7, 2) := by decide +kernel
theorem dX5_joins_170 : decode cX5_joins 170 = .ok (.aload_n 0, 1) := by decide +kernel
theorem dX5_joins_171 : decode cX5_joins 171 = .ok (.getfield 43, 3) := by decide +kernel
theorem dX5_joins_174 : decode cX5_joins 174 = .ok (.iload_n 3, 1) := by decide +kernel
theorem dX5_joins_175 : decode cX5_joins 175 = .ok (.iload 7, 2) := by decide +kernel
theorem dX5_joins_177 : decode cX5_joins 177 = .ok (.iastore, 1) := by decide +kernel
theorem dX5_joins_178 : decode cX5_joins 178 = .ok (.iload 7, 2) := by decide +kernel
theorem dX5_joins_180 : decode cX5_joins 180 = .ok (.iconst (-1), 1) := by decide +kernel
theorem dX5_joins_181 : decode cX5_joins 181 = .ok (.if_icmp .eq 92, 3) := by decide +kernel
theorem dX5_joins_184 : decode cX5_joins 184 = .ok (.bipush 7, 2) := by decide +kernel
theorem dX5_joins_186 : decode cX5_joins 186 = .ok (.iload 7, 2) := by decide +kernel
theorem dX5_joins_188 : decode cX5_joins 188 = .ok (.imul, 1) := by decide +kernel
theorem dX5_joins_189 : decode cX5_joins 189 = .ok (.istore 8, 2) := by decide +kernel
theorem dX5_joins_191 : decode cX5_joins 191 = .ok (.aload_n 0, 1) := by decide +kernel
theorem dX5_joins_192 : decode cX5_joins 192 = .ok (.getfield 40, 3) := by decide +kernel
theorem dX5_joins_195 : decode cX5_joins 195 = .ok (.iload 8, 2) := by decide +kernel
theorem dX5_joins_197 : decode cX5_joins 197 = .ok (.iconst 3, 1) := by decide +kernel
theorem dX5_joins_198 : decode cX5_joins 198 = .ok (.iadd, 1) := by decide +kernel
theorem dX5_joins_199 : decode cX5_joins 199 = .ok (.dup2, 1) := by decide +kernel
theorem dX5_joins_200 : decode cX5_joins 200 = .ok (.iaload, 1) := by decide +kernel
theorem dX5_joins_201 : decode cX5_joins 201 = .ok (.aload_n 0, 1) := by decide +kernel
theorem dX5_joins_202 : decode cX5_joins 202 = .ok (.iload_n 2, 1) := by decide +kernel
theorem dX5_joins_203 : decode cX5_joins 203 = .ok (.iload_n 3, 1) := by decide +kernel
theorem dX5_joins_204 : decode cX5_joins 204 = .ok (.iconst 3, 1) := by decide +kernel
theorem dX5_joins_205 : decode cX5_joins 205 = .ok (.invokevirtual 175, 3) := by decide +kernel
theorem dX5_joins_208 : decode cX5_joins 208 = .ok (.iadd, 1) := by decide +kernel
theorem dX5_joins_209 : decode cX5_joins 209 = .ok (.iastore, 1) := by decide +kernel
theorem dX5_joins_210 : decode cX5_joins 210 = .ok (.aload_n 0, 1) := by decide +kernel
theorem dX5_joins_211 : decode cX5_joins 211 = .ok (.getfield 40, 3) := by decide +kernel
theorem dX5_joins_214 : decode cX5_joins 214 = .ok (.iload 8, 2) := by decide +kernel
theorem dX5_joins_216 : decode cX5_joins 216 = .ok (.iconst 5, 1) := by decide +kernel
theorem dX5_joins_217 : decode cX5_joins 217 = .ok (.iadd, 1) := by decide +kernel
theorem dX5_joins_218 : decode cX5_joins 218 = .ok (.dup2, 1) := by decide +kernel
theorem dX5_joins_219 : decode cX5_joins 219 = .ok (.iaload, 1) := by decide +kernel
theorem dX5_joins_220 : decode cX5_joins 220 = .ok (.aload_n 0, 1) := by decide +kernel
theorem dX5_joins_221 : decode cX5_joins 221 = .ok (.iload_n 2, 1) := by decide +kernel
theorem dX5_joins_222 : decode cX5_joins 222 = .ok (.iload_n 3, 1) := by decide +kernel
theorem dX5_joins_223 : decode cX5_joins 223 = .ok (.iconst 5, 1) := by decide +kernel
theorem dX5_joins_224 : decode cX5_joins 224 = .ok (.invokevirtual 175, 3) := by decide +kernel
theorem dX5_joins_227 : decode cX5_joins 227 = .ok (.iadd, 1) := by decide +kernel
theorem dX5_joins_228 : decode cX5_joins 228 = .ok (.iastore, 1) := by decide +kernel
theorem dX5_joins_229 : decode cX5_joins 229 = .ok (.aload_n 0, 1) := by decide +kernel
theorem dX5_joins_230 : decode cX5_joins 230 = .ok (.getfield 40, 3) := by decide +kernel
theorem dX5_joins_233 : decode cX5_joins 233 = .ok (.iload 8, 2) := by decide +kernel
theorem dX5_joins_235 : decode cX5_joins 235 = .ok (.iconst 4, 1) := by decide +kernel
theorem dX5_joins_236 : decode cX5_joins 236 = .ok (.iadd, 1) := by decide +kernel
theorem dX5_joins_237 : decode cX5_joins 237 = .ok (.dup2, 1) := by decide +kernel
theorem dX5_joins_238 : decode cX5_joins 238 = .ok (.iaload, 1) := by decide +kernel
theorem dX5_joins_239 : decode cX5_joins 239 = .ok (.aload_n 0, 1) := by decide +kernel
theorem dX5_joins_240 : decode cX5_joins 240 = .ok (.iload_n 2, 1) := by decide +kernel
theorem dX5_joins_241 : decode cX5_joins 241 = .ok (.iload_n 3, 1) := by decide +kernel
theorem dX5_joins_242 : decode cX5_joins 242 = .ok (.iconst 4, 1) := by decide +kernel
theorem dX5_joins_243 : decode cX5_joins 243 = .ok (.invokevirtual 175, 3) := by decide +kernel
theorem dX5_joins_246 : decode cX5_joins 246 = .ok (.ior, 1) := by decide +kernel
theorem dX5_joins_247 : decode cX5_joins 247 = .ok (.iastore, 1) := by decide +kernel
theorem dX5_joins_248 : decode cX5_joins 248 = .ok (.aload_n 0, 1) := by decide +kernel
theorem dX5_joins_249 : decode cX5_joins 249 = .ok (.iload 7, 2) := by decide +kernel
theorem dX5_joins_251 : decode cX5_joins 251 = .ok (.aload_n 0, 1) := by decide +kernel
theorem dX5_joins_252 : decode cX5_joins 252 = .ok (.getfield 40, 3) := by decide +kernel
theorem dX5_joins_255 : decode cX5_joins 255 = .ok (.iload 8, 2) := by decide +kernel
theorem dX5_joins_257 : decode cX5_joins 257 = .ok (.iaload, 1) := by decide +kernel
theorem dX5_joins_258 : decode cX5_joins 258 = .ok (.aload_n 0, 1) := by decide +kernel
theorem dX5_joins_259 : decode cX5_joins 259 = .ok (.iload_n 2, 1) := by decide +kernel
theorem dX5_joins_260 : decode cX5_joins 260 = .ok (.iload_n 3, 1) := by decide +kernel
theorem dX5_joins_261 : decode cX5_joins 261 = .ok (.iconst 0, 1) := by decide +kernel
theorem dX5_joins_262 : decode cX5_joins 262 = .ok (.invokevirtual 175, 3) := by decide +kernel
theorem dX5_joins_265 : decode cX5_joins 265 = .ok (.invokestatic 147, 3) := by decide +kernel
theorem dX5_joins_268 : decode cX5_joins 268 = .ok (.iload 5, 2) := by decide +kernel
theorem dX5_joins_270 : decode cX5_joins 270 = .ok (.invokevirtual 150, 3) := by decide +kernel
theorem dX5_joins_273 : decode cX5_joins 273 = .ok (.iinc 3 1, 3) := by decide +kernel
theorem dX5_joins_276 : decode cX5_joins 276 = .ok (.goto (-265), 3) := by decide +kernel
theorem dX5_joins_279 : decode cX5_joins 279 = .ok (.return_, 1) := by decide +kernel
set_option maxRecDepth 20000 in
theorem ggX5_join_X5_isShape : GoodIn wsX5_join wsX5_isShape := goodIn_r _ [6, 7, 8, 5, 9] (by decide +kernel) (by decide +kernel)
set_option maxRecDepth 20000 in
theorem gX5_join_X5_isShape : GoodIn wsX5_join (va_wsS RX5 57 yX5_isShape wsX5_isShape) := goodIn_app (goodIn_of _ (by decide +kernel)) ggX5_join_X5_isShape
set_option maxRecDepth 20000 in
theorem ggX5_join_X5_fails : GoodIn wsX5_join wsX5_fails := goodIn_r _ [13, 1, 72, 73, 74, 75, 76, 77, 78, 79, 80, 81, 82, 83, 84, 85, 86, 87, 88, 89, 90, 91, 92, 93, 94, 95, 96, 97] (by decide +kernel) (by decide +kernel)
set_option maxRecDepth 20000 in
theorem gX5_join_X5_fails : GoodIn wsX5_join (wsV RX5 64 RX5 yX5_fails wsX5_fails) := goodIn_app (goodIn_of _ (by decide +kernel)) ggX5_join_X5_fails
set_option maxRecDepth 20000 in
theorem ggX5_join_X5_joins : GoodIn wsX5_join wsX5_joins := goodIn_r _ [17, 2, 18, 19, 20, 21, 22, 23, 5, 24, 25, 26, 27, 28, 29, 30, 31, 32, 33, 34, 35, 36, 37, 38, 39, 40, 7, 8, 9, 41, 42, 43, 44, 45, 46, 47, 48, 72, 73, 74, 75, 76, 77, 78, 79, 80, 81, 82, 83, 84, 85, 86, 87, 88, 89, 90, 91, 92, 93, 94, 95, 96, 97] (by decide +kernel) (by decide +kernel)
set_option maxRecDepth 20000 in
theorem gX5_join_X5_joins : GoodIn wsX5_join (wsV RX5 179 RX5 yX5_joins wsX5_joins) := goodIn_app (goodIn_of _ (by decide +kernel)) ggX5_join_X5_joins
set_option maxRecDepth 20000 in
theorem ggX5_join_X5_nodes : GoodIn wsX5_join wsX5_nodes := goodIn_r _ [52, 20, 19, 72, 73, 74, 75, 76, 77, 78, 79, 80, 81, 82, 83, 84, 85, 86, 87, 88, 89, 90, 91, 92, 93, 94, 95, 96, 97] (by decide +kernel) (by decide +kernel)
set_option maxRecDepth 20000 in
theorem gX5_join_X5_nodes : GoodIn wsX5_join (wsV RX5 153 RX5 yX5_nodes wsX5_nodes) := goodIn_app (goodIn_of _ (by decide +kernel)) ggX5_join_X5_nodes
set_option maxRecDepth 20000 in
theorem ggX5_join_X5_saves : GoodIn wsX5_join wsX5_saves := goodIn_r _ [56, 57, 58, 2, 72, 73, 74, 75, 76, 77, 78, 79, 80, 81, 82, 83, 84, 85, 86, 87, 88, 89, 90, 91, 92, 93, 94, 95, 96, 97] (by decide +kernel) (by decide +kernel)
set_option maxRecDepth 20000 in
theorem gX5_join_X5_saves : GoodIn wsX5_join (wsV RX5 169 RX5 yX5_saves wsX5_saves) := goodIn_app (goodIn_of _ (by decide +kernel)) ggX5_join_X5_saves
set_option maxRecDepth 20000 in
theorem ggX5_join_X5_becomes : GoodIn wsX5_join wsX5_becomes := goodIn_r _ [62, 20, 63, 2, 19, 64, 65, 66, 5, 67, 68, 69, 70, 71, 30, 31, 32, 33, 72, 73, 74, 75, 76, 77, 78, 79, 80, 81, 82, 83, 84, 85, 86, 87, 88, 89, 90, 91, 92, 93, 94, 95, 96, 97] (by decide +kernel) (by decide +kernel)
set_option maxRecDepth 20000 in
theorem gX5_join_X5_becomes : GoodIn wsX5_join (wsV RX5 172 RX5 yX5_becomes wsX5_becomes) := goodIn_app (goodIn_of _ (by decide +kernel)) ggX5_join_X5_becomes
theorem dX5_join_0 : decode cX5_join 0 = .ok (.aload_n 0, 1) := by decide +kernel
theorem dX5_join_1 : decode cX5_join 1 = .ok (.iconst 0, 1) := by decide +kernel
theorem dX5_join_2 : decode cX5_join 2 = .ok (.putfield 49, 3) := by decide +kernel
theorem dX5_join_5 : decode cX5_join 5 = .ok (.iload_n 1, 1) := by decide +kernel
theorem dX5_join_6 : decode cX5_join 6 = .ok (.invokestatic 57, 3) := by decide +kernel
theorem dX5_join_9 : decode cX5_join 9 = .ok (.ifCond .ne 9, 3) := by decide +kernel
theorem dX5_join_12 : decode cX5_join 12 = .ok (.aload_n 0, 1) := by decide +kernel
theorem dX5_join_13 : decode cX5_join 13 = .ok (.iconst 1, 1) := by decide +kernel
theorem dX5_join_14 : decode cX5_join 14 = .ok (.invokevirtual 64, 3) := by decide +kernel
theorem dX5_join_17 : decode cX5_join 17 = .ok (.ireturn, 1) := by decide +kernel
theorem dX5_join_18 : decode cX5_join 18 = .ok (.aload_n 0, 1) := by decide +kernel
theorem dX5_join_19 : decode cX5_join 19 = .ok (.iload_n 1, 1) := by decide +kernel
theorem dX5_join_20 : decode cX5_join 20 = .ok (.invokevirtual 179, 3) := by decide +kernel
theorem dX5_join_23 : decode cX5_join 23 = .ok (.aload_n 0, 1) := by decide +kernel
theorem dX5_join_24 : decode cX5_join 24 = .ok (.invokevirtual 153, 3) := by decide +kernel
theorem dX5_join_27 : decode cX5_join 27 = .ok (.bipush 30, 2) := by decide +kernel
theorem dX5_join_29 : decode cX5_join 29 = .ok (.if_icmp .le 9, 3) := by decide +kernel
theorem dX5_join_32 : decode cX5_join 32 = .ok (.aload_n 0, 1) := by decide +kernel
theorem dX5_join_33 : decode cX5_join 33 = .ok (.iconst 2, 1) := by decide +kernel
theorem dX5_join_34 : decode cX5_join 34 = .ok (.invokevirtual 64, 3) := by decide +kernel
theorem dX5_join_37 : decode cX5_join 37 = .ok (.ireturn, 1) := by decide +kernel
theorem dX5_join_38 : decode cX5_join 38 = .ok (.aload_n 0, 1) := by decide +kernel
theorem dX5_join_39 : decode cX5_join 39 = .ok (.invokevirtual 169, 3) := by decide +kernel
theorem dX5_join_42 : decode cX5_join 42 = .ok (.aload_n 0, 1) := by decide +kernel
theorem dX5_join_43 : decode cX5_join 43 = .ok (.iload_n 1, 1) := by decide +kernel
theorem dX5_join_44 : decode cX5_join 44 = .ok (.invokevirtual 172, 3) := by decide +kernel
theorem dX5_join_47 : decode cX5_join 47 = .ok (.aload_n 0, 1) := by decide +kernel
theorem dX5_join_48 : decode cX5_join 48 = .ok (.getfield 7, 3) := by decide +kernel
theorem dX5_join_51 : decode cX5_join 51 = .ok (.iconst 1, 1) := by decide +kernel
theorem dX5_join_52 : decode cX5_join 52 = .ok (.iload_n 1, 1) := by decide +kernel
theorem dX5_join_53 : decode cX5_join 53 = .ok (.iadd, 1) := by decide +kernel
theorem dX5_join_54 : decode cX5_join 54 = .ok (.dup2, 1) := by decide +kernel
theorem dX5_join_55 : decode cX5_join 55 = .ok (.iaload, 1) := by decide +kernel
theorem dX5_join_56 : decode cX5_join 56 = .ok (.aload_n 0, 1) := by decide +kernel
theorem dX5_join_57 : decode cX5_join 57 = .ok (.getfield 7, 3) := by decide +kernel
theorem dX5_join_60 : decode cX5_join 60 = .ok (.iconst 2, 1) := by decide +kernel
theorem dX5_join_61 : decode cX5_join 61 = .ok (.iload_n 1, 1) := by decide +kernel
theorem dX5_join_62 : decode cX5_join 62 = .ok (.isub, 1) := by decide +kernel
theorem dX5_join_63 : decode cX5_join 63 = .ok (.iaload, 1) := by decide +kernel
theorem dX5_join_64 : decode cX5_join 64 = .ok (.iadd, 1) := by decide +kernel
theorem dX5_join_65 : decode cX5_join 65 = .ok (.iastore, 1) := by decide +kernel
theorem dX5_join_66 : decode cX5_join 66 = .ok (.aload_n 0, 1) := by decide +kernel
theorem dX5_join_67 : decode cX5_join 67 = .ok (.getfield 7, 3) := by decide +kernel
theorem dX5_join_70 : decode cX5_join 70 = .ok (.iconst 3, 1) := by decide +kernel
theorem dX5_join_71 : decode cX5_join 71 = .ok (.iload_n 1, 1) := by decide +kernel
theorem dX5_join_72 : decode cX5_join 72 = .ok (.iadd, 1) := by decide +kernel
theorem dX5_join_73 : decode cX5_join 73 = .ok (.iaload, 1) := by decide +kernel
theorem dX5_join_74 : decode cX5_join 74 = .ok (.ireturn, 1) := by decide +kernel
set_option maxRecDepth 20000 in
theorem ggX5_forget_X5_isShape : GoodIn wsX5_forget wsX5_isShape := goodIn_r _ [6, 7, 8, 5, 9] (by decide +kernel) (by decide +kernel)
set_option maxRecDepth 20000 in
theorem gX5_forget_X5_isShape : GoodIn wsX5_forget (va_wsS RX5 57 yX5_isShape wsX5_isShape) := goodIn_app (goodIn_of _ (by decide +kernel)) ggX5_forget_X5_isShape
set_option maxRecDepth 20000 in
theorem ggX5_forget_X5_fails : GoodIn wsX5_forget wsX5_fails := goodIn_r _ [13, 1, 20, 21, 22, 23, 24, 25, 26, 27, 28, 29, 30, 31, 32, 33, 34, 35, 36, 37, 38, 39, 40, 41, 42, 43, 44, 45] (by decide +kernel) (by decide +kernel)
set_option maxRecDepth 20000 in
theorem gX5_forget_X5_fails : GoodIn wsX5_forget (wsV RX5 64 RX5 yX5_fails wsX5_fails) := goodIn_app (goodIn_of _ (by decide +kernel)) ggX5_forget_X5_fails
set_option maxRecDepth 20000 in
theorem ggX5_forget_X5_saves : GoodIn wsX5_forget wsX5_saves := goodIn_r _ [17, 18, 19, 2, 20, 21, 22, 23, 24, 25, 26, 27, 28, 29, 30, 31, 32, 33, 34, 35, 36, 37, 38, 39, 40, 41, 42, 43, 44, 45] (by decide +kernel) (by decide +kernel)
set_option maxRecDepth 20000 in
theorem gX5_forget_X5_saves : GoodIn wsX5_forget (wsV RX5 169 RX5 yX5_saves wsX5_saves) := goodIn_app (goodIn_of _ (by decide +kernel)) ggX5_forget_X5_saves
theorem dX5_forget_0 : decode cX5_forget 0 = .ok (.aload_n 0, 1) := by decide +kernel
theorem dX5_forget_1 : decode cX5_forget 1 = .ok (.iconst 0, 1) := by decide +kernel
theorem dX5_forget_2 : decode cX5_forget 2 = .ok (.putfield 49, 3) := by decide +kernel
theorem dX5_forget_5 : decode cX5_forget 5 = .ok (.iload_n 1, 1) := by decide +kernel
theorem dX5_forget_6 : decode cX5_forget 6 = .ok (.invokestatic 57, 3) := by decide +kernel
theorem dX5_forget_9 : decode cX5_forget 9 = .ok (.ifCond .ne 9, 3) := by decide +kernel
theorem dX5_forget_12 : decode cX5_forget 12 = .ok (.aload_n 0, 1) := by decide +kernel
theorem dX5_forget_13 : decode cX5_forget 13 = .ok (.iconst 1, 1) := by decide +kernel
theorem dX5_forget_14 : decode cX5_forget 14 = .ok (.invokevirtual 64, 3) := by decide +kernel
theorem dX5_forget_17 : decode cX5_forget 17 = .ok (.ireturn, 1) := by decide +kernel
theorem dX5_forget_18 : decode cX5_forget 18 = .ok (.aload_n 0, 1) := by decide +kernel
theorem dX5_forget_19 : decode cX5_forget 19 = .ok (.invokevirtual 169, 3) := by decide +kernel
theorem dX5_forget_22 : decode cX5_forget 22 = .ok (.aload_n 0, 1) := by decide +kernel
theorem dX5_forget_23 : decode cX5_forget 23 = .ok (.getfield 7, 3) := by decide +kernel
theorem dX5_forget_26 : decode cX5_forget 26 = .ok (.iconst 3, 1) := by decide +kernel
theorem dX5_forget_27 : decode cX5_forget 27 = .ok (.iload_n 1, 1) := by decide +kernel
theorem dX5_forget_28 : decode cX5_forget 28 = .ok (.iadd, 1) := by decide +kernel
theorem dX5_forget_29 : decode cX5_forget 29 = .ok (.iaload, 1) := by decide +kernel
theorem dX5_forget_30 : decode cX5_forget 30 = .ok (.istore_n 2, 1) := by decide +kernel
theorem dX5_forget_31 : decode cX5_forget 31 = .ok (.aload_n 0, 1) := by decide +kernel
theorem dX5_forget_32 : decode cX5_forget 32 = .ok (.getfield 7, 3) := by decide +kernel
theorem dX5_forget_35 : decode cX5_forget 35 = .ok (.iconst 3, 1) := by decide +kernel
theorem dX5_forget_36 : decode cX5_forget 36 = .ok (.iload_n 1, 1) := by decide +kernel
theorem dX5_forget_37 : decode cX5_forget 37 = .ok (.iadd, 1) := by decide +kernel
theorem dX5_forget_38 : decode cX5_forget 38 = .ok (.iconst 0, 1) := by decide +kernel
theorem dX5_forget_39 : decode cX5_forget 39 = .ok (.iastore, 1) := by decide +kernel
theorem dX5_forget_40 : decode cX5_forget 40 = .ok (.aload_n 0, 1) := by decide +kernel
theorem dX5_forget_41 : decode cX5_forget 41 = .ok (.getfield 7, 3) := by decide +kernel
theorem dX5_forget_44 : decode cX5_forget 44 = .ok (.iconst 1, 1) := by decide +kernel
theorem dX5_forget_45 : decode cX5_forget 45 = .ok (.iload_n 1, 1) := by decide +kernel
theorem dX5_forget_46 : decode cX5_forget 46 = .ok (.iadd, 1) := by decide +kernel
theorem dX5_forget_47 : decode cX5_forget 47 = .ok (.iconst 0, 1) := by decide +kernel
theorem dX5_forget_48 : decode cX5_forget 48 = .ok (.iastore, 1) := by decide +kernel
theorem dX5_forget_49 : decode cX5_forget 49 = .ok (.iload_n 2, 1) := by decide +kernel
theorem dX5_forget_50 : decode cX5_forget 50 = .ok (.ireturn, 1) := by decide +kernel
theorem dX5_exchanges_0 : decode cX5_exchanges 0 = .ok (.aload_n 0, 1) := by decide +kernel
theorem dX5_exchanges_1 : decode cX5_exchanges 1 = .ok (.getfield 7, 3) := by decide +kernel
theorem dX5_exchanges_4 : decode cX5_exchanges 4 = .ok (.iload_n 1, 1) := by decide +kernel
theorem dX5_exchanges_5 : decode cX5_exchanges 5 = .ok (.iaload, 1) := by decide +kernel
theorem dX5_exchanges_6 : decode cX5_exchanges 6 = .ok (.istore_n 3, 1) := by decide +kernel
theorem dX5_exchanges_7 : decode cX5_exchanges 7 = .ok (.aload_n 0, 1) := by decide +kernel
theorem dX5_exchanges_8 : decode cX5_exchanges 8 = .ok (.getfield 7, 3) := by decide +kernel
theorem dX5_exchanges_11 : decode cX5_exchanges 11 = .ok (.iload_n 1, 1) := by decide +kernel
theorem dX5_exchanges_12 : decode cX5_exchanges 12 = .ok (.aload_n 0, 1) := by decide +kernel
theorem dX5_exchanges_13 : decode cX5_exchanges 13 = .ok (.getfield 7, 3) := by decide +kernel
theorem dX5_exchanges_16 : decode cX5_exchanges 16 = .ok (.iload_n 2, 1) := by decide +kernel
theorem dX5_exchanges_17 : decode cX5_exchanges 17 = .ok (.iaload, 1) := by decide +kernel
theorem dX5_exchanges_18 : decode cX5_exchanges 18 = .ok (.iastore, 1) := by decide +kernel
theorem dX5_exchanges_19 : decode cX5_exchanges 19 = .ok (.aload_n 0, 1) := by decide +kernel
theorem dX5_exchanges_20 : decode cX5_exchanges 20 = .ok (.getfield 7, 3) := by decide +kernel
theorem dX5_exchanges_23 : decode cX5_exchanges 23 = .ok (.iload_n 2, 1) := by decide +kernel
theorem dX5_exchanges_24 : decode cX5_exchanges 24 = .ok (.iload_n 3, 1) := by decide +kernel
theorem dX5_exchanges_25 : decode cX5_exchanges 25 = .ok (.iastore, 1) := by decide +kernel
theorem dX5_exchanges_26 : decode cX5_exchanges 26 = .ok (.return_, 1) := by decide +kernel
set_option maxRecDepth 20000 in
theorem ggX5_swap_X5_saves : GoodIn wsX5_swap wsX5_saves := goodIn_r _ [7, 8, 9, 2, 14, 15, 16, 17, 18, 19, 20, 21, 22, 23, 24, 25, 26, 27, 28, 29, 30, 31, 32, 33, 34, 35, 36, 37, 38, 39] (by decide +kernel) (by decide +kernel)
set_option maxRecDepth 20000 in
theorem gX5_swap_X5_saves : GoodIn wsX5_swap (wsV RX5 169 RX5 yX5_saves wsX5_saves) := goodIn_app (goodIn_of _ (by decide +kernel)) ggX5_swap_X5_saves
set_option maxRecDepth 20000 in
theorem ggX5_swap_X5_exchanges : GoodIn wsX5_swap wsX5_exchanges := goodIn_r _ [13, 2, 14, 15, 16, 17, 18, 19, 20, 21, 22, 23, 24, 25, 26, 27, 28, 29, 30, 31, 32, 33, 34, 35, 36, 37, 38, 39] (by decide +kernel) (by decide +kernel)
set_option maxRecDepth 20000 in
theorem gX5_swap_X5_exchanges : GoodIn wsX5_swap (wsV RX5 182 RX5 yX5_exchanges wsX5_exchanges) := goodIn_app (goodIn_of _ (by decide +kernel)) ggX5_swap_X5_exchanges
theorem dX5_swap_0 : decode cX5_swap 0 = .ok (.aload_n 0, 1) := by decide +kernel
theorem dX5_swap_1 : decode cX5_swap 1 = .ok (.iconst 0, 1) := by decide +kernel
theorem dX5_swap_2 : decode cX5_swap 2 = .ok (.putfield 49, 3) := by decide +kernel
theorem dX5_swap_5 : decode cX5_swap 5 = .ok (.aload_n 0, 1) := by decide +kernel
theorem dX5_swap_6 : decode cX5_swap 6 = .ok (.invokevirtual 169, 3) := by decide +kernel
theorem dX5_swap_9 : decode cX5_swap 9 = .ok (.aload_n 0, 1) := by decide +kernel
theorem dX5_swap_10 : decode cX5_swap 10 = .ok (.iconst 1, 1) := by decide +kernel
theorem dX5_swap_11 : decode cX5_swap 11 = .ok (.iconst 2, 1) := by decide +kernel
theorem dX5_swap_12 : decode cX5_swap 12 = .ok (.invokevirtual 182, 3) := by decide +kernel
theorem dX5_swap_15 : decode cX5_swap 15 = .ok (.aload_n 0, 1) := by decide +kernel
theorem dX5_swap_16 : decode cX5_swap 16 = .ok (.iconst 3, 1) := by decide +kernel
theorem dX5_swap_17 : decode cX5_swap 17 = .ok (.iconst 4, 1) := by decide +kernel
theorem dX5_swap_18 : decode cX5_swap 18 = .ok (.invokevirtual 182, 3) := by decide +kernel
theorem dX5_swap_21 : decode cX5_swap 21 = .ok (.iconst 0, 1) := by decide +kernel
theorem dX5_swap_22 : decode cX5_swap 22 = .ok (.istore_n 1, 1) := by decide +kernel
theorem dX5_swap_23 : decode cX5_swap 23 = .ok (.iload_n 1, 1) := by decide +kernel
theorem dX5_swap_24 : decode cX5_swap 24 = .ok (.sipush 210, 3) := by decide +kernel
theorem dX5_swap_27 : decode cX5_swap 27 = .ok (.if_icmp .ge 21, 3) := by decide +kernel
theorem dX5_swap_30 : decode cX5_swap 30 = .ok (.aload_n 0, 1) := by decide +kernel
theorem dX5_swap_31 : decode cX5_swap 31 = .ok (.iconst 5, 1) := by decide +kernel
theorem dX5_swap_32 : decode cX5_swap 32 = .ok (.iload_n 1, 1) := by decide +kernel
theorem dX5_swap_33 : decode cX5_swap 33 = .ok (.iadd, 1) := by decide +kernel
theorem dX5_swap_34 : decode cX5_swap 34 = .ok (.sipush 215, 3) := by decide +kernel
theorem dX5_swap_37 : decode cX5_swap 37 = .ok (.iload_n 1, 1) := by decide +kernel
theorem dX5_swap_38 : decode cX5_swap 38 = .ok (.iadd, 1) := by decide +kernel
theorem dX5_swap_39 : decode cX5_swap 39 = .ok (.invokevirtual 182, 3) := by decide +kernel
theorem dX5_swap_42 : decode cX5_swap 42 = .ok (.iinc 1 1, 3) := by decide +kernel
theorem dX5_swap_45 : decode cX5_swap 45 = .ok (.goto (-22), 3) := by decide +kernel
theorem dX5_swap_48 : decode cX5_swap 48 = .ok (.aload_n 0, 1) := by decide +kernel
theorem dX5_swap_49 : decode cX5_swap 49 = .ok (.getfield 7, 3) := by decide +kernel
theorem dX5_swap_52 : decode cX5_swap 52 = .ok (.iconst 3, 1) := by decide +kernel
theorem dX5_swap_53 : decode cX5_swap 53 = .ok (.iaload, 1) := by decide +kernel
theorem dX5_swap_54 : decode cX5_swap 54 = .ok (.ireturn, 1) := by decide +kernel
set_option maxRecDepth 20000 in
theorem ggX5_set_X5_in : GoodIn wsX5_set wsX5_in := goodIn_r _ [6] (by decide +kernel) (by decide +kernel)
set_option maxRecDepth 20000 in
theorem gX5_set_X5_in : GoodIn wsX5_set (va_wsS RX5 53 yX5_in wsX5_in) := goodIn_app (goodIn_of _ (by decide +kernel)) ggX5_set_X5_in
set_option maxRecDepth 20000 in
theorem ggX5_set_X5_fails : GoodIn wsX5_set wsX5_fails := goodIn_r _ [10, 1, 17, 18, 19, 20, 21, 22, 23, 24, 25, 26, 27, 28, 29, 30, 31, 32, 33, 34, 35, 36, 37, 38, 39, 40, 41, 42] (by decide +kernel) (by decide +kernel)
set_option maxRecDepth 20000 in
theorem gX5_set_X5_fails : GoodIn wsX5_set (wsV RX5 64 RX5 yX5_fails wsX5_fails) := goodIn_app (goodIn_of _ (by decide +kernel)) ggX5_set_X5_fails
set_option maxRecDepth 20000 in
theorem ggX5_set_X5_saves : GoodIn wsX5_set wsX5_saves := goodIn_r _ [14, 15, 16, 2, 17, 18, 19, 20, 21, 22, 23, 24, 25, 26, 27, 28, 29, 30, 31, 32, 33, 34, 35, 36, 37, 38, 39, 40, 41, 42] (by decide +kernel) (by decide +kernel)
set_option maxRecDepth 20000 in
theorem gX5_set_X5_saves : GoodIn wsX5_set (wsV RX5 169 RX5 yX5_saves wsX5_saves) := goodIn_app (goodIn_of _ (by decide +kernel)) ggX5_set_X5_saves
theorem dX5_set_0 : decode cX5_set 0 = .ok (.aload_n 0, 1) := by decide +kernel
theorem dX5_set_1 : decode cX5_set 1 = .ok (.iconst 0, 1) := by decide +kernel
theorem dX5_set_2 : decode cX5_set 2 = .ok (.putfield 49, 3) := by decide +kernel
theorem dX5_set_5 : decode cX5_set 5 = .ok (.iload_n 1, 1) := by decide +kernel
theorem dX5_set_6 : decode cX5_set 6 = .ok (.iconst 0, 1) := by decide +kernel
theorem dX5_set_7 : decode cX5_set 7 = .ok (.iconst 1, 1) := by decide +kernel
theorem dX5_set_8 : decode cX5_set 8 = .ok (.invokestatic 53, 3) := by decide +kernel
theorem dX5_set_11 : decode cX5_set 11 = .ok (.ifCond .ne 9, 3) := by decide +kernel
theorem dX5_set_14 : decode cX5_set 14 = .ok (.aload_n 0, 1) := by decide +kernel
theorem dX5_set_15 : decode cX5_set 15 = .ok (.iconst 1, 1) := by decide +kernel
theorem dX5_set_16 : decode cX5_set 16 = .ok (.invokevirtual 64, 3) := by decide +kernel
theorem dX5_set_19 : decode cX5_set 19 = .ok (.ireturn, 1) := by decide +kernel
theorem dX5_set_20 : decode cX5_set 20 = .ok (.aload_n 0, 1) := by decide +kernel
theorem dX5_set_21 : decode cX5_set 21 = .ok (.invokevirtual 169, 3) := by decide +kernel
theorem dX5_set_24 : decode cX5_set 24 = .ok (.aload_n 0, 1) := by decide +kernel
theorem dX5_set_25 : decode cX5_set 25 = .ok (.getfield 7, 3) := by decide +kernel
theorem dX5_set_28 : decode cX5_set 28 = .ok (.iconst 0, 1) := by decide +kernel
theorem dX5_set_29 : decode cX5_set 29 = .ok (.iaload, 1) := by decide +kernel
theorem dX5_set_30 : decode cX5_set 30 = .ok (.istore_n 2, 1) := by decide +kernel
theorem dX5_set_31 : decode cX5_set 31 = .ok (.aload_n 0, 1) := by decide +kernel
theorem dX5_set_32 : decode cX5_set 32 = .ok (.getfield 7, 3) := by decide +kernel
theorem dX5_set_35 : decode cX5_set 35 = .ok (.iconst 0, 1) := by decide +kernel
theorem dX5_set_36 : decode cX5_set 36 = .ok (.iload_n 1, 1) := by decide +kernel
theorem dX5_set_37 : decode cX5_set 37 = .ok (.iastore, 1) := by decide +kernel
theorem dX5_set_38 : decode cX5_set 38 = .ok (.iload_n 2, 1) := by decide +kernel
theorem dX5_set_39 : decode cX5_set 39 = .ok (.ireturn, 1) := by decide +kernel
set_option maxRecDepth 20000 in
theorem ggX5_depth_X5_of : GoodIn wsX5_depth wsX5_of := goodIn_r _ [5, 6, 7, 8, 9, 10, 11, 12, 13, 14, 15, 16, 17, 18, 19, 20, 21, 22, 23, 24, 25, 26, 27, 28, 29, 30, 31, 32] (by decide +kernel) (by decide +kernel)
set_option maxRecDepth 20000 in
theorem gX5_depth_X5_of : GoodIn wsX5_depth (wsV RX5 175 RX5 yX5_of wsX5_of) := goodIn_app (goodIn_of _ (by decide +kernel)) ggX5_depth_X5_of
theorem dX5_depth_0 : decode cX5_depth 0 = .ok (.iconst 0, 1) := by decide +kernel
theorem dX5_depth_1 : decode cX5_depth 1 = .ok (.istore_n 3, 1) := by decide +kernel
theorem dX5_depth_2 : decode cX5_depth 2 = .ok (.aload_n 0, 1) := by decide +kernel
theorem dX5_depth_3 : decode cX5_depth 3 = .ok (.iload_n 1, 1) := by decide +kernel
theorem dX5_depth_4 : decode cX5_depth 4 = .ok (.iload_n 2, 1) := by decide +kernel
theorem dX5_depth_5 : decode cX5_depth 5 = .ok (.iconst 1, 1) := by decide +kernel
theorem dX5_depth_6 : decode cX5_depth 6 = .ok (.invokevirtual 175, 3) := by decide +kernel
theorem dX5_depth_9 : decode cX5_depth 9 = .ok (.istore 4, 2) := by decide +kernel
theorem dX5_depth_11 : decode cX5_depth 11 = .ok (.iload 4, 2) := by decide +kernel
theorem dX5_depth_13 : decode cX5_depth 13 = .ok (.iconst (-1), 1) := by decide +kernel
theorem dX5_depth_14 : decode cX5_depth 14 = .ok (.if_icmp .eq 19, 3) := by decide +kernel
theorem dX5_depth_17 : decode cX5_depth 17 = .ok (.iinc 3 1, 3) := by decide +kernel
theorem dX5_depth_20 : decode cX5_depth 20 = .ok (.aload_n 0, 1) := by decide +kernel
theorem dX5_depth_21 : decode cX5_depth 21 = .ok (.iload_n 1, 1) := by decide +kernel
theorem dX5_depth_22 : decode cX5_depth 22 = .ok (.iload 4, 2) := by decide +kernel
theorem dX5_depth_24 : decode cX5_depth 24 = .ok (.iconst 1, 1) := by decide +kernel
theorem dX5_depth_25 : decode cX5_depth 25 = .ok (.invokevirtual 175, 3) := by decide +kernel
theorem dX5_depth_28 : decode cX5_depth 28 = .ok (.istore 4, 2) := by decide +kernel
theorem dX5_depth_30 : decode cX5_depth 30 = .ok (.goto (-19), 3) := by decide +kernel
theorem dX5_depth_33 : decode cX5_depth 33 = .ok (.iload_n 3, 1) := by decide +kernel
theorem dX5_depth_34 : decode cX5_depth 34 = .ok (.ireturn, 1) := by decide +kernel
set_option maxRecDepth 20000 in
theorem ggX5_canMiss_X5_of : GoodIn wsX5_canMiss wsX5_of := goodIn_r _ [5, 6, 10, 11, 12, 13, 14, 15, 16, 17, 18, 19, 20, 21, 22, 23, 24, 25, 26, 27, 28, 29, 30, 31, 32, 33, 34, 35] (by decide +kernel) (by decide +kernel)
set_option maxRecDepth 20000 in
theorem gX5_canMiss_X5_of : GoodIn wsX5_canMiss (wsV RX5 175 RX5 yX5_of wsX5_of) := goodIn_app (goodIn_of _ (by decide +kernel)) ggX5_canMiss_X5_of
set_option maxRecDepth 20000 in
theorem ggX5_canMiss_X5_in : GoodIn wsX5_canMiss wsX5_in := goodIn_r _ [9] (by decide +kernel) (by decide +kernel)
set_option maxRecDepth 20000 in
theorem gX5_canMiss_X5_in : GoodIn wsX5_canMiss (va_wsS RX5 53 yX5_in wsX5_in) := goodIn_app (goodIn_of _ (by decide +kernel)) ggX5_canMiss_X5_in
theorem dX5_canMiss_0 : decode cX5_canMiss 0 = .ok (.aload_n 0, 1) := by decide +kernel
theorem dX5_canMiss_1 : decode cX5_canMiss 1 = .ok (.iload_n 1, 1) := by decide +kernel
theorem dX5_canMiss_2 : decode cX5_canMiss 2 = .ok (.iload_n 2, 1) := by decide +kernel
theorem dX5_canMiss_3 : decode cX5_canMiss 3 = .ok (.iconst 2, 1) := by decide +kernel
theorem dX5_canMiss_4 : decode cX5_canMiss 4 = .ok (.invokevirtual 175, 3) := by decide +kernel
theorem dX5_canMiss_7 : decode cX5_canMiss 7 = .ok (.iconst 0, 1) := by decide +kernel
theorem dX5_canMiss_8 : decode cX5_canMiss 8 = .ok (.bipush 7, 2) := by decide +kernel
theorem dX5_canMiss_10 : decode cX5_canMiss 10 = .ok (.invokestatic 53, 3) := by decide +kernel
theorem dX5_canMiss_13 : decode cX5_canMiss 13 = .ok (.ifCond .eq 30, 3) := by decide +kernel
theorem dX5_canMiss_16 : decode cX5_canMiss 16 = .ok (.aload_n 0, 1) := by decide +kernel
theorem dX5_canMiss_17 : decode cX5_canMiss 17 = .ok (.iload_n 1, 1) := by decide +kernel
theorem dX5_canMiss_18 : decode cX5_canMiss 18 = .ok (.iload_n 2, 1) := by decide +kernel
theorem dX5_canMiss_19 : decode cX5_canMiss 19 = .ok (.iconst 3, 1) := by decide +kernel
theorem dX5_canMiss_20 : decode cX5_canMiss 20 = .ok (.invokevirtual 175, 3) := by decide +kernel
theorem dX5_canMiss_23 : decode cX5_canMiss 23 = .ok (.aload_n 0, 1) := by decide +kernel
theorem dX5_canMiss_24 : decode cX5_canMiss 24 = .ok (.iload_n 1, 1) := by decide +kernel
theorem dX5_canMiss_25 : decode cX5_canMiss 25 = .ok (.aload_n 0, 1) := by decide +kernel
theorem dX5_canMiss_26 : decode cX5_canMiss 26 = .ok (.iload_n 1, 1) := by decide +kernel
theorem dX5_canMiss_27 : decode cX5_canMiss 27 = .ok (.iload_n 2, 1) := by decide +kernel
theorem dX5_canMiss_28 : decode cX5_canMiss 28 = .ok (.iconst 1, 1) := by decide +kernel
theorem dX5_canMiss_29 : decode cX5_canMiss 29 = .ok (.invokevirtual 175, 3) := by decide +kernel
theorem dX5_canMiss_32 : decode cX5_canMiss 32 = .ok (.iconst 5, 1) := by decide +kernel
theorem dX5_canMiss_33 : decode cX5_canMiss 33 = .ok (.invokevirtual 175, 3) := by decide +kernel
theorem dX5_canMiss_36 : decode cX5_canMiss 36 = .ok (.if_icmp .ge 7, 3) := by decide +kernel
theorem dX5_canMiss_39 : decode cX5_canMiss 39 = .ok (.iconst 1, 1) := by decide +kernel
theorem dX5_canMiss_40 : decode cX5_canMiss 40 = .ok (.goto 4, 3) := by decide +kernel
theorem dX5_canMiss_43 : decode cX5_canMiss 43 = .ok (.iconst 0, 1) := by decide +kernel
theorem dX5_canMiss_44 : decode cX5_canMiss 44 = .ok (.ireturn, 1) := by decide +kernel
set_option maxRecDepth 20000 in
theorem ggX5_childOf_X5_of : GoodIn wsX5_childOf wsX5_of := goodIn_r _ [6, 1, 7, 8, 9, 10, 11, 12, 13, 14, 15, 16, 17, 18, 19, 20, 21, 22, 23, 24, 25, 26, 27, 28, 29, 30, 31, 32] (by decide +kernel) (by decide +kernel)
set_option maxRecDepth 20000 in
theorem gX5_childOf_X5_of : GoodIn wsX5_childOf (wsV RX5 175 RX5 yX5_of wsX5_of) := goodIn_app (goodIn_of _ (by decide +kernel)) ggX5_childOf_X5_of
theorem dX5_childOf_0 : decode cX5_childOf 0 = .ok (.iload_n 2, 1) := by decide +kernel
theorem dX5_childOf_1 : decode cX5_childOf 1 = .ok (.iconst 1, 1) := by decide +kernel
theorem dX5_childOf_2 : decode cX5_childOf 2 = .ok (.iadd, 1) := by decide +kernel
theorem dX5_childOf_3 : decode cX5_childOf 3 = .ok (.istore 4, 2) := by decide +kernel
theorem dX5_childOf_5 : decode cX5_childOf 5 = .ok (.iload 4, 2) := by decide +kernel
theorem dX5_childOf_7 : decode cX5_childOf 7 = .ok (.aload_n 0, 1) := by decide +kernel
theorem dX5_childOf_8 : decode cX5_childOf 8 = .ok (.getfield 7, 3) := by decide +kernel
theorem dX5_childOf_11 : decode cX5_childOf 11 = .ok (.iconst 3, 1) := by decide +kernel
theorem dX5_childOf_12 : decode cX5_childOf 12 = .ok (.iload_n 1, 1) := by decide +kernel
theorem dX5_childOf_13 : decode cX5_childOf 13 = .ok (.iadd, 1) := by decide +kernel
theorem dX5_childOf_14 : decode cX5_childOf 14 = .ok (.iaload, 1) := by decide +kernel
theorem dX5_childOf_15 : decode cX5_childOf 15 = .ok (.if_icmp .ge 36, 3) := by decide +kernel
theorem dX5_childOf_18 : decode cX5_childOf 18 = .ok (.aload_n 0, 1) := by decide +kernel
theorem dX5_childOf_19 : decode cX5_childOf 19 = .ok (.iload_n 1, 1) := by decide +kernel
theorem dX5_childOf_20 : decode cX5_childOf 20 = .ok (.iload 4, 2) := by decide +kernel
theorem dX5_childOf_22 : decode cX5_childOf 22 = .ok (.iconst 1, 1) := by decide +kernel
theorem dX5_childOf_23 : decode cX5_childOf 23 = .ok (.invokevirtual 175, 3) := by decide +kernel
theorem dX5_childOf_26 : decode cX5_childOf 26 = .ok (.iload_n 2, 1) := by decide +kernel
theorem dX5_childOf_27 : decode cX5_childOf 27 = .ok (.if_icmp .ne 18, 3) := by decide +kernel
theorem dX5_childOf_30 : decode cX5_childOf 30 = .ok (.aload_n 0, 1) := by decide +kernel
theorem dX5_childOf_31 : decode cX5_childOf 31 = .ok (.iload_n 1, 1) := by decide +kernel
theorem dX5_childOf_32 : decode cX5_childOf 32 = .ok (.iload 4, 2) := by decide +kernel
