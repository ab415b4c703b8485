theorem dX5_childOf_34 : decode cX5_childOf 34 = .ok (.iconst 2, 1) := by decide +kernel
theorem dX5_childOf_35 : decode cX5_childOf 35 = .ok (.invokevirtual 175, 3) := by decide +kernel
theorem dX5_childOf_38 : decode cX5_childOf 38 = .ok (.iload_n 3, 1) := by decide +kernel
theorem dX5_childOf_39 : decode cX5_childOf 39 = .ok (.if_icmp .ne 6, 3) := by decide +kernel
theorem dX5_childOf_42 : decode cX5_childOf 42 = .ok (.iload 4, 2) := by decide +kernel
theorem dX5_childOf_44 : decode cX5_childOf 44 = .ok (.ireturn, 1) := by decide +kernel
theorem dX5_childOf_45 : decode cX5_childOf 45 = .ok (.iinc 4 1, 3) := by decide +kernel
theorem dX5_childOf_48 : decode cX5_childOf 48 = .ok (.goto (-43), 3) := by decide +kernel
theorem dX5_childOf_51 : decode cX5_childOf 51 = .ok (.iconst (-1), 1) := by decide +kernel
theorem dX5_childOf_52 : decode cX5_childOf 52 = .ok (.ireturn, 1) := by decide +kernel
set_option maxRecDepth 20000 in
theorem ggX5_children_X5_of : GoodIn wsX5_children wsX5_of := goodIn_r _ [6, 1, 7, 8, 9, 10, 11, 12, 13, 14, 15, 16, 17, 18, 19, 20, 21, 22, 23, 24, 25, 26, 27, 28, 29, 30, 31, 32] (by decide +kernel) (by decide +kernel)
set_option maxRecDepth 20000 in
theorem gX5_children_X5_of : GoodIn wsX5_children (wsV RX5 175 RX5 yX5_of wsX5_of) := goodIn_app (goodIn_of _ (by decide +kernel)) ggX5_children_X5_of
theorem dX5_children_0 : decode cX5_children 0 = .ok (.iconst 0, 1) := by decide +kernel
theorem dX5_children_1 : decode cX5_children 1 = .ok (.istore_n 3, 1) := by decide +kernel
theorem dX5_children_2 : decode cX5_children 2 = .ok (.iload_n 2, 1) := by decide +kernel
theorem dX5_children_3 : decode cX5_children 3 = .ok (.iconst 1, 1) := by decide +kernel
theorem dX5_children_4 : decode cX5_children 4 = .ok (.iadd, 1) := by decide +kernel
theorem dX5_children_5 : decode cX5_children 5 = .ok (.istore 4, 2) := by decide +kernel
theorem dX5_children_7 : decode cX5_children 7 = .ok (.iload 4, 2) := by decide +kernel
theorem dX5_children_9 : decode cX5_children 9 = .ok (.aload_n 0, 1) := by decide +kernel
theorem dX5_children_10 : decode cX5_children 10 = .ok (.getfield 7, 3) := by decide +kernel
theorem dX5_children_13 : decode cX5_children 13 = .ok (.iconst 3, 1) := by decide +kernel
theorem dX5_children_14 : decode cX5_children 14 = .ok (.iload_n 1, 1) := by decide +kernel
theorem dX5_children_15 : decode cX5_children 15 = .ok (.iadd, 1) := by decide +kernel
theorem dX5_children_16 : decode cX5_children 16 = .ok (.iaload, 1) := by decide +kernel
theorem dX5_children_17 : decode cX5_children 17 = .ok (.if_icmp .ge 29, 3) := by decide +kernel
theorem dX5_children_20 : decode cX5_children 20 = .ok (.iload_n 3, 1) := by decide +kernel
theorem dX5_children_21 : decode cX5_children 21 = .ok (.aload_n 0, 1) := by decide +kernel
theorem dX5_children_22 : decode cX5_children 22 = .ok (.iload_n 1, 1) := by decide +kernel
theorem dX5_children_23 : decode cX5_children 23 = .ok (.iload 4, 2) := by decide +kernel
theorem dX5_children_25 : decode cX5_children 25 = .ok (.iconst 1, 1) := by decide +kernel
theorem dX5_children_26 : decode cX5_children 26 = .ok (.invokevirtual 175, 3) := by decide +kernel
theorem dX5_children_29 : decode cX5_children 29 = .ok (.iload_n 2, 1) := by decide +kernel
theorem dX5_children_30 : decode cX5_children 30 = .ok (.if_icmp .ne 7, 3) := by decide +kernel
theorem dX5_children_33 : decode cX5_children 33 = .ok (.iconst 1, 1) := by decide +kernel
theorem dX5_children_34 : decode cX5_children 34 = .ok (.goto 4, 3) := by decide +kernel
theorem dX5_children_37 : decode cX5_children 37 = .ok (.iconst 0, 1) := by decide +kernel
theorem dX5_children_38 : decode cX5_children 38 = .ok (.iadd, 1) := by decide +kernel
theorem dX5_children_39 : decode cX5_children 39 = .ok (.istore_n 3, 1) := by decide +kernel
theorem dX5_children_40 : decode cX5_children 40 = .ok (.iinc 4 1, 3) := by decide +kernel
theorem dX5_children_43 : decode cX5_children 43 = .ok (.goto (-36), 3) := by decide +kernel
theorem dX5_children_46 : decode cX5_children 46 = .ok (.iload_n 3, 1) := by decide +kernel
theorem dX5_children_47 : decode cX5_children 47 = .ok (.ireturn, 1) := by decide +kernel
set_option maxRecDepth 20000 in
theorem ggX5_ofNode_X5_of : GoodIn wsX5_ofNode wsX5_of := goodIn_r _ [5, 6, 22, 23, 24, 25, 26, 27, 28, 29, 30, 31, 32, 33, 34, 35, 36, 37, 38, 39, 40, 41, 42, 43, 44, 45, 46, 47] (by decide +kernel) (by decide +kernel)
set_option maxRecDepth 20000 in
theorem gX5_ofNode_X5_of : GoodIn wsX5_ofNode (wsV RX5 175 RX5 yX5_of wsX5_of) := goodIn_app (goodIn_of _ (by decide +kernel)) ggX5_ofNode_X5_of
set_option maxRecDepth 20000 in
theorem ggX5_ofNode_X5_depth : GoodIn wsX5_ofNode wsX5_depth := goodIn_r _ [10, 1, 2, 3, 4, 5, 6, 22, 23, 24, 25, 26, 27, 28, 29, 30, 31, 32, 33, 34, 35, 36, 37, 38, 39, 40, 41, 42, 43, 44, 45, 46, 47] (by decide +kernel) (by decide +kernel)
set_option maxRecDepth 20000 in
theorem gX5_ofNode_X5_depth : GoodIn wsX5_ofNode (wsV RX5 186 RX5 yX5_depth wsX5_depth) := goodIn_app (goodIn_of _ (by decide +kernel)) ggX5_ofNode_X5_depth
set_option maxRecDepth 20000 in
theorem ggX5_ofNode_X5_canMiss : GoodIn wsX5_ofNode wsX5_canMiss := goodIn_r _ [14, 1, 2, 3, 4, 5, 6, 15, 16, 17, 22, 23, 24, 25, 26, 27, 28, 29, 30, 31, 32, 33, 34, 35, 36, 37, 38, 39, 40, 41, 42, 43, 44, 45, 46, 47] (by decide +kernel) (by decide +kernel)
set_option maxRecDepth 20000 in
theorem gX5_ofNode_X5_canMiss : GoodIn wsX5_ofNode (wsV RX5 189 RX5 yX5_canMiss wsX5_canMiss) := goodIn_app (goodIn_of _ (by decide +kernel)) ggX5_ofNode_X5_canMiss
set_option maxRecDepth 20000 in
theorem ggX5_ofNode_X5_children : GoodIn wsX5_ofNode wsX5_children := goodIn_r _ [21, 6, 1, 2, 3, 4, 5, 22, 23, 24, 25, 26, 27, 28, 29, 30, 31, 32, 33, 34, 35, 36, 37, 38, 39, 40, 41, 42, 43, 44, 45, 46, 47] (by decide +kernel) (by decide +kernel)
set_option maxRecDepth 20000 in
theorem gX5_ofNode_X5_children : GoodIn wsX5_ofNode (wsV RX5 192 RX5 yX5_children wsX5_children) := goodIn_app (goodIn_of _ (by decide +kernel)) ggX5_ofNode_X5_children
theorem dX5_ofNode_0 : decode cX5_ofNode 0 = .ok (.iload_n 3, 1) := by decide +kernel
theorem dX5_ofNode_1 : decode cX5_ofNode 1 = .ok (.tableswitch 125 0 9 #[55, 63, 79, 87, 125, 125, 125, 94, 109, 118], 55) := by decide +kernel
theorem dX5_ofNode_56 : decode cX5_ofNode 56 = .ok (.aload_n 0, 1) := by decide +kernel
theorem dX5_ofNode_57 : decode cX5_ofNode 57 = .ok (.iload_n 1, 1) := by decide +kernel
theorem dX5_ofNode_58 : decode cX5_ofNode 58 = .ok (.iload_n 2, 1) := by decide +kernel
theorem dX5_ofNode_59 : decode cX5_ofNode 59 = .ok (.iconst 0, 1) := by decide +kernel
theorem dX5_ofNode_60 : decode cX5_ofNode 60 = .ok (.invokevirtual 175, 3) := by decide +kernel
theorem dX5_ofNode_63 : decode cX5_ofNode 63 = .ok (.ireturn, 1) := by decide +kernel
theorem dX5_ofNode_64 : decode cX5_ofNode 64 = .ok (.iload_n 2, 1) := by decide +kernel
theorem dX5_ofNode_65 : decode cX5_ofNode 65 = .ok (.ifCond .ne 7, 3) := by decide +kernel
theorem dX5_ofNode_68 : decode cX5_ofNode 68 = .ok (.iconst (-1), 1) := by decide +kernel
theorem dX5_ofNode_69 : decode cX5_ofNode 69 = .ok (.goto 10, 3) := by decide +kernel
theorem dX5_ofNode_72 : decode cX5_ofNode 72 = .ok (.aload_n 0, 1) := by decide +kernel
theorem dX5_ofNode_73 : decode cX5_ofNode 73 = .ok (.iload_n 1, 1) := by decide +kernel
theorem dX5_ofNode_74 : decode cX5_ofNode 74 = .ok (.iload_n 2, 1) := by decide +kernel
theorem dX5_ofNode_75 : decode cX5_ofNode 75 = .ok (.iconst 2, 1) := by decide +kernel
theorem dX5_ofNode_76 : decode cX5_ofNode 76 = .ok (.invokevirtual 175, 3) := by decide +kernel
theorem dX5_ofNode_79 : decode cX5_ofNode 79 = .ok (.ireturn, 1) := by decide +kernel
theorem dX5_ofNode_80 : decode cX5_ofNode 80 = .ok (.aload_n 0, 1) := by decide +kernel
theorem dX5_ofNode_81 : decode cX5_ofNode 81 = .ok (.iload_n 1, 1) := by decide +kernel
theorem dX5_ofNode_82 : decode cX5_ofNode 82 = .ok (.iload_n 2, 1) := by decide +kernel
theorem dX5_ofNode_83 : decode cX5_ofNode 83 = .ok (.iconst 1, 1) := by decide +kernel
theorem dX5_ofNode_84 : decode cX5_ofNode 84 = .ok (.invokevirtual 175, 3) := by decide +kernel
theorem dX5_ofNode_87 : decode cX5_ofNode 87 = .ok (.ireturn, 1) := by decide +kernel
theorem dX5_ofNode_88 : decode cX5_ofNode 88 = .ok (.aload_n 0, 1) := by decide +kernel
theorem dX5_ofNode_89 : decode cX5_ofNode 89 = .ok (.iload_n 1, 1) := by decide +kernel
theorem dX5_ofNode_90 : decode cX5_ofNode 90 = .ok (.iload_n 2, 1) := by decide +kernel
theorem dX5_ofNode_91 : decode cX5_ofNode 91 = .ok (.invokevirtual 186, 3) := by decide +kernel
theorem dX5_ofNode_94 : decode cX5_ofNode 94 = .ok (.ireturn, 1) := by decide +kernel
theorem dX5_ofNode_95 : decode cX5_ofNode 95 = .ok (.aload_n 0, 1) := by decide +kernel
theorem dX5_ofNode_96 : decode cX5_ofNode 96 = .ok (.iload_n 1, 1) := by decide +kernel
theorem dX5_ofNode_97 : decode cX5_ofNode 97 = .ok (.iload_n 2, 1) := by decide +kernel
theorem dX5_ofNode_98 : decode cX5_ofNode 98 = .ok (.invokevirtual 189, 3) := by decide +kernel
theorem dX5_ofNode_101 : decode cX5_ofNode 101 = .ok (.ifCond .eq 7, 3) := by decide +kernel
theorem dX5_ofNode_104 : decode cX5_ofNode 104 = .ok (.iconst 1, 1) := by decide +kernel
theorem dX5_ofNode_105 : decode cX5_ofNode 105 = .ok (.goto 4, 3) := by decide +kernel
theorem dX5_ofNode_108 : decode cX5_ofNode 108 = .ok (.iconst 0, 1) := by decide +kernel
theorem dX5_ofNode_109 : decode cX5_ofNode 109 = .ok (.ireturn, 1) := by decide +kernel
theorem dX5_ofNode_110 : decode cX5_ofNode 110 = .ok (.aload_n 0, 1) := by decide +kernel
theorem dX5_ofNode_111 : decode cX5_ofNode 111 = .ok (.iload_n 1, 1) := by decide +kernel
theorem dX5_ofNode_112 : decode cX5_ofNode 112 = .ok (.iload_n 2, 1) := by decide +kernel
theorem dX5_ofNode_113 : decode cX5_ofNode 113 = .ok (.bipush 6, 2) := by decide +kernel
theorem dX5_ofNode_115 : decode cX5_ofNode 115 = .ok (.invokevirtual 175, 3) := by decide +kernel
theorem dX5_ofNode_118 : decode cX5_ofNode 118 = .ok (.ireturn, 1) := by decide +kernel
theorem dX5_ofNode_119 : decode cX5_ofNode 119 = .ok (.aload_n 0, 1) := by decide +kernel
theorem dX5_ofNode_120 : decode cX5_ofNode 120 = .ok (.iload_n 1, 1) := by decide +kernel
theorem dX5_ofNode_121 : decode cX5_ofNode 121 = .ok (.iload_n 2, 1) := by decide +kernel
theorem dX5_ofNode_122 : decode cX5_ofNode 122 = .ok (.invokevirtual 192, 3) := by decide +kernel
theorem dX5_ofNode_125 : decode cX5_ofNode 125 = .ok (.ireturn, 1) := by decide +kernel
theorem dX5_ofNode_126 : decode cX5_ofNode 126 = .ok (.aload_n 0, 1) := by decide +kernel
theorem dX5_ofNode_127 : decode cX5_ofNode 127 = .ok (.iload_n 1, 1) := by decide +kernel
theorem dX5_ofNode_128 : decode cX5_ofNode 128 = .ok (.iload_n 2, 1) := by decide +kernel
theorem dX5_ofNode_129 : decode cX5_ofNode 129 = .ok (.iload_n 3, 1) := by decide +kernel
theorem dX5_ofNode_130 : decode cX5_ofNode 130 = .ok (.iconst 1, 1) := by decide +kernel
theorem dX5_ofNode_131 : decode cX5_ofNode 131 = .ok (.isub, 1) := by decide +kernel
theorem dX5_ofNode_132 : decode cX5_ofNode 132 = .ok (.invokevirtual 175, 3) := by decide +kernel
theorem dX5_ofNode_135 : decode cX5_ofNode 135 = .ok (.ireturn, 1) := by decide +kernel
set_option maxRecDepth 20000 in
theorem ggX5_node_X5_isNode : GoodIn wsX5_node wsX5_isNode := goodIn_r _ [6, 7, 8, 9, 5, 10, 11, 12, 13, 38, 39, 40, 41, 42, 43, 44, 45, 46, 47, 48, 49, 50, 51, 52, 53, 54, 55, 56, 57, 58, 59, 60, 61, 62, 63] (by decide +kernel) (by decide +kernel)
set_option maxRecDepth 20000 in
theorem gX5_node_X5_isNode : GoodIn wsX5_node (wsV RX5 195 RX5 yX5_isNode wsX5_isNode) := goodIn_app (goodIn_of _ (by decide +kernel)) ggX5_node_X5_isNode
set_option maxRecDepth 20000 in
theorem ggX5_node_X5_fails : GoodIn wsX5_node wsX5_fails := goodIn_r _ [17, 1, 38, 39, 40, 41, 42, 43, 44, 45, 46, 47, 48, 49, 50, 51, 52, 53, 54, 55, 56, 57, 58, 59, 60, 61, 62, 63] (by decide +kernel) (by decide +kernel)
set_option maxRecDepth 20000 in
theorem gX5_node_X5_fails : GoodIn wsX5_node (wsV RX5 64 RX5 yX5_fails wsX5_fails) := goodIn_app (goodIn_of _ (by decide +kernel)) ggX5_node_X5_fails
set_option maxRecDepth 20000 in
theorem ggX5_node_X5_in : GoodIn wsX5_node wsX5_in := goodIn_r _ [13] (by decide +kernel) (by decide +kernel)
set_option maxRecDepth 20000 in
theorem gX5_node_X5_in : GoodIn wsX5_node (va_wsS RX5 53 yX5_in wsX5_in) := goodIn_app (goodIn_of _ (by decide +kernel)) ggX5_node_X5_in
set_option maxRecDepth 20000 in
theorem ggX5_node_X5_ofNode : GoodIn wsX5_node wsX5_ofNode := goodIn_r _ [21, 22, 23, 24, 5, 25, 7, 26, 27, 28, 29, 30, 31, 32, 33, 11, 12, 13, 34, 35, 36, 37, 38, 39, 40, 41, 42, 43, 44, 45, 46, 47, 48, 49, 50, 51, 52, 53, 54, 55, 56, 57, 58, 59, 60, 61, 62, 63] (by decide +kernel) (by decide +kernel)
set_option maxRecDepth 20000 in
theorem gX5_node_X5_ofNode : GoodIn wsX5_node (wsV RX5 198 RX5 yX5_ofNode wsX5_ofNode) := goodIn_app (goodIn_of _ (by decide +kernel)) ggX5_node_X5_ofNode
theorem dX5_node_0 : decode cX5_node 0 = .ok (.aload_n 0, 1) := by decide +kernel
theorem dX5_node_1 : decode cX5_node 1 = .ok (.iconst 0, 1) := by decide +kernel
theorem dX5_node_2 : decode cX5_node 2 = .ok (.putfield 49, 3) := by decide +kernel
theorem dX5_node_5 : decode cX5_node 5 = .ok (.aload_n 0, 1) := by decide +kernel
theorem dX5_node_6 : decode cX5_node 6 = .ok (.iload_n 1, 1) := by decide +kernel
theorem dX5_node_7 : decode cX5_node 7 = .ok (.iload_n 2, 1) := by decide +kernel
theorem dX5_node_8 : decode cX5_node 8 = .ok (.invokevirtual 195, 3) := by decide +kernel
theorem dX5_node_11 : decode cX5_node 11 = .ok (.ifCond .ne 9, 3) := by decide +kernel
theorem dX5_node_14 : decode cX5_node 14 = .ok (.aload_n 0, 1) := by decide +kernel
theorem dX5_node_15 : decode cX5_node 15 = .ok (.iconst 1, 1) := by decide +kernel
theorem dX5_node_16 : decode cX5_node 16 = .ok (.invokevirtual 64, 3) := by decide +kernel
theorem dX5_node_19 : decode cX5_node 19 = .ok (.ireturn, 1) := by decide +kernel
theorem dX5_node_20 : decode cX5_node 20 = .ok (.iload_n 3, 1) := by decide +kernel
theorem dX5_node_21 : decode cX5_node 21 = .ok (.iconst 0, 1) := by decide +kernel
theorem dX5_node_22 : decode cX5_node 22 = .ok (.bipush 9, 2) := by decide +kernel
theorem dX5_node_24 : decode cX5_node 24 = .ok (.invokestatic 53, 3) := by decide +kernel
theorem dX5_node_27 : decode cX5_node 27 = .ok (.ifCond .eq 13, 3) := by decide +kernel
theorem dX5_node_30 : decode cX5_node 30 = .ok (.aload_n 0, 1) := by decide +kernel
theorem dX5_node_31 : decode cX5_node 31 = .ok (.iload_n 1, 1) := by decide +kernel
theorem dX5_node_32 : decode cX5_node 32 = .ok (.iload_n 2, 1) := by decide +kernel
theorem dX5_node_33 : decode cX5_node 33 = .ok (.iload_n 3, 1) := by decide +kernel
theorem dX5_node_34 : decode cX5_node 34 = .ok (.invokevirtual 198, 3) := by decide +kernel
theorem dX5_node_37 : decode cX5_node 37 = .ok (.goto 8, 3) := by decide +kernel
theorem dX5_node_40 : decode cX5_node 40 = .ok (.aload_n 0, 1) := by decide +kernel
theorem dX5_node_41 : decode cX5_node 41 = .ok (.iconst 2, 1) := by decide +kernel
theorem dX5_node_42 : decode cX5_node 42 = .ok (.invokevirtual 64, 3) := by decide +kernel
theorem dX5_node_45 : decode cX5_node 45 = .ok (.ireturn, 1) := by decide +kernel
set_option maxRecDepth 20000 in
theorem ggX5_child_X5_isNode : GoodIn wsX5_child wsX5_isNode := goodIn_r _ [6, 7, 8, 9, 5, 10, 11, 12, 13, 26, 27, 28, 29, 30, 31, 32, 33, 34, 35, 36, 37, 38, 39, 40, 41, 42, 43, 44, 45, 46, 47, 48, 49, 50, 51] (by decide +kernel) (by decide +kernel)
set_option maxRecDepth 20000 in
theorem gX5_child_X5_isNode : GoodIn wsX5_child (wsV RX5 195 RX5 yX5_isNode wsX5_isNode) := goodIn_app (goodIn_of _ (by decide +kernel)) ggX5_child_X5_isNode
set_option maxRecDepth 20000 in
theorem ggX5_child_X5_fails : GoodIn wsX5_child wsX5_fails := goodIn_r _ [17, 1, 26, 27, 28, 29, 30, 31, 32, 33, 34, 35, 36, 37, 38, 39, 40, 41, 42, 43, 44, 45, 46, 47, 48, 49, 50, 51] (by decide +kernel) (by decide +kernel)
set_option maxRecDepth 20000 in
theorem gX5_child_X5_fails : GoodIn wsX5_child (wsV RX5 64 RX5 yX5_fails wsX5_fails) := goodIn_app (goodIn_of _ (by decide +kernel)) ggX5_child_X5_fails
set_option maxRecDepth 20000 in
theorem ggX5_child_X5_in : GoodIn wsX5_child wsX5_in := goodIn_r _ [13] (by decide +kernel) (by decide +kernel)
set_option maxRecDepth 20000 in
theorem gX5_child_X5_in : GoodIn wsX5_child (va_wsS RX5 53 yX5_in wsX5_in) := goodIn_app (goodIn_of _ (by decide +kernel)) ggX5_child_X5_in
set_option maxRecDepth 20000 in
theorem ggX5_child_X5_childOf : GoodIn wsX5_child wsX5_childOf := goodIn_r _ [21, 7, 22, 23, 24, 5, 25, 26, 27, 28, 29, 30, 31, 32, 33, 34, 35, 36, 37, 38, 39, 40, 41, 42, 43, 44, 45, 46, 47, 48, 49, 50, 51] (by decide +kernel) (by decide +kernel)
set_option maxRecDepth 20000 in
theorem gX5_child_X5_childOf : GoodIn wsX5_child (wsV RX5 201 RX5 yX5_childOf wsX5_childOf) := goodIn_app (goodIn_of _ (by decide +kernel)) ggX5_child_X5_childOf
theorem dX5_child_0 : decode cX5_child 0 = .ok (.aload_n 0, 1) := by decide +kernel
theorem dX5_child_1 : decode cX5_child 1 = .ok (.iconst 0, 1) := by decide +kernel
theorem dX5_child_2 : decode cX5_child 2 = .ok (.putfield 49, 3) := by decide +kernel
theorem dX5_child_5 : decode cX5_child 5 = .ok (.aload_n 0, 1) := by decide +kernel
theorem dX5_child_6 : decode cX5_child 6 = .ok (.iload_n 1, 1) := by decide +kernel
theorem dX5_child_7 : decode cX5_child 7 = .ok (.iload_n 2, 1) := by decide +kernel
theorem dX5_child_8 : decode cX5_child 8 = .ok (.invokevirtual 195, 3) := by decide +kernel
theorem dX5_child_11 : decode cX5_child 11 = .ok (.ifCond .ne 9, 3) := by decide +kernel
theorem dX5_child_14 : decode cX5_child 14 = .ok (.aload_n 0, 1) := by decide +kernel
theorem dX5_child_15 : decode cX5_child 15 = .ok (.iconst 1, 1) := by decide +kernel
theorem dX5_child_16 : decode cX5_child 16 = .ok (.invokevirtual 64, 3) := by decide +kernel
theorem dX5_child_19 : decode cX5_child 19 = .ok (.ireturn, 1) := by decide +kernel
theorem dX5_child_20 : decode cX5_child 20 = .ok (.iload_n 3, 1) := by decide +kernel
theorem dX5_child_21 : decode cX5_child 21 = .ok (.iconst 0, 1) := by decide +kernel
theorem dX5_child_22 : decode cX5_child 22 = .ok (.bipush 8, 2) := by decide +kernel
theorem dX5_child_24 : decode cX5_child 24 = .ok (.invokestatic 53, 3) := by decide +kernel
theorem dX5_child_27 : decode cX5_child 27 = .ok (.ifCond .eq 13, 3) := by decide +kernel
theorem dX5_child_30 : decode cX5_child 30 = .ok (.aload_n 0, 1) := by decide +kernel
theorem dX5_child_31 : decode cX5_child 31 = .ok (.iload_n 1, 1) := by decide +kernel
theorem dX5_child_32 : decode cX5_child 32 = .ok (.iload_n 2, 1) := by decide +kernel
theorem dX5_child_33 : decode cX5_child 33 = .ok (.iload_n 3, 1) := by decide +kernel
theorem dX5_child_34 : decode cX5_child 34 = .ok (.invokevirtual 201, 3) := by decide +kernel
theorem dX5_child_37 : decode cX5_child 37 = .ok (.goto 8, 3) := by decide +kernel
theorem dX5_child_40 : decode cX5_child 40 = .ok (.aload_n 0, 1) := by decide +kernel
theorem dX5_child_41 : decode cX5_child 41 = .ok (.iconst 2, 1) := by decide +kernel
theorem dX5_child_42 : decode cX5_child 42 = .ok (.invokevirtual 64, 3) := by decide +kernel
theorem dX5_child_45 : decode cX5_child 45 = .ok (.ireturn, 1) := by decide +kernel
set_option maxRecDepth 20000 in
theorem ggX5_ofShape_X5_depth : GoodIn wsX5_ofShape wsX5_depth := goodIn_r _ [6, 7, 8, 9, 5, 10, 1, 18, 19, 20, 21, 22, 23, 24, 25, 26, 27, 28, 29, 30, 31, 32, 33, 34, 35, 36, 37, 38, 39, 40, 41, 42, 43] (by decide +kernel) (by decide +kernel)
set_option maxRecDepth 20000 in
theorem gX5_ofShape_X5_depth : GoodIn wsX5_ofShape (wsV RX5 186 RX5 yX5_depth wsX5_depth) := goodIn_app (goodIn_of _ (by decide +kernel)) ggX5_ofShape_X5_depth
set_option maxRecDepth 20000 in
theorem ggX5_ofShape_X5_of : GoodIn wsX5_ofShape wsX5_of := goodIn_r _ [10, 1, 18, 19, 20, 21, 22, 23, 24, 25, 26, 27, 28, 29, 30, 31, 32, 33, 34, 35, 36, 37, 38, 39, 40, 41, 42, 43] (by decide +kernel) (by decide +kernel)
set_option maxRecDepth 20000 in
theorem gX5_ofShape_X5_of : GoodIn wsX5_ofShape (wsV RX5 175 RX5 yX5_of wsX5_of) := goodIn_app (goodIn_of _ (by decide +kernel)) ggX5_ofShape_X5_of
set_option maxRecDepth 20000 in
theorem ggX5_ofShape_X5_canMiss : GoodIn wsX5_ofShape wsX5_canMiss := goodIn_r _ [14, 7, 8, 9, 5, 10, 1, 15, 16, 17, 18, 19, 20, 21, 22, 23, 24, 25, 26, 27, 28, 29, 30, 31, 32, 33, 34, 35, 36, 37, 38, 39, 40, 41, 42, 43] (by decide +kernel) (by decide +kernel)
set_option maxRecDepth 20000 in
theorem gX5_ofShape_X5_canMiss : GoodIn wsX5_ofShape (wsV RX5 189 RX5 yX5_canMiss wsX5_canMiss) := goodIn_app (goodIn_of _ (by decide +kernel)) ggX5_ofShape_X5_canMiss
theorem dX5_ofShape_0 : decode cX5_ofShape 0 = .ok (.iload_n 2, 1) := by decide +kernel
theorem dX5_ofShape_1 : decode cX5_ofShape 1 = .ok (.iconst 2, 1) := by decide +kernel
theorem dX5_ofShape_2 : decode cX5_ofShape 2 = .ok (.if_icmp .ge 27, 3) := by decide +kernel
theorem dX5_ofShape_5 : decode cX5_ofShape 5 = .ok (.iload_n 2, 1) := by decide +kernel
theorem dX5_ofShape_6 : decode cX5_ofShape 6 = .ok (.ifCond .ne 14, 3) := by decide +kernel
theorem dX5_ofShape_9 : decode cX5_ofShape 9 = .ok (.aload_n 0, 1) := by decide +kernel
theorem dX5_ofShape_10 : decode cX5_ofShape 10 = .ok (.getfield 7, 3) := by decide +kernel
theorem dX5_ofShape_13 : decode cX5_ofShape 13 = .ok (.iconst 1, 1) := by decide +kernel
theorem dX5_ofShape_14 : decode cX5_ofShape 14 = .ok (.iload_n 1, 1) := by decide +kernel
theorem dX5_ofShape_15 : decode cX5_ofShape 15 = .ok (.iadd, 1) := by decide +kernel
theorem dX5_ofShape_16 : decode cX5_ofShape 16 = .ok (.iaload, 1) := by decide +kernel
theorem dX5_ofShape_17 : decode cX5_ofShape 17 = .ok (.goto 11, 3) := by decide +kernel
theorem dX5_ofShape_20 : decode cX5_ofShape 20 = .ok (.aload_n 0, 1) := by decide +kernel
theorem dX5_ofShape_21 : decode cX5_ofShape 21 = .ok (.getfield 7, 3) := by decide +kernel
theorem dX5_ofShape_24 : decode cX5_ofShape 24 = .ok (.iconst 3, 1) := by decide +kernel
theorem dX5_ofShape_25 : decode cX5_ofShape 25 = .ok (.iload_n 1, 1) := by decide +kernel
theorem dX5_ofShape_26 : decode cX5_ofShape 26 = .ok (.iadd, 1) := by decide +kernel
theorem dX5_ofShape_27 : decode cX5_ofShape 27 = .ok (.iaload, 1) := by decide +kernel
theorem dX5_ofShape_28 : decode cX5_ofShape 28 = .ok (.ireturn, 1) := by decide +kernel
theorem dX5_ofShape_29 : decode cX5_ofShape 29 = .ok (.iload_n 2, 1) := by decide +kernel
theorem dX5_ofShape_30 : decode cX5_ofShape 30 = .ok (.iconst 5, 1) := by decide +kernel
theorem dX5_ofShape_31 : decode cX5_ofShape 31 = .ok (.if_icmp .ne 7, 3) := by decide +kernel
theorem dX5_ofShape_34 : decode cX5_ofShape 34 = .ok (.iconst (-1), 1) := by decide +kernel
theorem dX5_ofShape_35 : decode cX5_ofShape 35 = .ok (.goto 4, 3) := by decide +kernel
theorem dX5_ofShape_38 : decode cX5_ofShape 38 = .ok (.iconst 0, 1) := by decide +kernel
theorem dX5_ofShape_39 : decode cX5_ofShape 39 = .ok (.istore_n 3, 1) := by decide +kernel
theorem dX5_ofShape_40 : decode cX5_ofShape 40 = .ok (.iconst 0, 1) := by decide +kernel
theorem dX5_ofShape_41 : decode cX5_ofShape 41 = .ok (.istore 4, 2) := by decide +kernel
theorem dX5_ofShape_43 : decode cX5_ofShape 43 = .ok (.iload 4, 2) := by decide +kernel
theorem dX5_ofShape_45 : decode cX5_ofShape 45 = .ok (.aload_n 0, 1) := by decide +kernel
theorem dX5_ofShape_46 : decode cX5_ofShape 46 = .ok (.getfield 7, 3) := by decide +kernel
theorem dX5_ofShape_49 : decode cX5_ofShape 49 = .ok (.iconst 3, 1) := by decide +kernel
theorem dX5_ofShape_50 : decode cX5_ofShape 50 = .ok (.iload_n 1, 1) := by decide +kernel
theorem dX5_ofShape_51 : decode cX5_ofShape 51 = .ok (.iadd, 1) := by decide +kernel
theorem dX5_ofShape_52 : decode cX5_ofShape 52 = .ok (.iaload, 1) := by decide +kernel
theorem dX5_ofShape_53 : decode cX5_ofShape 53 = .ok (.if_icmp .ge 113, 3) := by decide +kernel
theorem dX5_ofShape_56 : decode cX5_ofShape 56 = .ok (.iload_n 2, 1) := by decide +kernel
theorem dX5_ofShape_57 : decode cX5_ofShape 57 = .ok (.iconst 5, 1) := by decide +kernel
theorem dX5_ofShape_58 : decode cX5_ofShape 58 = .ok (.if_icmp .ne 29, 3) := by decide +kernel
theorem dX5_ofShape_61 : decode cX5_ofShape 61 = .ok (.aload_n 0, 1) := by decide +kernel
theorem dX5_ofShape_62 : decode cX5_ofShape 62 = .ok (.iload_n 1, 1) := by decide +kernel
theorem dX5_ofShape_63 : decode cX5_ofShape 63 = .ok (.iload 4, 2) := by decide +kernel
theorem dX5_ofShape_65 : decode cX5_ofShape 65 = .ok (.invokevirtual 186, 3) := by decide +kernel
theorem dX5_ofShape_68 : decode cX5_ofShape 68 = .ok (.iload_n 3, 1) := by decide +kernel
theorem dX5_ofShape_69 : decode cX5_ofShape 69 = .ok (.if_icmp .le 13, 3) := by decide +kernel
theorem dX5_ofShape_72 : decode cX5_ofShape 72 = .ok (.aload_n 0, 1) := by decide +kernel
theorem dX5_ofShape_73 : decode cX5_ofShape 73 = .ok (.iload_n 1, 1) := by decide +kernel
theorem dX5_ofShape_74 : decode cX5_ofShape 74 = .ok (.iload 4, 2) := by decide +kernel
theorem dX5_ofShape_76 : decode cX5_ofShape 76 = .ok (.invokevirtual 186, 3) := by decide +kernel
theorem dX5_ofShape_79 : decode cX5_ofShape 79 = .ok (.goto 4, 3) := by decide +kernel
theorem dX5_ofShape_82 : decode cX5_ofShape 82 = .ok (.iload_n 3, 1) := by decide +kernel
theorem dX5_ofShape_83 : decode cX5_ofShape 83 = .ok (.istore_n 3, 1) := by decide +kernel
theorem dX5_ofShape_84 : decode cX5_ofShape 84 = .ok (.goto 76, 3) := by decide +kernel
theorem dX5_ofShape_87 : decode cX5_ofShape 87 = .ok (.iload_n 2, 1) := by decide +kernel
theorem dX5_ofShape_88 : decode cX5_ofShape 88 = .ok (.iconst 2, 1) := by decide +kernel
theorem dX5_ofShape_89 : decode cX5_ofShape 89 = .ok (.if_icmp .ne 24, 3) := by decide +kernel
theorem dX5_ofShape_92 : decode cX5_ofShape 92 = .ok (.aload_n 0, 1) := by decide +kernel
theorem dX5_ofShape_93 : decode cX5_ofShape 93 = .ok (.iload_n 1, 1) := by decide +kernel
theorem dX5_ofShape_94 : decode cX5_ofShape 94 = .ok (.iload 4, 2) := by decide +kernel
theorem dX5_ofShape_96 : decode cX5_ofShape 96 = .ok (.iconst 0, 1) := by decide +kernel
theorem dX5_ofShape_97 : decode cX5_ofShape 97 = .ok (.invokevirtual 175, 3) := by decide +kernel
theorem dX5_ofShape_100 : decode cX5_ofShape 100 = .ok (.bipush 7, 2) := by decide +kernel
theorem dX5_ofShape_102 : decode cX5_ofShape 102 = .ok (.if_icmp .ne 7, 3) := by decide +kernel
theorem dX5_ofShape_105 : decode cX5_ofShape 105 = .ok (.iconst 1, 1) := by decide +kernel
theorem dX5_ofShape_106 : decode cX5_ofShape 106 = .ok (.goto 39, 3) := by decide +kernel
theorem dX5_ofShape_109 : decode cX5_ofShape 109 = .ok (.iconst 0, 1) := by decide +kernel
theorem dX5_ofShape_110 : decode cX5_ofShape 110 = .ok (.goto 35, 3) := by decide +kernel
theorem dX5_ofShape_113 : decode cX5_ofShape 113 = .ok (.iload_n 2, 1) := by decide +kernel
theorem dX5_ofShape_114 : decode cX5_ofShape 114 = .ok (.iconst 3, 1) := by decide +kernel
theorem dX5_ofShape_115 : decode cX5_ofShape 115 = .ok (.if_icmp .ne 13, 3) := by decide +kernel
theorem dX5_ofShape_118 : decode cX5_ofShape 118 = .ok (.aload_n 0, 1) := by decide +kernel
theorem dX5_ofShape_119 : decode cX5_ofShape 119 = .ok (.iload_n 1, 1) := by decide +kernel
theorem dX5_ofShape_120 : decode cX5_ofShape 120 = .ok (.iload 4, 2) := by decide +kernel
theorem dX5_ofShape_122 : decode cX5_ofShape 122 = .ok (.invokevirtual 189, 3) := by decide +kernel
theorem dX5_ofShape_125 : decode cX5_ofShape 125 = .ok (.goto 20, 3) := by decide +kernel
theorem dX5_ofShape_128 : decode cX5_ofShape 128 = .ok (.aload_n 0, 1) := by decide +kernel
theorem dX5_ofShape_129 : decode cX5_ofShape 129 = .ok (.iload_n 1, 1) := by decide +kernel
theorem dX5_ofShape_130 : decode cX5_ofShape 130 = .ok (.iload 4, 2) := by decide +kernel
theorem dX5_ofShape_132 : decode cX5_ofShape 132 = .ok (.iconst 4, 1) := by decide +kernel
theorem dX5_ofShape_133 : decode cX5_ofShape 133 = .ok (.invokevirtual 175, 3) := by decide +kernel
theorem dX5_ofShape_136 : decode cX5_ofShape 136 = .ok (.iconst 1, 1) := by decide +kernel
theorem dX5_ofShape_137 : decode cX5_ofShape 137 = .ok (.if_icmp .ne 7, 3) := by decide +kernel
theorem dX5_ofShape_140 : decode cX5_ofShape 140 = .ok (.iconst 1, 1) := by decide +kernel
theorem dX5_ofShape_141 : decode cX5_ofShape 141 = .ok (.goto 4, 3) := by decide +kernel
theorem dX5_ofShape_144 : decode cX5_ofShape 144 = .ok (.iconst 0, 1) := by decide +kernel
theorem dX5_ofShape_145 : decode cX5_ofShape 145 = .ok (.istore 5, 2) := by decide +kernel
theorem dX5_ofShape_147 : decode cX5_ofShape 147 = .ok (.iload_n 3, 1) := by decide +kernel
theorem dX5_ofShape_148 : decode cX5_ofShape 148 = .ok (.iload 5, 2) := by decide +kernel
theorem dX5_ofShape_150 : decode cX5_ofShape 150 = .ok (.ifCond .eq 7, 3) := by decide +kernel
theorem dX5_ofShape_153 : decode cX5_ofShape 153 = .ok (.iconst 1, 1) := by decide +kernel
theorem dX5_ofShape_154 : decode cX5_ofShape 154 = .ok (.goto 4, 3) := by decide +kernel
theorem dX5_ofShape_157 : decode cX5_ofShape 157 = .ok (.iconst 0, 1) := by decide +kernel
theorem dX5_ofShape_158 : decode cX5_ofShape 158 = .ok (.iadd, 1) := by decide +kernel
theorem dX5_ofShape_159 : decode cX5_ofShape 159 = .ok (.istore_n 3, 1) := by decide +kernel
theorem dX5_ofShape_160 : decode cX5_ofShape 160 = .ok (.iinc 4 1, 3) := by decide +kernel
theorem dX5_ofShape_163 : decode cX5_ofShape 163 = .ok (.goto (-120), 3) := by decide +kernel
theorem dX5_ofShape_166 : decode cX5_ofShape 166 = .ok (.iload_n 3, 1) := by decide +kernel
theorem dX5_ofShape_167 : decode cX5_ofShape 167 = .ok (.ireturn, 1) := by decide +kernel
set_option maxRecDepth 20000 in
theorem ggX5_shape_X5_isShape : GoodIn wsX5_shape wsX5_isShape := goodIn_r _ [5, 6, 7, 4, 8] (by decide +kernel) (by decide +kernel)
set_option maxRecDepth 20000 in
theorem gX5_shape_X5_isShape : GoodIn wsX5_shape (va_wsS RX5 57 yX5_isShape wsX5_isShape) := goodIn_app (goodIn_of _ (by decide +kernel)) ggX5_shape_X5_isShape
set_option maxRecDepth 20000 in
theorem ggX5_shape_X5_fails : GoodIn wsX5_shape wsX5_fails := goodIn_r _ [12, 1, 30, 31, 32, 33, 34, 35, 36, 37, 38, 39, 40, 41, 42, 43, 44, 45, 46, 47, 48, 49, 50, 51, 52, 53, 54, 55] (by decide +kernel) (by decide +kernel)
set_option maxRecDepth 20000 in
theorem gX5_shape_X5_fails : GoodIn wsX5_shape (wsV RX5 64 RX5 yX5_fails wsX5_fails) := goodIn_app (goodIn_of _ (by decide +kernel)) ggX5_shape_X5_fails
set_option maxRecDepth 20000 in
theorem ggX5_shape_X5_in : GoodIn wsX5_shape wsX5_in := goodIn_r _ [8] (by decide +kernel) (by decide +kernel)
set_option maxRecDepth 20000 in
theorem gX5_shape_X5_in : GoodIn wsX5_shape (va_wsS RX5 53 yX5_in wsX5_in) := goodIn_app (goodIn_of _ (by decide +kernel)) ggX5_shape_X5_in
set_option maxRecDepth 20000 in
theorem ggX5_shape_X5_ofShape : GoodIn wsX5_shape wsX5_ofShape := goodIn_r _ [16, 17, 18, 19, 20, 4, 21, 22, 23, 24, 25, 26, 27, 28, 29, 6, 7, 8, 30, 31, 32, 33, 34, 35, 36, 37, 38, 39, 40, 41, 42, 43, 44, 45, 46, 47, 48, 49, 50, 51, 52, 53, 54, 55] (by decide +kernel) (by decide +kernel)
set_option maxRecDepth 20000 in
theorem gX5_shape_X5_ofShape : GoodIn wsX5_shape (wsV RX5 204 RX5 yX5_ofShape wsX5_ofShape) := goodIn_app (goodIn_of _ (by decide +kernel)) ggX5_shape_X5_ofShape
theorem dX5_shape_0 : decode cX5_shape 0 = .ok (.aload_n 0, 1) := by decide +kernel
theorem dX5_shape_1 : decode cX5_shape 1 = .ok (.iconst 0, 1) := by decide +kernel
theorem dX5_shape_2 : decode cX5_shape 2 = .ok (.putfield 49, 3) := by decide +kernel
theorem dX5_shape_5 : decode cX5_shape 5 = .ok (.iload_n 1, 1) := by decide +kernel
theorem dX5_shape_6 : decode cX5_shape 6 = .ok (.invokestatic 57, 3) := by decide +kernel
theorem dX5_shape_9 : decode cX5_shape 9 = .ok (.ifCond .ne 9, 3) := by decide +kernel
theorem dX5_shape_12 : decode cX5_shape 12 = .ok (.aload_n 0, 1) := by decide +kernel
theorem dX5_shape_13 : decode cX5_shape 13 = .ok (.iconst 1, 1) := by decide +kernel
theorem dX5_shape_14 : decode cX5_shape 14 = .ok (.invokevirtual 64, 3) := by decide +kernel
theorem dX5_shape_17 : decode cX5_shape 17 = .ok (.ireturn, 1) := by decide +kernel
theorem dX5_shape_18 : decode cX5_shape 18 = .ok (.iload_n 2, 1) := by decide +kernel
theorem dX5_shape_19 : decode cX5_shape 19 = .ok (.iconst 0, 1) := by decide +kernel
theorem dX5_shape_20 : decode cX5_shape 20 = .ok (.iconst 5, 1) := by decide +kernel
theorem dX5_shape_21 : decode cX5_shape 21 = .ok (.invokestatic 53, 3) := by decide +kernel
theorem dX5_shape_24 : decode cX5_shape 24 = .ok (.ifCond .eq 12, 3) := by decide +kernel
theorem dX5_shape_27 : decode cX5_shape 27 = .ok (.aload_n 0, 1) := by decide +kernel
theorem dX5_shape_28 : decode cX5_shape 28 = .ok (.iload_n 1, 1) := by decide +kernel
theorem dX5_shape_29 : decode cX5_shape 29 = .ok (.iload_n 2, 1) := by decide +kernel
theorem dX5_shape_30 : decode cX5_shape 30 = .ok (.invokevirtual 204, 3) := by decide +kernel
theorem dX5_shape_33 : decode cX5_shape 33 = .ok (.goto 8, 3) := by decide +kernel
theorem dX5_shape_36 : decode cX5_shape 36 = .ok (.aload_n 0, 1) := by decide +kernel
theorem dX5_shape_37 : decode cX5_shape 37 = .ok (.iconst 2, 1) := by decide +kernel
theorem dX5_shape_38 : decode cX5_shape 38 = .ok (.invokevirtual 64, 3) := by decide +kernel
theorem dX5_shape_41 : decode cX5_shape 41 = .ok (.ireturn, 1) := by decide +kernel
set_option maxRecDepth 20000 in
theorem ggX5_ofDocument_X5_isText : GoodIn wsX5_ofDocument wsX5_isText := goodIn_r _ [8, 9, 1, 10, 2, 11, 12, 13, 14, 15, 7, 16, 17, 18, 19, 20, 21, 22, 23, 24, 25, 26, 27, 28, 29, 30, 31, 32, 33, 3, 34, 35, 36, 37, 38, 39, 40, 41, 42, 43, 44, 45, 46, 47, 48, 49, 50, 51, 52, 53, 54, 55, 56, 57, 58, 59, 60, 61, 62, 63, 64, 65, 66, 67, 68, 69, 70, 71, 72, 73, 74, 75, 76, 77, 78, 79, 80, 81, 82, 83, 84, 85, 86, 87, 88] (by decide +kernel) (by decide +kernel)
set_option maxRecDepth 20000 in
theorem gX5_ofDocument_X5_isText : GoodIn wsX5_ofDocument (wsV RX5 120 RX5 yX5_isText wsX5_isText) := goodIn_app (goodIn_of _ (by decide +kernel)) ggX5_ofDocument_X5_isText
theorem dX5_ofDocument_0 : decode cX5_ofDocument 0 = .ok (.aload_n 0, 1) := by decide +kernel
theorem dX5_ofDocument_1 : decode cX5_ofDocument 1 = .ok (.invokevirtual 120, 3) := by decide +kernel
theorem dX5_ofDocument_4 : decode cX5_ofDocument 4 = .ok (.ifCond .ne 5, 3) := by decide +kernel
theorem dX5_ofDocument_7 : decode cX5_ofDocument 7 = .ok (.iconst (-1), 1) := by decide +kernel
theorem dX5_ofDocument_8 : decode cX5_ofDocument 8 = .ok (.ireturn, 1) := by decide +kernel
theorem dX5_ofDocument_9 : decode cX5_ofDocument 9 = .ok (.iload_n 1, 1) := by decide +kernel
theorem dX5_ofDocument_10 : decode cX5_ofDocument 10 = .ok (.ifCond .eq 9, 3) := by decide +kernel
theorem dX5_ofDocument_13 : decode cX5_ofDocument 13 = .ok (.iload_n 1, 1) := by decide +kernel
theorem dX5_ofDocument_14 : decode cX5_ofDocument 14 = .ok (.bipush 8, 2) := by decide +kernel
theorem dX5_ofDocument_16 : decode cX5_ofDocument 16 = .ok (.if_icmp .ne 19, 3) := by decide +kernel
theorem dX5_ofDocument_19 : decode cX5_ofDocument 19 = .ok (.iload_n 1, 1) := by decide +kernel
theorem dX5_ofDocument_20 : decode cX5_ofDocument 20 = .ok (.ifCond .ne 10, 3) := by decide +kernel
theorem dX5_ofDocument_23 : decode cX5_ofDocument 23 = .ok (.aload_n 0, 1) := by decide +kernel
theorem dX5_ofDocument_24 : decode cX5_ofDocument 24 = .ok (.getfield 82, 3) := by decide +kernel
theorem dX5_ofDocument_27 : decode cX5_ofDocument 27 = .ok (.goto 7, 3) := by decide +kernel
theorem dX5_ofDocument_30 : decode cX5_ofDocument 30 = .ok (.aload_n 0, 1) := by decide +kernel
theorem dX5_ofDocument_31 : decode cX5_ofDocument 31 = .ok (.getfield 99, 3) := by decide +kernel
theorem dX5_ofDocument_34 : decode cX5_ofDocument 34 = .ok (.ireturn, 1) := by decide +kernel
theorem dX5_ofDocument_35 : decode cX5_ofDocument 35 = .ok (.iconst 0, 1) := by decide +kernel
theorem dX5_ofDocument_36 : decode cX5_ofDocument 36 = .ok (.istore_n 2, 1) := by decide +kernel
theorem dX5_ofDocument_37 : decode cX5_ofDocument 37 = .ok (.iconst 0, 1) := by decide +kernel
theorem dX5_ofDocument_38 : decode cX5_ofDocument 38 = .ok (.istore_n 3, 1) := by decide +kernel
theorem dX5_ofDocument_39 : decode cX5_ofDocument 39 = .ok (.iload_n 3, 1) := by decide +kernel
theorem dX5_ofDocument_40 : decode cX5_ofDocument 40 = .ok (.aload_n 0, 1) := by decide +kernel
theorem dX5_ofDocument_41 : decode cX5_ofDocument 41 = .ok (.getfield 82, 3) := by decide +kernel
theorem dX5_ofDocument_44 : decode cX5_ofDocument 44 = .ok (.if_icmp .ge 29, 3) := by decide +kernel
theorem dX5_ofDocument_47 : decode cX5_ofDocument 47 = .ok (.iload_n 2, 1) := by decide +kernel
theorem dX5_ofDocument_48 : decode cX5_ofDocument 48 = .ok (.aload_n 0, 1) := by decide +kernel
theorem dX5_ofDocument_49 : decode cX5_ofDocument 49 = .ok (.getfield 19, 3) := by decide +kernel
theorem dX5_ofDocument_52 : decode cX5_ofDocument 52 = .ok (.iload_n 3, 1) := by decide +kernel
theorem dX5_ofDocument_53 : decode cX5_ofDocument 53 = .ok (.iaload, 1) := by decide +kernel
theorem dX5_ofDocument_54 : decode cX5_ofDocument 54 = .ok (.iload_n 1, 1) := by decide +kernel
theorem dX5_ofDocument_55 : decode cX5_ofDocument 55 = .ok (.iconst 1, 1) := by decide +kernel
theorem dX5_ofDocument_56 : decode cX5_ofDocument 56 = .ok (.isub, 1) := by decide +kernel
theorem dX5_ofDocument_57 : decode cX5_ofDocument 57 = .ok (.if_icmp .ne 7, 3) := by decide +kernel
theorem dX5_ofDocument_60 : decode cX5_ofDocument 60 = .ok (.iconst 1, 1) := by decide +kernel
theorem dX5_ofDocument_61 : decode cX5_ofDocument 61 = .ok (.goto 4, 3) := by decide +kernel
theorem dX5_ofDocument_64 : decode cX5_ofDocument 64 = .ok (.iconst 0, 1) := by decide +kernel
theorem dX5_ofDocument_65 : decode cX5_ofDocument 65 = .ok (.iadd, 1) := by decide +kernel
theorem dX5_ofDocument_66 : decode cX5_ofDocument 66 = .ok (.istore_n 2, 1) := by decide +kernel
theorem dX5_ofDocument_67 : decode cX5_ofDocument 67 = .ok (.iinc 3 1, 3) := by decide +kernel
theorem dX5_ofDocument_70 : decode cX5_ofDocument 70 = .ok (.goto (-31), 3) := by decide +kernel
theorem dX5_ofDocument_73 : decode cX5_ofDocument 73 = .ok (.iload_n 2, 1) := by decide +kernel
theorem dX5_ofDocument_74 : decode cX5_ofDocument 74 = .ok (.ireturn, 1) := by decide +kernel
set_option maxRecDepth 20000 in
theorem ggX5_document_X5_in : GoodIn wsX5_document wsX5_in := goodIn_r _ [5] (by decide +kernel) (by decide +kernel)
set_option maxRecDepth 20000 in
theorem gX5_document_X5_in : GoodIn wsX5_document (va_wsS RX5 53 yX5_in wsX5_in) := goodIn_app (goodIn_of _ (by decide +kernel)) ggX5_document_X5_in
set_option maxRecDepth 20000 in
theorem ggX5_document_X5_ofDocument : GoodIn wsX5_document wsX5_ofDocument := goodIn_r _ [9, 10, 11, 12, 13, 14, 15, 4, 16, 17, 18, 19, 20, 21, 22, 23, 24, 25, 2, 3, 5, 26, 27, 28, 29, 30, 31, 32, 33, 34, 35, 36, 37, 38, 39, 40, 41, 42, 43, 44, 45, 46, 47, 48, 49, 50, 51, 52, 53, 54, 55, 56, 57, 58, 59, 60, 61, 62, 63, 64, 65, 66, 67, 72, 73, 74, 75, 76, 77, 78, 79, 80, 81, 82, 83, 84, 85, 86, 87, 88, 89, 90, 91, 92, 93, 94, 95, 96, 97] (by decide +kernel) (by decide +kernel)
set_option maxRecDepth 20000 in
theorem gX5_document_X5_ofDocument : GoodIn wsX5_document (wsV RX5 207 RX5 yX5_ofDocument wsX5_ofDocument) := goodIn_app (goodIn_of _ (by decide +kernel)) ggX5_document_X5_ofDocument
set_option maxRecDepth 20000 in
theorem ggX5_document_X5_fails : GoodIn wsX5_document wsX5_fails := goodIn_r _ [71, 1, 72, 73, 74, 75, 76, 77, 78, 79, 80, 81, 82, 83, 84, 85, 86, 87, 88, 89, 90, 91, 92, 93, 94, 95, 96, 97] (by decide +kernel) (by decide +kernel)
set_option maxRecDepth 20000 in
theorem gX5_document_X5_fails : GoodIn wsX5_document (wsV RX5 64 RX5 yX5_fails wsX5_fails) := goodIn_app (goodIn_of _ (by decide +kernel)) ggX5_document_X5_fails
theorem dX5_document_0 : decode cX5_document 0 = .ok (.aload_n 0, 1) := by decide +kernel
theorem dX5_document_1 : decode cX5_document 1 = .ok (.iconst 0, 1) := by decide +kernel
theorem dX5_document_2 : decode cX5_document 2 = .ok (.putfield 49, 3) := by decide +kernel
theorem dX5_document_5 : decode cX5_document 5 = .ok (.iload_n 1, 1) := by decide +kernel
theorem dX5_document_6 : decode cX5_document 6 = .ok (.iconst 0, 1) := by decide +kernel
theorem dX5_document_7 : decode cX5_document 7 = .ok (.bipush 8, 2) := by decide +kernel
theorem dX5_document_9 : decode cX5_document 9 = .ok (.invokestatic 53, 3) := by decide +kernel
theorem dX5_document_12 : decode cX5_document 12 = .ok (.ifCond .eq 11, 3) := by decide +kernel
theorem dX5_document_15 : decode cX5_document 15 = .ok (.aload_n 0, 1) := by decide +kernel
theorem dX5_document_16 : decode cX5_document 16 = .ok (.iload_n 1, 1) := by decide +kernel
theorem dX5_document_17 : decode cX5_document 17 = .ok (.invokevirtual 207, 3) := by decide +kernel
theorem dX5_document_20 : decode cX5_document 20 = .ok (.goto 8, 3) := by decide +kernel
theorem dX5_document_23 : decode cX5_document 23 = .ok (.aload_n 0, 1) := by decide +kernel
theorem dX5_document_24 : decode cX5_document 24 = .ok (.iconst 1, 1) := by decide +kernel
theorem dX5_document_25 : decode cX5_document 25 = .ok (.invokevirtual 64, 3) := by decide +kernel
theorem dX5_document_28 : decode cX5_document 28 = .ok (.ireturn, 1) := by decide +kernel
set_option maxRecDepth 20000 in
theorem ggX5_count_X5_in : GoodIn wsX5_count wsX5_in := goodIn_r _ [8] (by decide +kernel) (by decide +kernel)
set_option maxRecDepth 20000 in
theorem gX5_count_X5_in : GoodIn wsX5_count (va_wsS RX5 53 yX5_in wsX5_in) := goodIn_app (goodIn_of _ (by decide +kernel)) ggX5_count_X5_in
set_option maxRecDepth 20000 in
theorem ggX5_count_X5_fails : GoodIn wsX5_count wsX5_fails := goodIn_r _ [12, 1, 13, 14, 15, 16, 17, 18, 19, 20, 21, 22, 23, 24, 25, 26, 27, 28, 29, 30, 31, 32, 33, 34, 35, 36, 37, 38] (by decide +kernel) (by decide +kernel)
set_option maxRecDepth 20000 in
theorem gX5_count_X5_fails : GoodIn wsX5_count (wsV RX5 64 RX5 yX5_fails wsX5_fails) := goodIn_app (goodIn_of _ (by decide +kernel)) ggX5_count_X5_fails
theorem dX5_count_0 : decode cX5_count 0 = .ok (.aload_n 0, 1) := by decide +kernel
theorem dX5_count_1 : decode cX5_count 1 = .ok (.iconst 0, 1) := by decide +kernel
theorem dX5_count_2 : decode cX5_count 2 = .ok (.putfield 49, 3) := by decide +kernel
theorem dX5_count_5 : decode cX5_count 5 = .ok (.iload_n 1, 1) := by decide +kernel
theorem dX5_count_6 : decode cX5_count 6 = .ok (.iconst 0, 1) := by decide +kernel
theorem dX5_count_7 : decode cX5_count 7 = .ok (.iconst 2, 1) := by decide +kernel
theorem dX5_count_8 : decode cX5_count 8 = .ok (.invokestatic 53, 3) := by decide +kernel
theorem dX5_count_11 : decode cX5_count 11 = .ok (.ifCond .eq 35, 3) := by decide +kernel
theorem dX5_count_14 : decode cX5_count 14 = .ok (.iload_n 1, 1) := by decide +kernel
theorem dX5_count_15 : decode cX5_count 15 = .ok (.ifCond .ne 12, 3) := by decide +kernel
theorem dX5_count_18 : decode cX5_count 18 = .ok (.aload_n 0, 1) := by decide +kernel
theorem dX5_count_19 : decode cX5_count 19 = .ok (.getfield 7, 3) := by decide +kernel
theorem dX5_count_22 : decode cX5_count 22 = .ok (.iconst 0, 1) := by decide +kernel
theorem dX5_count_23 : decode cX5_count 23 = .ok (.iaload, 1) := by decide +kernel
theorem dX5_count_24 : decode cX5_count 24 = .ok (.goto 27, 3) := by decide +kernel
theorem dX5_count_27 : decode cX5_count 27 = .ok (.iload_n 1, 1) := by decide +kernel
theorem dX5_count_28 : decode cX5_count 28 = .ok (.iconst 1, 1) := by decide +kernel
theorem dX5_count_29 : decode cX5_count 29 = .ok (.if_icmp .ne 10, 3) := by decide +kernel
theorem dX5_count_32 : decode cX5_count 32 = .ok (.aload_n 0, 1) := by decide +kernel
theorem dX5_count_33 : decode cX5_count 33 = .ok (.getfield 71, 3) := by decide +kernel
theorem dX5_count_36 : decode cX5_count 36 = .ok (.goto 15, 3) := by decide +kernel
theorem dX5_count_39 : decode cX5_count 39 = .ok (.aload_n 0, 1) := by decide +kernel
theorem dX5_count_40 : decode cX5_count 40 = .ok (.getfield 61, 3) := by decide +kernel
theorem dX5_count_43 : decode cX5_count 43 = .ok (.goto 8, 3) := by decide +kernel
theorem dX5_count_46 : decode cX5_count 46 = .ok (.aload_n 0, 1) := by decide +kernel
theorem dX5_count_47 : decode cX5_count 47 = .ok (.iconst 1, 1) := by decide +kernel
theorem dX5_count_48 : decode cX5_count 48 = .ok (.invokevirtual 64, 3) := by decide +kernel
theorem dX5_count_51 : decode cX5_count 51 = .ok (.ireturn, 1) := by decide +kernel
theorem dX5_misfits_0 : decode cX5_misfits 0 = .ok (.aload_n 0, 1) := by decide +kernel
theorem dX5_misfits_1 : decode cX5_misfits 1 = .ok (.getfield 210, 3) := by decide +kernel
theorem dX5_misfits_4 : decode cX5_misfits 4 = .ok (.ifCond .eq 11, 3) := by decide +kernel
theorem dX5_misfits_7 : decode cX5_misfits 7 = .ok (.iload_n 2, 1) := by decide +kernel
theorem dX5_misfits_8 : decode cX5_misfits 8 = .ok (.aload_n 0, 1) := by decide +kernel
theorem dX5_misfits_9 : decode cX5_misfits 9 = .ok (.getfield 213, 3) := by decide +kernel
theorem dX5_misfits_12 : decode cX5_misfits 12 = .ok (.if_icmp .ge 18, 3) := by decide +kernel
theorem dX5_misfits_15 : decode cX5_misfits 15 = .ok (.aload_n 0, 1) := by decide +kernel
theorem dX5_misfits_16 : decode cX5_misfits 16 = .ok (.iload_n 1, 1) := by decide +kernel
theorem dX5_misfits_17 : decode cX5_misfits 17 = .ok (.putfield 210, 3) := by decide +kernel
theorem dX5_misfits_20 : decode cX5_misfits 20 = .ok (.aload_n 0, 1) := by decide +kernel
theorem dX5_misfits_21 : decode cX5_misfits 21 = .ok (.iload_n 2, 1) := by decide +kernel
theorem dX5_misfits_22 : decode cX5_misfits 22 = .ok (.putfield 213, 3) := by decide +kernel
theorem dX5_misfits_25 : decode cX5_misfits 25 = .ok (.aload_n 0, 1) := by decide +kernel
theorem dX5_misfits_26 : decode cX5_misfits 26 = .ok (.iload_n 3, 1) := by decide +kernel
theorem dX5_misfits_27 : decode cX5_misfits 27 = .ok (.putfield 216, 3) := by decide +kernel
theorem dX5_misfits_30 : decode cX5_misfits 30 = .ok (.return_, 1) := by decide +kernel
set_option maxRecDepth 20000 in
theorem ggX5_holds_X5_childOf : GoodIn wsX5_holds wsX5_childOf := goodIn_r _ [10, 11, 12, 13, 14, 9, 15, 29, 30, 31, 32, 33, 34, 35, 36, 37, 38, 39, 40, 41, 42, 43, 44, 45, 46, 47, 48, 49, 50, 51, 52, 53, 54] (by decide +kernel) (by decide +kernel)
set_option maxRecDepth 20000 in
theorem gX5_holds_X5_childOf : GoodIn wsX5_holds (wsV RX5 201 RX5 yX5_childOf wsX5_childOf) := goodIn_app (goodIn_of _ (by decide +kernel)) ggX5_holds_X5_childOf
set_option maxRecDepth 20000 in
theorem ggX5_holds_X5_misfits : GoodIn wsX5_holds wsX5_misfits := goodIn_r _ [19, 20, 21, 22, 29, 30, 31, 32, 33, 34, 35, 36, 37, 38, 39, 40, 41, 42, 43, 44, 45, 46, 47, 48, 49, 50, 51, 52, 53, 54] (by decide +kernel) (by decide +kernel)
set_option maxRecDepth 20000 in
theorem gX5_holds_X5_misfits : GoodIn wsX5_holds (wsV RX5 219 RX5 yX5_misfits wsX5_misfits) := goodIn_app (goodIn_of _ (by decide +kernel)) ggX5_holds_X5_misfits
set_option maxRecDepth 20000 in
theorem ggX5_holds_X5_of : GoodIn wsX5_holds wsX5_of := goodIn_r _ [15, 11, 29, 30, 31, 32, 33, 34, 35, 36, 37, 38, 39, 40, 41, 42, 43, 44, 45, 46, 47, 48, 49, 50, 51, 52, 53, 54] (by decide +kernel) (by decide +kernel)
set_option maxRecDepth 20000 in
theorem gX5_holds_X5_of : GoodIn wsX5_holds (wsV RX5 175 RX5 yX5_of wsX5_of) := goodIn_app (goodIn_of _ (by decide +kernel)) ggX5_holds_X5_of
set_option maxRecDepth 20000 in
theorem ggX5_holds_X5_joined : GoodIn wsX5_holds wsX5_joined := goodIn_r _ [25, 26, 27, 9, 28] (by decide +kernel) (by decide +kernel)
set_option maxRecDepth 20000 in
theorem gX5_holds_X5_joined : GoodIn wsX5_holds (va_wsS RX5 147 yX5_joined wsX5_joined) := goodIn_app (goodIn_of _ (by decide +kernel)) ggX5_holds_X5_joined
theorem dX5_holds_0 : decode cX5_holds 0 = .ok (.iload_n 2, 1) := by decide +kernel
theorem dX5_holds_1 : decode cX5_holds 1 = .ok (.ifCond .ne 7, 3) := by decide +kernel
theorem dX5_holds_4 : decode cX5_holds 4 = .ok (.iconst (-1), 1) := by decide +kernel
theorem dX5_holds_5 : decode cX5_holds 5 = .ok (.goto 14, 3) := by decide +kernel
theorem dX5_holds_8 : decode cX5_holds 8 = .ok (.aload_n 0, 1) := by decide +kernel
theorem dX5_holds_9 : decode cX5_holds 9 = .ok (.getfield 43, 3) := by decide +kernel
theorem dX5_holds_12 : decode cX5_holds 12 = .ok (.aload_n 0, 1) := by decide +kernel
theorem dX5_holds_13 : decode cX5_holds 13 = .ok (.getfield 22, 3) := by decide +kernel
theorem dX5_holds_16 : decode cX5_holds 16 = .ok (.iload_n 2, 1) := by decide +kernel
theorem dX5_holds_17 : decode cX5_holds 17 = .ok (.iaload, 1) := by decide +kernel
theorem dX5_holds_18 : decode cX5_holds 18 = .ok (.iaload, 1) := by decide +kernel
theorem dX5_holds_19 : decode cX5_holds 19 = .ok (.istore_n 3, 1) := by decide +kernel
theorem dX5_holds_20 : decode cX5_holds 20 = .ok (.iload_n 2, 1) := by decide +kernel
theorem dX5_holds_21 : decode cX5_holds 21 = .ok (.ifCond .le 10, 3) := by decide +kernel
theorem dX5_holds_24 : decode cX5_holds 24 = .ok (.iload_n 3, 1) := by decide +kernel
theorem dX5_holds_25 : decode cX5_holds 25 = .ok (.iconst (-1), 1) := by decide +kernel
theorem dX5_holds_26 : decode cX5_holds 26 = .ok (.if_icmp .ne 5, 3) := by decide +kernel
theorem dX5_holds_29 : decode cX5_holds 29 = .ok (.iconst (-1), 1) := by decide +kernel
theorem dX5_holds_30 : decode cX5_holds 30 = .ok (.ireturn, 1) := by decide +kernel
theorem dX5_holds_31 : decode cX5_holds 31 = .ok (.iload_n 2, 1) := by decide +kernel
theorem dX5_holds_32 : decode cX5_holds 32 = .ok (.ifCond .ne 7, 3) := by decide +kernel
theorem dX5_holds_35 : decode cX5_holds 35 = .ok (.iconst 0, 1) := by decide +kernel
theorem dX5_holds_36 : decode cX5_holds 36 = .ok (.goto 15, 3) := by decide +kernel
theorem dX5_holds_39 : decode cX5_holds 39 = .ok (.aload_n 0, 1) := by decide +kernel
theorem dX5_holds_40 : decode cX5_holds 40 = .ok (.iload_n 1, 1) := by decide +kernel
theorem dX5_holds_41 : decode cX5_holds 41 = .ok (.iload_n 3, 1) := by decide +kernel
theorem dX5_holds_42 : decode cX5_holds 42 = .ok (.aload_n 0, 1) := by decide +kernel
theorem dX5_holds_43 : decode cX5_holds 43 = .ok (.getfield 25, 3) := by decide +kernel
theorem dX5_holds_46 : decode cX5_holds 46 = .ok (.iload_n 2, 1) := by decide +kernel
theorem dX5_holds_47 : decode cX5_holds 47 = .ok (.iaload, 1) := by decide +kernel
theorem dX5_holds_48 : decode cX5_holds 48 = .ok (.invokevirtual 201, 3) := by decide +kernel
theorem dX5_holds_51 : decode cX5_holds 51 = .ok (.istore 4, 2) := by decide +kernel
theorem dX5_holds_53 : decode cX5_holds 53 = .ok (.iload 4, 2) := by decide +kernel
theorem dX5_holds_55 : decode cX5_holds 55 = .ok (.iconst (-1), 1) := by decide +kernel
theorem dX5_holds_56 : decode cX5_holds 56 = .ok (.if_icmp .ne 39, 3) := by decide +kernel
theorem dX5_holds_59 : decode cX5_holds 59 = .ok (.aload_n 0, 1) := by decide +kernel
theorem dX5_holds_60 : decode cX5_holds 60 = .ok (.iconst 2, 1) := by decide +kernel
theorem dX5_holds_61 : decode cX5_holds 61 = .ok (.aload_n 0, 1) := by decide +kernel
theorem dX5_holds_62 : decode cX5_holds 62 = .ok (.getfield 25, 3) := by decide +kernel
theorem dX5_holds_65 : decode cX5_holds 65 = .ok (.iload_n 2, 1) := by decide +kernel
theorem dX5_holds_66 : decode cX5_holds 66 = .ok (.iaload, 1) := by decide +kernel
theorem dX5_holds_67 : decode cX5_holds 67 = .ok (.bipush 8, 2) := by decide +kernel
theorem dX5_holds_69 : decode cX5_holds 69 = .ok (.if_icmp .ne 12, 3) := by decide +kernel
theorem dX5_holds_72 : decode cX5_holds 72 = .ok (.aload_n 0, 1) := by decide +kernel
theorem dX5_holds_73 : decode cX5_holds 73 = .ok (.getfield 28, 3) := by decide +kernel
theorem dX5_holds_76 : decode cX5_holds 76 = .ok (.iload_n 2, 1) := by decide +kernel
theorem dX5_holds_77 : decode cX5_holds 77 = .ok (.iaload, 1) := by decide +kernel
theorem dX5_holds_78 : decode cX5_holds 78 = .ok (.goto 11, 3) := by decide +kernel
theorem dX5_holds_81 : decode cX5_holds 81 = .ok (.aload_n 0, 1) := by decide +kernel
theorem dX5_holds_82 : decode cX5_holds 82 = .ok (.getfield 28, 3) := by decide +kernel
theorem dX5_holds_85 : decode cX5_holds 85 = .ok (.iload_n 2, 1) := by decide +kernel
theorem dX5_holds_86 : decode cX5_holds 86 = .ok (.iaload, 1) := by decide +kernel
theorem dX5_holds_87 : decode cX5_holds 87 = .ok (.iconst 1, 1) := by decide +kernel
theorem dX5_holds_88 : decode cX5_holds 88 = .ok (.isub, 1) := by decide +kernel
theorem dX5_holds_89 : decode cX5_holds 89 = .ok (.iload_n 3, 1) := by decide +kernel
theorem dX5_holds_90 : decode cX5_holds 90 = .ok (.invokevirtual 219, 3) := by decide +kernel
theorem dX5_holds_93 : decode cX5_holds 93 = .ok (.iconst (-1), 1) := by decide +kernel
theorem dX5_holds_94 : decode cX5_holds 94 = .ok (.ireturn, 1) := by decide +kernel
theorem dX5_holds_95 : decode cX5_holds 95 = .ok (.aload_n 0, 1) := by decide +kernel
theorem dX5_holds_96 : decode cX5_holds 96 = .ok (.getfield 19, 3) := by decide +kernel
theorem dX5_holds_99 : decode cX5_holds 99 = .ok (.iload_n 2, 1) := by decide +kernel
theorem dX5_holds_100 : decode cX5_holds 100 = .ok (.iaload, 1) := by decide +kernel
theorem dX5_holds_101 : decode cX5_holds 101 = .ok (.ifCond .ne 23, 3) := by decide +kernel
theorem dX5_holds_104 : decode cX5_holds 104 = .ok (.aload_n 0, 1) := by decide +kernel
theorem dX5_holds_105 : decode cX5_holds 105 = .ok (.iload_n 1, 1) := by decide +kernel
theorem dX5_holds_106 : decode cX5_holds 106 = .ok (.iload 4, 2) := by decide +kernel
theorem dX5_holds_108 : decode cX5_holds 108 = .ok (.iconst 4, 1) := by decide +kernel
theorem dX5_holds_109 : decode cX5_holds 109 = .ok (.invokevirtual 175, 3) := by decide +kernel
theorem dX5_holds_112 : decode cX5_holds 112 = .ok (.iconst 1, 1) := by decide +kernel
theorem dX5_holds_113 : decode cX5_holds 113 = .ok (.if_icmp .ne 7, 3) := by decide +kernel
theorem dX5_holds_116 : decode cX5_holds 116 = .ok (.iconst 1, 1) := by decide +kernel
theorem dX5_holds_117 : decode cX5_holds 117 = .ok (.goto 40, 3) := by decide +kernel
theorem dX5_holds_120 : decode cX5_holds 120 = .ok (.iconst 0, 1) := by decide +kernel
theorem dX5_holds_121 : decode cX5_holds 121 = .ok (.goto 36, 3) := by decide +kernel
theorem dX5_holds_124 : decode cX5_holds 124 = .ok (.aload_n 0, 1) := by decide +kernel
theorem dX5_holds_125 : decode cX5_holds 125 = .ok (.iload_n 1, 1) := by decide +kernel
theorem dX5_holds_126 : decode cX5_holds 126 = .ok (.iload 4, 2) := by decide +kernel
theorem dX5_holds_128 : decode cX5_holds 128 = .ok (.iconst 0, 1) := by decide +kernel
theorem dX5_holds_129 : decode cX5_holds 129 = .ok (.invokevirtual 175, 3) := by decide +kernel
theorem dX5_holds_132 : decode cX5_holds 132 = .ok (.aload_n 0, 1) := by decide +kernel
theorem dX5_holds_133 : decode cX5_holds 133 = .ok (.getfield 19, 3) := by decide +kernel
theorem dX5_holds_136 : decode cX5_holds 136 = .ok (.iload_n 2, 1) := by decide +kernel
theorem dX5_holds_137 : decode cX5_holds 137 = .ok (.iaload, 1) := by decide +kernel
theorem dX5_holds_138 : decode cX5_holds 138 = .ok (.invokestatic 147, 3) := by decide +kernel
theorem dX5_holds_141 : decode cX5_holds 141 = .ok (.aload_n 0, 1) := by decide +kernel
theorem dX5_holds_142 : decode cX5_holds 142 = .ok (.iload_n 1, 1) := by decide +kernel
theorem dX5_holds_143 : decode cX5_holds 143 = .ok (.iload 4, 2) := by decide +kernel
theorem dX5_holds_145 : decode cX5_holds 145 = .ok (.iconst 0, 1) := by decide +kernel
theorem dX5_holds_146 : decode cX5_holds 146 = .ok (.invokevirtual 175, 3) := by decide +kernel
theorem dX5_holds_149 : decode cX5_holds 149 = .ok (.if_icmp .ne 7, 3) := by decide +kernel
theorem dX5_holds_152 : decode cX5_holds 152 = .ok (.iconst 1, 1) := by decide +kernel
theorem dX5_holds_153 : decode cX5_holds 153 = .ok (.goto 4, 3) := by decide +kernel
theorem dX5_holds_156 : decode cX5_holds 156 = .ok (.iconst 0, 1) := by decide +kernel
theorem dX5_holds_157 : decode cX5_holds 157 = .ok (.istore 5, 2) := by decide +kernel
theorem dX5_holds_159 : decode cX5_holds 159 = .ok (.iload 5, 2) := by decide +kernel
theorem dX5_holds_161 : decode cX5_holds 161 = .ok (.ifCond .ne 16, 3) := by decide +kernel
theorem dX5_holds_164 : decode cX5_holds 164 = .ok (.aload_n 0, 1) := by decide +kernel
theorem dX5_holds_165 : decode cX5_holds 165 = .ok (.iconst 1, 1) := by decide +kernel
theorem dX5_holds_166 : decode cX5_holds 166 = .ok (.aload_n 0, 1) := by decide +kernel
theorem dX5_holds_167 : decode cX5_holds 167 = .ok (.getfield 28, 3) := by decide +kernel
theorem dX5_holds_170 : decode cX5_holds 170 = .ok (.iload_n 2, 1) := by decide +kernel
theorem dX5_holds_171 : decode cX5_holds 171 = .ok (.iaload, 1) := by decide +kernel
theorem dX5_holds_172 : decode cX5_holds 172 = .ok (.iload 4, 2) := by decide +kernel
theorem dX5_holds_174 : decode cX5_holds 174 = .ok (.invokevirtual 219, 3) := by decide +kernel
theorem dX5_holds_177 : decode cX5_holds 177 = .ok (.iload 5, 2) := by decide +kernel
theorem dX5_holds_179 : decode cX5_holds 179 = .ok (.ifCond .eq 21, 3) := by decide +kernel
theorem dX5_holds_182 : decode cX5_holds 182 = .ok (.aload_n 0, 1) := by decide +kernel
theorem dX5_holds_183 : decode cX5_holds 183 = .ok (.iload_n 1, 1) := by decide +kernel
theorem dX5_holds_184 : decode cX5_holds 184 = .ok (.iload 4, 2) := by decide +kernel
theorem dX5_holds_186 : decode cX5_holds 186 = .ok (.iconst 0, 1) := by decide +kernel
theorem dX5_holds_187 : decode cX5_holds 187 = .ok (.invokevirtual 175, 3) := by decide +kernel
theorem dX5_holds_190 : decode cX5_holds 190 = .ok (.bipush 7, 2) := by decide +kernel
theorem dX5_holds_192 : decode cX5_holds 192 = .ok (.if_icmp .eq 8, 3) := by decide +kernel
theorem dX5_holds_195 : decode cX5_holds 195 = .ok (.iload 4, 2) := by decide +kernel
theorem dX5_holds_197 : decode cX5_holds 197 = .ok (.goto 4, 3) := by decide +kernel
theorem dX5_holds_200 : decode cX5_holds 200 = .ok (.iconst (-1), 1) := by decide +kernel
theorem dX5_holds_201 : decode cX5_holds 201 = .ok (.ireturn, 1) := by decide +kernel
set_option maxRecDepth 20000 in
theorem ggX5_finds_X5_misfits : GoodIn wsX5_finds wsX5_misfits := goodIn_r _ [14, 1, 2, 3, 40, 41, 42, 43, 44, 45, 46, 47, 48, 49, 50, 51, 52, 53, 54, 55, 56, 57, 58, 59, 60, 61, 62, 63, 64, 65] (by decide +kernel) (by decide +kernel)
set_option maxRecDepth 20000 in
theorem gX5_finds_X5_misfits : GoodIn wsX5_finds (wsV RX5 219 RX5 yX5_misfits wsX5_misfits) := goodIn_app (goodIn_of _ (by decide +kernel)) ggX5_finds_X5_misfits
set_option maxRecDepth 20000 in
theorem ggX5_finds_X5_holds : GoodIn wsX5_finds wsX5_holds := goodIn_r _ [18, 6, 19, 20, 21, 7, 22, 23, 24, 13, 25, 4, 26, 27, 28, 29, 10, 11, 12, 14, 1, 2, 3, 30, 31, 32, 33, 34, 35, 40, 41, 42, 43, 44, 45, 46, 47, 48, 49, 50, 51, 52, 53, 54, 55, 56, 57, 58, 59, 60, 61, 62, 63, 64, 65] (by decide +kernel) (by decide +kernel)
set_option maxRecDepth 20000 in
theorem gX5_finds_X5_holds : GoodIn wsX5_finds (wsV RX5 222 RX5 yX5_holds wsX5_holds) := goodIn_app (goodIn_of _ (by decide +kernel)) ggX5_finds_X5_holds
set_option maxRecDepth 20000 in
theorem ggX5_finds_X5_childOf : GoodIn wsX5_finds wsX5_childOf := goodIn_r _ [25, 4, 26, 27, 28, 13, 29, 40, 41, 42, 43, 44, 45, 46, 47, 48, 49, 50, 51, 52, 53, 54, 55, 56, 57, 58, 59, 60, 61, 62, 63, 64, 65] (by decide +kernel) (by decide +kernel)
set_option maxRecDepth 20000 in
theorem gX5_finds_X5_childOf : GoodIn wsX5_finds (wsV RX5 201 RX5 yX5_childOf wsX5_childOf) := goodIn_app (goodIn_of _ (by decide +kernel)) ggX5_finds_X5_childOf
set_option maxRecDepth 20000 in
theorem ggX5_finds_X5_canMiss : GoodIn wsX5_finds wsX5_canMiss := goodIn_r _ [39, 26, 27, 28, 13, 29, 4, 33, 34, 35, 40, 41, 42, 43, 44, 45, 46, 47, 48, 49, 50, 51, 52, 53, 54, 55, 56, 57, 58, 59, 60, 61, 62, 63, 64, 65] (by decide +kernel) (by decide +kernel)
set_option maxRecDepth 20000 in
theorem gX5_finds_X5_canMiss : GoodIn wsX5_finds (wsV RX5 189 RX5 yX5_canMiss wsX5_canMiss) := goodIn_app (goodIn_of _ (by decide +kernel)) ggX5_finds_X5_canMiss
theorem dX5_finds_0 : decode cX5_finds 0 = .ok (.aload_n 0, 1) := by decide +kernel
theorem dX5_finds_1 : decode cX5_finds 1 = .ok (.iconst 0, 1) := by decide +kernel
theorem dX5_finds_2 : decode cX5_finds 2 = .ok (.putfield 210, 3) := by decide +kernel
theorem dX5_finds_5 : decode cX5_finds 5 = .ok (.aload_n 0, 1) := by decide +kernel
theorem dX5_finds_6 : decode cX5_finds 6 = .ok (.iconst (-1), 1) := by decide +kernel
theorem dX5_finds_7 : decode cX5_finds 7 = .ok (.putfield 213, 3) := by decide +kernel
theorem dX5_finds_10 : decode cX5_finds 10 = .ok (.aload_n 0, 1) := by decide +kernel
theorem dX5_finds_11 : decode cX5_finds 11 = .ok (.iconst (-1), 1) := by decide +kernel
theorem dX5_finds_12 : decode cX5_finds 12 = .ok (.putfield 216, 3) := by decide +kernel
theorem dX5_finds_15 : decode cX5_finds 15 = .ok (.aload_n 0, 1) := by decide +kernel
theorem dX5_finds_16 : decode cX5_finds 16 = .ok (.getfield 7, 3) := by decide +kernel
theorem dX5_finds_19 : decode cX5_finds 19 = .ok (.iconst 3, 1) := by decide +kernel
theorem dX5_finds_20 : decode cX5_finds 20 = .ok (.iload_n 1, 1) := by decide +kernel
theorem dX5_finds_21 : decode cX5_finds 21 = .ok (.iadd, 1) := by decide +kernel
theorem dX5_finds_22 : decode cX5_finds 22 = .ok (.iaload, 1) := by decide +kernel
theorem dX5_finds_23 : decode cX5_finds 23 = .ok (.ifCond .ne 11, 3) := by decide +kernel
theorem dX5_finds_26 : decode cX5_finds 26 = .ok (.aload_n 0, 1) := by decide +kernel
theorem dX5_finds_27 : decode cX5_finds 27 = .ok (.iconst 1, 1) := by decide +kernel
theorem dX5_finds_28 : decode cX5_finds 28 = .ok (.iconst 0, 1) := by decide +kernel
theorem dX5_finds_29 : decode cX5_finds 29 = .ok (.iconst (-1), 1) := by decide +kernel
theorem dX5_finds_30 : decode cX5_finds 30 = .ok (.invokevirtual 219, 3) := by decide +kernel
theorem dX5_finds_33 : decode cX5_finds 33 = .ok (.return_, 1) := by decide +kernel
theorem dX5_finds_34 : decode cX5_finds 34 = .ok (.iconst 0, 1) := by decide +kernel
theorem dX5_finds_35 : decode cX5_finds 35 = .ok (.istore_n 2, 1) := by decide +kernel
theorem dX5_finds_36 : decode cX5_finds 36 = .ok (.iload_n 2, 1) := by decide +kernel
theorem dX5_finds_37 : decode cX5_finds 37 = .ok (.aload_n 0, 1) := by decide +kernel
theorem dX5_finds_38 : decode cX5_finds 38 = .ok (.getfield 82, 3) := by decide +kernel
theorem dX5_finds_41 : decode cX5_finds 41 = .ok (.if_icmp .ge 116, 3) := by decide +kernel
theorem dX5_finds_44 : decode cX5_finds 44 = .ok (.aload_n 0, 1) := by decide +kernel
theorem dX5_finds_45 : decode cX5_finds 45 = .ok (.getfield 43, 3) := by decide +kernel
theorem dX5_finds_48 : decode cX5_finds 48 = .ok (.iload_n 2, 1) := by decide +kernel
theorem dX5_finds_49 : decode cX5_finds 49 = .ok (.aload_n 0, 1) := by decide +kernel
theorem dX5_finds_50 : decode cX5_finds 50 = .ok (.iload_n 1, 1) := by decide +kernel
theorem dX5_finds_51 : decode cX5_finds 51 = .ok (.iload_n 2, 1) := by decide +kernel
theorem dX5_finds_52 : decode cX5_finds 52 = .ok (.invokevirtual 222, 3) := by decide +kernel
theorem dX5_finds_55 : decode cX5_finds 55 = .ok (.iastore, 1) := by decide +kernel
theorem dX5_finds_56 : decode cX5_finds 56 = .ok (.iconst 0, 1) := by decide +kernel
theorem dX5_finds_57 : decode cX5_finds 57 = .ok (.istore_n 3, 1) := by decide +kernel
theorem dX5_finds_58 : decode cX5_finds 58 = .ok (.iload_n 3, 1) := by decide +kernel
theorem dX5_finds_59 : decode cX5_finds 59 = .ok (.bipush 8, 2) := by decide +kernel
theorem dX5_finds_61 : decode cX5_finds 61 = .ok (.if_icmp .ge 90, 3) := by decide +kernel
theorem dX5_finds_64 : decode cX5_finds 64 = .ok (.aload_n 0, 1) := by decide +kernel
theorem dX5_finds_65 : decode cX5_finds 65 = .ok (.getfield 43, 3) := by decide +kernel
theorem dX5_finds_68 : decode cX5_finds 68 = .ok (.iload_n 2, 1) := by decide +kernel
theorem dX5_finds_69 : decode cX5_finds 69 = .ok (.iaload, 1) := by decide +kernel
theorem dX5_finds_70 : decode cX5_finds 70 = .ok (.iconst (-1), 1) := by decide +kernel
theorem dX5_finds_71 : decode cX5_finds 71 = .ok (.if_icmp .eq 80, 3) := by decide +kernel
theorem dX5_finds_74 : decode cX5_finds 74 = .ok (.aload_n 0, 1) := by decide +kernel
theorem dX5_finds_75 : decode cX5_finds 75 = .ok (.getfield 19, 3) := by decide +kernel
theorem dX5_finds_78 : decode cX5_finds 78 = .ok (.iload_n 2, 1) := by decide +kernel
theorem dX5_finds_79 : decode cX5_finds 79 = .ok (.iaload, 1) := by decide +kernel
theorem dX5_finds_80 : decode cX5_finds 80 = .ok (.bipush 6, 2) := by decide +kernel
theorem dX5_finds_82 : decode cX5_finds 82 = .ok (.if_icmp .ne 69, 3) := by decide +kernel
theorem dX5_finds_85 : decode cX5_finds 85 = .ok (.aload_n 0, 1) := by decide +kernel
theorem dX5_finds_86 : decode cX5_finds 86 = .ok (.iload_n 1, 1) := by decide +kernel
theorem dX5_finds_87 : decode cX5_finds 87 = .ok (.aload_n 0, 1) := by decide +kernel
theorem dX5_finds_88 : decode cX5_finds 88 = .ok (.getfield 43, 3) := by decide +kernel
theorem dX5_finds_91 : decode cX5_finds 91 = .ok (.iload_n 2, 1) := by decide +kernel
theorem dX5_finds_92 : decode cX5_finds 92 = .ok (.iaload, 1) := by decide +kernel
theorem dX5_finds_93 : decode cX5_finds 93 = .ok (.iload_n 3, 1) := by decide +kernel
theorem dX5_finds_94 : decode cX5_finds 94 = .ok (.invokevirtual 201, 3) := by decide +kernel
theorem dX5_finds_97 : decode cX5_finds 97 = .ok (.istore 4, 2) := by decide +kernel
theorem dX5_finds_99 : decode cX5_finds 99 = .ok (.iload 4, 2) := by decide +kernel
theorem dX5_finds_101 : decode cX5_finds 101 = .ok (.iconst (-1), 1) := by decide +kernel
theorem dX5_finds_102 : decode cX5_finds 102 = .ok (.if_icmp .eq 43, 3) := by decide +kernel
theorem dX5_finds_105 : decode cX5_finds 105 = .ok (.aload_n 0, 1) := by decide +kernel
theorem dX5_finds_106 : decode cX5_finds 106 = .ok (.getfield 34, 3) := by decide +kernel
theorem dX5_finds_109 : decode cX5_finds 109 = .ok (.iload_n 2, 1) := by decide +kernel
theorem dX5_finds_110 : decode cX5_finds 110 = .ok (.iaload, 1) := by decide +kernel
theorem dX5_finds_111 : decode cX5_finds 111 = .ok (.iload_n 3, 1) := by decide +kernel
theorem dX5_finds_112 : decode cX5_finds 112 = .ok (.ishr, 1) := by decide +kernel
theorem dX5_finds_113 : decode cX5_finds 113 = .ok (.iconst 1, 1) := by decide +kernel
theorem dX5_finds_114 : decode cX5_finds 114 = .ok (.iand, 1) := by decide +kernel
theorem dX5_finds_115 : decode cX5_finds 115 = .ok (.ifCond .ne 30, 3) := by decide +kernel
theorem dX5_finds_118 : decode cX5_finds 118 = .ok (.aload_n 0, 1) := by decide +kernel
theorem dX5_finds_119 : decode cX5_finds 119 = .ok (.iload_n 1, 1) := by decide +kernel
theorem dX5_finds_120 : decode cX5_finds 120 = .ok (.iload 4, 2) := by decide +kernel
theorem dX5_finds_122 : decode cX5_finds 122 = .ok (.invokevirtual 189, 3) := by decide +kernel
theorem dX5_finds_125 : decode cX5_finds 125 = .ok (.ifCond .ne 20, 3) := by decide +kernel
theorem dX5_finds_128 : decode cX5_finds 128 = .ok (.aload_n 0, 1) := by decide +kernel
theorem dX5_finds_129 : decode cX5_finds 129 = .ok (.iconst 3, 1) := by decide +kernel
theorem dX5_finds_130 : decode cX5_finds 130 = .ok (.aload_n 0, 1) := by decide +kernel
theorem dX5_finds_131 : decode cX5_finds 131 = .ok (.getfield 31, 3) := by decide +kernel
theorem dX5_finds_134 : decode cX5_finds 134 = .ok (.iload_n 2, 1) := by decide +kernel
theorem dX5_finds_135 : decode cX5_finds 135 = .ok (.iaload, 1) := by decide +kernel
theorem dX5_finds_136 : decode cX5_finds 136 = .ok (.aload_n 0, 1) := by decide +kernel
theorem dX5_finds_137 : decode cX5_finds 137 = .ok (.getfield 43, 3) := by decide +kernel
theorem dX5_finds_140 : decode cX5_finds 140 = .ok (.iload_n 2, 1) := by decide +kernel
theorem dX5_finds_141 : decode cX5_finds 141 = .ok (.iaload, 1) := by decide +kernel
theorem dX5_finds_142 : decode cX5_finds 142 = .ok (.invokevirtual 219, 3) := by decide +kernel
theorem dX5_finds_145 : decode cX5_finds 145 = .ok (.iinc 3 1, 3) := by decide +kernel
theorem dX5_finds_148 : decode cX5_finds 148 = .ok (.goto (-90), 3) := by decide +kernel
theorem dX5_finds_151 : decode cX5_finds 151 = .ok (.iinc 2 1, 3) := by decide +kernel
theorem dX5_finds_154 : decode cX5_finds 154 = .ok (.goto (-118), 3) := by decide +kernel
theorem dX5_finds_157 : decode cX5_finds 157 = .ok (.return_, 1) := by decide +kernel
set_option maxRecDepth 20000 in
theorem ggX5_fitOf_X5_isText : GoodIn wsX5_fitOf wsX5_isText := goodIn_r _ [8, 9, 10, 11, 12, 13, 14, 15, 16, 17, 7, 18, 19, 20, 21, 22, 23, 24, 25, 26, 27, 28, 29, 30, 31, 32, 33, 34, 35, 36, 37, 38, 39, 40, 41, 42, 43, 44, 45, 46, 47, 48, 49, 50, 51, 52, 53, 54, 55, 56, 57, 58, 59, 60, 61, 62, 63, 64, 65, 95, 96, 97, 98, 99, 100, 101, 102, 103, 104, 105, 106, 107, 108, 109, 110, 111, 112, 113, 114, 115, 116, 117, 118, 119, 120] (by decide +kernel) (by decide +kernel)
set_option maxRecDepth 20000 in
theorem gX5_fitOf_X5_isText : GoodIn wsX5_fitOf (wsV RX5 120 RX5 yX5_isText wsX5_isText) := goodIn_app (goodIn_of _ (by decide +kernel)) ggX5_fitOf_X5_isText
set_option maxRecDepth 20000 in
theorem ggX5_fitOf_X5_finds : GoodIn wsX5_fitOf wsX5_finds := goodIn_r _ [69, 1, 2, 3, 70, 10, 71, 36, 40, 49, 72, 73, 74, 7, 75, 76, 77, 78, 79, 37, 38, 39, 80, 81, 82, 83, 84, 85, 86, 87, 88, 89, 90, 20, 21, 22, 91, 92, 93, 94, 95, 96, 97, 98, 99, 100, 101, 102, 103, 104, 105, 106, 107, 108, 109, 110, 111, 112, 113, 114, 115, 116, 117, 118, 119, 120] (by decide +kernel) (by decide +kernel)
set_option maxRecDepth 20000 in
theorem gX5_fitOf_X5_finds : GoodIn wsX5_fitOf (wsV RX5 225 RX5 yX5_finds wsX5_finds) := goodIn_app (goodIn_of _ (by decide +kernel)) ggX5_fitOf_X5_finds
theorem dX5_fitOf_0 : decode cX5_fitOf 0 = .ok (.aload_n 0, 1) := by decide +kernel
theorem dX5_fitOf_1 : decode cX5_fitOf 1 = .ok (.invokevirtual 120, 3) := by decide +kernel
theorem dX5_fitOf_4 : decode cX5_fitOf 4 = .ok (.ifCond .ne 5, 3) := by decide +kernel
theorem dX5_fitOf_7 : decode cX5_fitOf 7 = .ok (.iconst (-1), 1) := by decide +kernel
theorem dX5_fitOf_8 : decode cX5_fitOf 8 = .ok (.ireturn, 1) := by decide +kernel
theorem dX5_fitOf_9 : decode cX5_fitOf 9 = .ok (.aload_n 0, 1) := by decide +kernel
theorem dX5_fitOf_10 : decode cX5_fitOf 10 = .ok (.iload_n 1, 1) := by decide +kernel
theorem dX5_fitOf_11 : decode cX5_fitOf 11 = .ok (.invokevirtual 225, 3) := by decide +kernel
theorem dX5_fitOf_14 : decode cX5_fitOf 14 = .ok (.iload_n 2, 1) := by decide +kernel
theorem dX5_fitOf_15 : decode cX5_fitOf 15 = .ok (.ifCond .ne 10, 3) := by decide +kernel
theorem dX5_fitOf_18 : decode cX5_fitOf 18 = .ok (.aload_n 0, 1) := by decide +kernel
theorem dX5_fitOf_19 : decode cX5_fitOf 19 = .ok (.getfield 210, 3) := by decide +kernel
theorem dX5_fitOf_22 : decode cX5_fitOf 22 = .ok (.goto 19, 3) := by decide +kernel
theorem dX5_fitOf_25 : decode cX5_fitOf 25 = .ok (.iload_n 2, 1) := by decide +kernel
theorem dX5_fitOf_26 : decode cX5_fitOf 26 = .ok (.iconst 1, 1) := by decide +kernel
theorem dX5_fitOf_27 : decode cX5_fitOf 27 = .ok (.if_icmp .ne 10, 3) := by decide +kernel
theorem dX5_fitOf_30 : decode cX5_fitOf 30 = .ok (.aload_n 0, 1) := by decide +kernel
theorem dX5_fitOf_31 : decode cX5_fitOf 31 = .ok (.getfield 213, 3) := by decide +kernel
theorem dX5_fitOf_34 : decode cX5_fitOf 34 = .ok (.goto 7, 3) := by decide +kernel
theorem dX5_fitOf_37 : decode cX5_fitOf 37 = .ok (.aload_n 0, 1) := by decide +kernel
theorem dX5_fitOf_38 : decode cX5_fitOf 38 = .ok (.getfield 216, 3) := by decide +kernel
theorem dX5_fitOf_41 : decode cX5_fitOf 41 = .ok (.ireturn, 1) := by decide +kernel
set_option maxRecDepth 20000 in
theorem ggX5_fits_X5_isShape : GoodIn wsX5_fits wsX5_isShape := goodIn_r _ [5, 6, 7, 4, 8] (by decide +kernel) (by decide +kernel)
set_option maxRecDepth 20000 in
theorem gX5_fits_X5_isShape : GoodIn wsX5_fits (va_wsS RX5 57 yX5_isShape wsX5_isShape) := goodIn_app (goodIn_of _ (by decide +kernel)) ggX5_fits_X5_isShape
set_option maxRecDepth 20000 in
theorem ggX5_fits_X5_fails : GoodIn wsX5_fits wsX5_fails := goodIn_r _ [12, 1, 107, 108, 109, 110, 111, 112, 113, 114, 115, 116, 117, 118, 119, 120, 121, 122, 123, 124, 125, 126, 127, 128, 129, 130, 131, 132] (by decide +kernel) (by decide +kernel)
set_option maxRecDepth 20000 in
theorem gX5_fits_X5_fails : GoodIn wsX5_fits (wsV RX5 64 RX5 yX5_fails wsX5_fails) := goodIn_app (goodIn_of _ (by decide +kernel)) ggX5_fits_X5_fails
set_option maxRecDepth 20000 in
theorem ggX5_fits_X5_in : GoodIn wsX5_fits wsX5_in := goodIn_r _ [8] (by decide +kernel) (by decide +kernel)
set_option maxRecDepth 20000 in
theorem gX5_fits_X5_in : GoodIn wsX5_fits (va_wsS RX5 53 yX5_in wsX5_in) := goodIn_app (goodIn_of _ (by decide +kernel)) ggX5_fits_X5_in
set_option maxRecDepth 20000 in
theorem ggX5_fits_X5_fitOf : GoodIn wsX5_fits wsX5_fitOf := goodIn_r _ [16, 17, 18, 19, 20, 21, 22, 4, 23, 24, 25, 26, 27, 28, 29, 30, 31, 32, 33, 34, 6, 7, 8, 35, 36, 37, 38, 39, 40, 41, 42, 43, 44, 45, 46, 47, 48, 49, 50, 51, 52, 53, 54, 55, 56, 57, 58, 59, 60, 61, 62, 63, 64, 65, 66, 67, 68, 69, 70, 71, 72, 73, 74, 75, 76, 77, 78, 79, 80, 81, 82, 83, 84, 85, 86, 87, 88, 89, 90, 91, 92, 93, 94, 95, 96, 97, 98, 99, 100, 101, 102, 103, 104, 105, 106, 107, 108, 109, 110, 111, 112, 113, 114, 115, 116, 117, 118, 119, 120, 121, 122, 123, 124, 125, 126, 127, 128, 129, 130, 131, 132] (by decide +kernel) (by decide +kernel)
set_option maxRecDepth 20000 in
theorem gX5_fits_X5_fitOf : GoodIn wsX5_fits (wsV RX5 228 RX5 yX5_fitOf wsX5_fitOf) := goodIn_app (goodIn_of _ (by decide +kernel)) ggX5_fits_X5_fitOf
theorem dX5_fits_0 : decode cX5_fits 0 = .ok (.aload_n 0, 1) := by decide +kernel
theorem dX5_fits_1 : decode cX5_fits 1 = .ok (.iconst 0, 1) := by decide +kernel
theorem dX5_fits_2 : decode cX5_fits 2 = .ok (.putfield 49, 3) := by decide +kernel
theorem dX5_fits_5 : decode cX5_fits 5 = .ok (.iload_n 1, 1) := by decide +kernel
theorem dX5_fits_6 : decode cX5_fits 6 = .ok (.invokestatic 57, 3) := by decide +kernel
theorem dX5_fits_9 : decode cX5_fits 9 = .ok (.ifCond .ne 9, 3) := by decide +kernel
theorem dX5_fits_12 : decode cX5_fits 12 = .ok (.aload_n 0, 1) := by decide +kernel
theorem dX5_fits_13 : decode cX5_fits 13 = .ok (.iconst 1, 1) := by decide +kernel
theorem dX5_fits_14 : decode cX5_fits 14 = .ok (.invokevirtual 64, 3) := by decide +kernel
theorem dX5_fits_17 : decode cX5_fits 17 = .ok (.ireturn, 1) := by decide +kernel
theorem dX5_fits_18 : decode cX5_fits 18 = .ok (.iload_n 2, 1) := by decide +kernel
theorem dX5_fits_19 : decode cX5_fits 19 = .ok (.iconst 0, 1) := by decide +kernel
theorem dX5_fits_20 : decode cX5_fits 20 = .ok (.iconst 2, 1) := by decide +kernel
theorem dX5_fits_21 : decode cX5_fits 21 = .ok (.invokestatic 53, 3) := by decide +kernel
theorem dX5_fits_24 : decode cX5_fits 24 = .ok (.ifCond .eq 12, 3) := by decide +kernel
theorem dX5_fits_27 : decode cX5_fits 27 = .ok (.aload_n 0, 1) := by decide +kernel
theorem dX5_fits_28 : decode cX5_fits 28 = .ok (.iload_n 1, 1) := by decide +kernel
theorem dX5_fits_29 : decode cX5_fits 29 = .ok (.iload_n 2, 1) := by decide +kernel
theorem dX5_fits_30 : decode cX5_fits 30 = .ok (.invokevirtual 228, 3) := by decide +kernel
theorem dX5_fits_33 : decode cX5_fits 33 = .ok (.goto 8, 3) := by decide +kernel
theorem dX5_fits_36 : decode cX5_fits 36 = .ok (.aload_n 0, 1) := by decide +kernel
theorem dX5_fits_37 : decode cX5_fits 37 = .ok (.iconst 2, 1) := by decide +kernel
theorem dX5_fits_38 : decode cX5_fits 38 = .ok (.invokevirtual 64, 3) := by decide +kernel
theorem dX5_fits_41 : decode cX5_fits 41 = .ok (.ireturn, 1) := by decide +kernel
set_option maxRecDepth 20000 in
theorem ggX5_learnedOf_X5_isText : GoodIn wsX5_learnedOf wsX5_isText := goodIn_r _ [7, 8, 9, 10, 11, 12, 13, 14, 15, 16, 6, 17, 18, 19, 20, 21, 22, 23, 24, 25, 26, 27, 28, 29, 30, 31, 32, 33, 34, 35, 36, 37, 38, 39, 40, 41, 42, 43, 44, 45, 46, 47, 48, 49, 50, 51, 52, 53, 54, 55, 56, 57, 58, 59, 60, 61, 62, 63, 64, 111, 112, 113, 114, 115, 116, 117, 118, 119, 120, 121, 122, 123, 124, 125, 126, 127, 128, 129, 130, 131, 132, 133, 134, 135, 136] (by decide +kernel) (by decide +kernel)
set_option maxRecDepth 20000 in
theorem gX5_learnedOf_X5_isText : GoodIn wsX5_learnedOf (wsV RX5 120 RX5 yX5_isText wsX5_isText) := goodIn_app (goodIn_of _ (by decide +kernel)) ggX5_learnedOf_X5_isText
set_option maxRecDepth 20000 in
theorem ggX5_learnedOf_X5_shows : GoodIn wsX5_learnedOf wsX5_shows := goodIn_r _ [68, 1, 9, 69, 2, 35, 70, 71, 72, 6, 73, 74, 75, 76, 77, 78, 79, 36, 37, 80, 81, 82, 83, 84, 85, 86, 87, 88, 89, 90, 19, 20, 21, 91, 92, 93, 94, 95, 96, 97, 98, 111, 112, 113, 114, 115, 116, 117, 118, 119, 120, 121, 122, 123, 124, 125, 126, 127, 128, 129, 130, 131, 132, 133, 134, 135, 136] (by decide +kernel) (by decide +kernel)
set_option maxRecDepth 20000 in
theorem gX5_learnedOf_X5_shows : GoodIn wsX5_learnedOf (wsV RX5 163 RX5 yX5_shows wsX5_shows) := goodIn_app (goodIn_of _ (by decide +kernel)) ggX5_learnedOf_X5_shows
set_option maxRecDepth 20000 in
theorem ggX5_learnedOf_X5_nodes : GoodIn wsX5_learnedOf wsX5_nodes := goodIn_r _ [102, 74, 2, 111, 112, 113, 114, 115, 116, 117, 118, 119, 120, 121, 122, 123, 124, 125, 126, 127, 128, 129, 130, 131, 132, 133, 134, 135, 136] (by decide +kernel) (by decide +kernel)
set_option maxRecDepth 20000 in
theorem gX5_learnedOf_X5_nodes : GoodIn wsX5_learnedOf (wsV RX5 153 RX5 yX5_nodes wsX5_nodes) := goodIn_app (goodIn_of _ (by decide +kernel)) ggX5_learnedOf_X5_nodes
set_option maxRecDepth 20000 in
theorem ggX5_learnedOf_X5_isRefused : GoodIn wsX5_learnedOf wsX5_isRefused := goodIn_r _ [106, 1, 75, 99, 100, 101, 6, 102, 74, 2, 111, 112, 113, 114, 115, 116, 117, 118, 119, 120, 121, 122, 123, 124, 125, 126, 127, 128, 129, 130, 131, 132, 133, 134, 135, 136] (by decide +kernel) (by decide +kernel)
set_option maxRecDepth 20000 in
theorem gX5_learnedOf_X5_isRefused : GoodIn wsX5_learnedOf (wsV RX5 166 RX5 yX5_isRefused wsX5_isRefused) := goodIn_app (goodIn_of _ (by decide +kernel)) ggX5_learnedOf_X5_isRefused
set_option maxRecDepth 20000 in
theorem ggX5_learnedOf_X5_of : GoodIn wsX5_learnedOf wsX5_of := goodIn_r _ [110, 1, 111, 112, 113, 114, 115, 116, 117, 118, 119, 120, 121, 122, 123, 124, 125, 126, 127, 128, 129, 130, 131, 132, 133, 134, 135, 136] (by decide +kernel) (by decide +kernel)
set_option maxRecDepth 20000 in
theorem gX5_learnedOf_X5_of : GoodIn wsX5_learnedOf (wsV RX5 175 RX5 yX5_of wsX5_of) := goodIn_app (goodIn_of _ (by decide +kernel)) ggX5_learnedOf_X5_of
theorem dX5_learnedOf_0 : decode cX5_learnedOf 0 = .ok (.aload_n 0, 1) := by decide +kernel
theorem dX5_learnedOf_1 : decode cX5_learnedOf 1 = .ok (.invokevirtual 120, 3) := by decide +kernel
theorem dX5_learnedOf_4 : decode cX5_learnedOf 4 = .ok (.ifCond .ne 5, 3) := by decide +kernel
theorem dX5_learnedOf_7 : decode cX5_learnedOf 7 = .ok (.iconst (-1), 1) := by decide +kernel
theorem dX5_learnedOf_8 : decode cX5_learnedOf 8 = .ok (.ireturn, 1) := by decide +kernel
theorem dX5_learnedOf_9 : decode cX5_learnedOf 9 = .ok (.aload_n 0, 1) := by decide +kernel
theorem dX5_learnedOf_10 : decode cX5_learnedOf 10 = .ok (.iload_n 1, 1) := by decide +kernel
theorem dX5_learnedOf_11 : decode cX5_learnedOf 11 = .ok (.invokevirtual 163, 3) := by decide +kernel
theorem dX5_learnedOf_14 : decode cX5_learnedOf 14 = .ok (.iload_n 2, 1) := by decide +kernel
theorem dX5_learnedOf_15 : decode cX5_learnedOf 15 = .ok (.ifCond .eq 8, 3) := by decide +kernel
theorem dX5_learnedOf_18 : decode cX5_learnedOf 18 = .ok (.iload_n 2, 1) := by decide +kernel
theorem dX5_learnedOf_19 : decode cX5_learnedOf 19 = .ok (.iconst 4, 1) := by decide +kernel
theorem dX5_learnedOf_20 : decode cX5_learnedOf 20 = .ok (.if_icmp .ne 27, 3) := by decide +kernel
theorem dX5_learnedOf_23 : decode cX5_learnedOf 23 = .ok (.iload_n 2, 1) := by decide +kernel
theorem dX5_learnedOf_24 : decode cX5_learnedOf 24 = .ok (.ifCond .ne 10, 3) := by decide +kernel
theorem dX5_learnedOf_27 : decode cX5_learnedOf 27 = .ok (.aload_n 0, 1) := by decide +kernel
theorem dX5_learnedOf_28 : decode cX5_learnedOf 28 = .ok (.invokevirtual 153, 3) := by decide +kernel
theorem dX5_learnedOf_31 : decode cX5_learnedOf 31 = .ok (.goto 15, 3) := by decide +kernel
theorem dX5_learnedOf_34 : decode cX5_learnedOf 34 = .ok (.aload_n 0, 1) := by decide +kernel
theorem dX5_learnedOf_35 : decode cX5_learnedOf 35 = .ok (.invokevirtual 166, 3) := by decide +kernel
theorem dX5_learnedOf_38 : decode cX5_learnedOf 38 = .ok (.ifCond .eq 7, 3) := by decide +kernel
theorem dX5_learnedOf_41 : decode cX5_learnedOf 41 = .ok (.iconst 1, 1) := by decide +kernel
theorem dX5_learnedOf_42 : decode cX5_learnedOf 42 = .ok (.goto 4, 3) := by decide +kernel
theorem dX5_learnedOf_45 : decode cX5_learnedOf 45 = .ok (.iconst 0, 1) := by decide +kernel
theorem dX5_learnedOf_46 : decode cX5_learnedOf 46 = .ok (.ireturn, 1) := by decide +kernel
theorem dX5_learnedOf_47 : decode cX5_learnedOf 47 = .ok (.iconst 0, 1) := by decide +kernel
theorem dX5_learnedOf_48 : decode cX5_learnedOf 48 = .ok (.istore_n 3, 1) := by decide +kernel
theorem dX5_learnedOf_49 : decode cX5_learnedOf 49 = .ok (.iconst 0, 1) := by decide +kernel
theorem dX5_learnedOf_50 : decode cX5_learnedOf 50 = .ok (.istore 4, 2) := by decide +kernel
theorem dX5_learnedOf_52 : decode cX5_learnedOf 52 = .ok (.iload 4, 2) := by decide +kernel
theorem dX5_learnedOf_54 : decode cX5_learnedOf 54 = .ok (.aload_n 0, 1) := by decide +kernel
theorem dX5_learnedOf_55 : decode cX5_learnedOf 55 = .ok (.getfield 7, 3) := by decide +kernel
theorem dX5_learnedOf_58 : decode cX5_learnedOf 58 = .ok (.iconst 3, 1) := by decide +kernel
theorem dX5_learnedOf_59 : decode cX5_learnedOf 59 = .ok (.iload_n 1, 1) := by decide +kernel
theorem dX5_learnedOf_60 : decode cX5_learnedOf 60 = .ok (.iadd, 1) := by decide +kernel
theorem dX5_learnedOf_61 : decode cX5_learnedOf 61 = .ok (.iaload, 1) := by decide +kernel
theorem dX5_learnedOf_62 : decode cX5_learnedOf 62 = .ok (.if_icmp .ge 94, 3) := by decide +kernel
theorem dX5_learnedOf_65 : decode cX5_learnedOf 65 = .ok (.aload_n 0, 1) := by decide +kernel
theorem dX5_learnedOf_66 : decode cX5_learnedOf 66 = .ok (.getfield 40, 3) := by decide +kernel
theorem dX5_learnedOf_69 : decode cX5_learnedOf 69 = .ok (.bipush 7, 2) := by decide +kernel
theorem dX5_learnedOf_71 : decode cX5_learnedOf 71 = .ok (.iload 4, 2) := by decide +kernel
theorem dX5_learnedOf_73 : decode cX5_learnedOf 73 = .ok (.imul, 1) := by decide +kernel
theorem dX5_learnedOf_74 : decode cX5_learnedOf 74 = .ok (.iaload, 1) := by decide +kernel
theorem dX5_learnedOf_75 : decode cX5_learnedOf 75 = .ok (.istore 5, 2) := by decide +kernel
theorem dX5_learnedOf_77 : decode cX5_learnedOf 77 = .ok (.iload 5, 2) := by decide +kernel
theorem dX5_learnedOf_79 : decode cX5_learnedOf 79 = .ok (.iconst (-1), 1) := by decide +kernel
theorem dX5_learnedOf_80 : decode cX5_learnedOf 80 = .ok (.if_icmp .eq 20, 3) := by decide +kernel
theorem dX5_learnedOf_83 : decode cX5_learnedOf 83 = .ok (.iload 5, 2) := by decide +kernel
theorem dX5_learnedOf_85 : decode cX5_learnedOf 85 = .ok (.aload_n 0, 1) := by decide +kernel
theorem dX5_learnedOf_86 : decode cX5_learnedOf 86 = .ok (.iload_n 1, 1) := by decide +kernel
theorem dX5_learnedOf_87 : decode cX5_learnedOf 87 = .ok (.iload 4, 2) := by decide +kernel
theorem dX5_learnedOf_89 : decode cX5_learnedOf 89 = .ok (.iconst 0, 1) := by decide +kernel
theorem dX5_learnedOf_90 : decode cX5_learnedOf 90 = .ok (.invokevirtual 175, 3) := by decide +kernel
theorem dX5_learnedOf_93 : decode cX5_learnedOf 93 = .ok (.if_icmp .eq 7, 3) := by decide +kernel
theorem dX5_learnedOf_96 : decode cX5_learnedOf 96 = .ok (.iconst 1, 1) := by decide +kernel
theorem dX5_learnedOf_97 : decode cX5_learnedOf 97 = .ok (.goto 4, 3) := by decide +kernel
theorem dX5_learnedOf_100 : decode cX5_learnedOf 100 = .ok (.iconst 0, 1) := by decide +kernel
theorem dX5_learnedOf_101 : decode cX5_learnedOf 101 = .ok (.istore 6, 2) := by decide +kernel
theorem dX5_learnedOf_103 : decode cX5_learnedOf 103 = .ok (.iload_n 3, 1) := by decide +kernel
theorem dX5_learnedOf_104 : decode cX5_learnedOf 104 = .ok (.iload_n 2, 1) := by decide +kernel
theorem dX5_learnedOf_105 : decode cX5_learnedOf 105 = .ok (.iconst 1, 1) := by decide +kernel
theorem dX5_learnedOf_106 : decode cX5_learnedOf 106 = .ok (.if_icmp .ne 11, 3) := by decide +kernel
theorem dX5_learnedOf_109 : decode cX5_learnedOf 109 = .ok (.iload 6, 2) := by decide +kernel
theorem dX5_learnedOf_111 : decode cX5_learnedOf 111 = .ok (.ifCond .eq 36, 3) := by decide +kernel
theorem dX5_learnedOf_114 : decode cX5_learnedOf 114 = .ok (.goto 29, 3) := by decide +kernel
theorem dX5_learnedOf_117 : decode cX5_learnedOf 117 = .ok (.iload_n 2, 1) := by decide +kernel
theorem dX5_learnedOf_118 : decode cX5_learnedOf 118 = .ok (.iconst 2, 1) := by decide +kernel
theorem dX5_learnedOf_119 : decode cX5_learnedOf 119 = .ok (.if_icmp .ne 18, 3) := by decide +kernel
theorem dX5_learnedOf_122 : decode cX5_learnedOf 122 = .ok (.iload 6, 2) := by decide +kernel
theorem dX5_learnedOf_124 : decode cX5_learnedOf 124 = .ok (.ifCond .eq 23, 3) := by decide +kernel
theorem dX5_learnedOf_127 : decode cX5_learnedOf 127 = .ok (.iload 5, 2) := by decide +kernel
theorem dX5_learnedOf_129 : decode cX5_learnedOf 129 = .ok (.bipush 7, 2) := by decide +kernel
theorem dX5_learnedOf_131 : decode cX5_learnedOf 131 = .ok (.if_icmp .ne 16, 3) := by decide +kernel
theorem dX5_learnedOf_134 : decode cX5_learnedOf 134 = .ok (.goto 9, 3) := by decide +kernel
theorem dX5_learnedOf_137 : decode cX5_learnedOf 137 = .ok (.iload 5, 2) := by decide +kernel
theorem dX5_learnedOf_139 : decode cX5_learnedOf 139 = .ok (.iconst (-1), 1) := by decide +kernel
theorem dX5_learnedOf_140 : decode cX5_learnedOf 140 = .ok (.if_icmp .ne 7, 3) := by decide +kernel
theorem dX5_learnedOf_143 : decode cX5_learnedOf 143 = .ok (.iconst 1, 1) := by decide +kernel
theorem dX5_learnedOf_144 : decode cX5_learnedOf 144 = .ok (.goto 4, 3) := by decide +kernel
theorem dX5_learnedOf_147 : decode cX5_learnedOf 147 = .ok (.iconst 0, 1) := by decide +kernel
theorem dX5_learnedOf_148 : decode cX5_learnedOf 148 = .ok (.iadd, 1) := by decide +kernel
theorem dX5_learnedOf_149 : decode cX5_learnedOf 149 = .ok (.istore_n 3, 1) := by decide +kernel
theorem dX5_learnedOf_150 : decode cX5_learnedOf 150 = .ok (.iinc 4 1, 3) := by decide +kernel
theorem dX5_learnedOf_153 : decode cX5_learnedOf 153 = .ok (.goto (-101), 3) := by decide +kernel
theorem dX5_learnedOf_156 : decode cX5_learnedOf 156 = .ok (.iload_n 3, 1) := by decide +kernel
theorem dX5_learnedOf_157 : decode cX5_learnedOf 157 = .ok (.ireturn, 1) := by decide +kernel
set_option maxRecDepth 20000 in
theorem ggX5_ifLearned_X5_isShape : GoodIn wsX5_ifLearned wsX5_isShape := goodIn_r _ [5, 6, 7, 4, 8] (by decide +kernel) (by decide +kernel)
set_option maxRecDepth 20000 in
theorem gX5_ifLearned_X5_isShape : GoodIn wsX5_ifLearned (va_wsS RX5 57 yX5_isShape wsX5_isShape) := goodIn_app (goodIn_of _ (by decide +kernel)) ggX5_ifLearned_X5_isShape
set_option maxRecDepth 20000 in
theorem ggX5_ifLearned_X5_fails : GoodIn wsX5_ifLearned wsX5_fails := goodIn_r _ [12, 1, 123, 124, 125, 126, 127, 128, 129, 130, 131, 132, 133, 134, 135, 136, 137, 138, 139, 140, 141, 142, 143, 144, 145, 146, 147, 148] (by decide +kernel) (by decide +kernel)
set_option maxRecDepth 20000 in
theorem gX5_ifLearned_X5_fails : GoodIn wsX5_ifLearned (wsV RX5 64 RX5 yX5_fails wsX5_fails) := goodIn_app (goodIn_of _ (by decide +kernel)) ggX5_ifLearned_X5_fails
set_option maxRecDepth 20000 in
theorem ggX5_ifLearned_X5_in : GoodIn wsX5_ifLearned wsX5_in := goodIn_r _ [8] (by decide +kernel) (by decide +kernel)
set_option maxRecDepth 20000 in
theorem gX5_ifLearned_X5_in : GoodIn wsX5_ifLearned (va_wsS RX5 53 yX5_in wsX5_in) := goodIn_app (goodIn_of _ (by decide +kernel)) ggX5_ifLearned_X5_in
set_option maxRecDepth 20000 in
theorem ggX5_ifLearned_X5_learnedOf : GoodIn wsX5_ifLearned wsX5_learnedOf := goodIn_r _ [16, 17, 18, 19, 20, 21, 4, 22, 23, 24, 25, 26, 27, 28, 29, 30, 31, 32, 33, 6, 7, 8, 34, 35, 36, 37, 38, 39, 40, 41, 42, 43, 44, 45, 46, 47, 48, 49, 50, 51, 52, 53, 54, 55, 56, 57, 58, 59, 60, 61, 62, 63, 64, 65, 66, 67, 68, 69, 70, 71, 72, 73, 74, 75, 76, 77, 78, 79, 80, 81, 82, 83, 84, 85, 86, 87, 88, 89, 90, 91, 92, 93, 94, 95, 96, 97, 98, 99, 100, 101, 102, 103, 104, 105, 106, 107, 108, 109, 110, 111, 112, 113, 114, 115, 116, 117, 118, 119, 120, 121, 122, 123, 124, 125, 126, 127, 128, 129, 130, 131, 132, 133, 134, 135, 136, 137, 138, 139, 140, 141, 142, 143, 144, 145, 146, 147, 148] (by decide +kernel) (by decide +kernel)
set_option maxRecDepth 20000 in
theorem gX5_ifLearned_X5_learnedOf : GoodIn wsX5_ifLearned (wsV RX5 231 RX5 yX5_learnedOf wsX5_learnedOf) := goodIn_app (goodIn_of _ (by decide +kernel)) ggX5_ifLearned_X5_learnedOf
theorem dX5_ifLearned_0 : decode cX5_ifLearned 0 = .ok (.aload_n 0, 1) := by decide +kernel
theorem dX5_ifLearned_1 : decode cX5_ifLearned 1 = .ok (.iconst 0, 1) := by decide +kernel
theorem dX5_ifLearned_2 : decode cX5_ifLearned 2 = .ok (.putfield 49, 3) := by decide +kernel
theorem dX5_ifLearned_5 : decode cX5_ifLearned 5 = .ok (.iload_n 1, 1) := by decide +kernel
theorem dX5_ifLearned_6 : decode cX5_ifLearned 6 = .ok (.invokestatic 57, 3) := by decide +kernel
theorem dX5_ifLearned_9 : decode cX5_ifLearned 9 = .ok (.ifCond .ne 9, 3) := by decide +kernel
theorem dX5_ifLearned_12 : decode cX5_ifLearned 12 = .ok (.aload_n 0, 1) := by decide +kernel
theorem dX5_ifLearned_13 : decode cX5_ifLearned 13 = .ok (.iconst 1, 1) := by decide +kernel
theorem dX5_ifLearned_14 : decode cX5_ifLearned 14 = .ok (.invokevirtual 64, 3) := by decide +kernel
theorem dX5_ifLearned_17 : decode cX5_ifLearned 17 = .ok (.ireturn, 1) := by decide +kernel
theorem dX5_ifLearned_18 : decode cX5_ifLearned 18 = .ok (.iload_n 2, 1) := by decide +kernel
theorem dX5_ifLearned_19 : decode cX5_ifLearned 19 = .ok (.iconst 0, 1) := by decide +kernel
theorem dX5_ifLearned_20 : decode cX5_ifLearned 20 = .ok (.iconst 4, 1) := by decide +kernel
theorem dX5_ifLearned_21 : decode cX5_ifLearned 21 = .ok (.invokestatic 53, 3) := by decide +kernel
theorem dX5_ifLearned_24 : decode cX5_ifLearned 24 = .ok (.ifCond .eq 12, 3) := by decide +kernel
theorem dX5_ifLearned_27 : decode cX5_ifLearned 27 = .ok (.aload_n 0, 1) := by decide +kernel
theorem dX5_ifLearned_28 : decode cX5_ifLearned 28 = .ok (.iload_n 1, 1) := by decide +kernel
theorem dX5_ifLearned_29 : decode cX5_ifLearned 29 = .ok (.iload_n 2, 1) := by decide +kernel
theorem dX5_ifLearned_30 : decode cX5_ifLearned 30 = .ok (.invokevirtual 231, 3) := by decide +kernel
theorem dX5_ifLearned_33 : decode cX5_ifLearned 33 = .ok (.goto 8, 3) := by decide +kernel
theorem dX5_ifLearned_36 : decode cX5_ifLearned 36 = .ok (.aload_n 0, 1) := by decide +kernel
theorem dX5_ifLearned_37 : decode cX5_ifLearned 37 = .ok (.iconst 2, 1) := by decide +kernel
theorem dX5_ifLearned_38 : decode cX5_ifLearned 38 = .ok (.invokevirtual 64, 3) := by decide +kernel
theorem dX5_ifLearned_41 : decode cX5_ifLearned 41 = .ok (.ireturn, 1) := by decide +kernel
set_option maxRecDepth 20000 in
theorem ggX5_coversParts_X5_childOf : GoodIn wsX5_coversParts wsX5_childOf := goodIn_r _ [5, 6, 7, 8, 9, 4, 10, 18, 19, 20, 21, 22, 23, 24, 25, 26, 27, 28, 29, 30, 31, 32, 33, 34, 35, 36, 37, 38, 39, 40, 41, 42, 43] (by decide +kernel) (by decide +kernel)
set_option maxRecDepth 20000 in
theorem gX5_coversParts_X5_childOf : GoodIn wsX5_coversParts (wsV RX5 201 RX5 yX5_childOf wsX5_childOf) := goodIn_app (goodIn_of _ (by decide +kernel)) ggX5_coversParts_X5_childOf
set_option maxRecDepth 20000 in
theorem ggX5_coversParts_X5_canMiss : GoodIn wsX5_coversParts wsX5_canMiss := goodIn_r _ [14, 7, 8, 9, 4, 10, 6, 15, 16, 17, 18, 19, 20, 21, 22, 23, 24, 25, 26, 27, 28, 29, 30, 31, 32, 33, 34, 35, 36, 37, 38, 39, 40, 41, 42, 43] (by decide +kernel) (by decide +kernel)
set_option maxRecDepth 20000 in
theorem gX5_coversParts_X5_canMiss : GoodIn wsX5_coversParts (wsV RX5 189 RX5 yX5_canMiss wsX5_canMiss) := goodIn_app (goodIn_of _ (by decide +kernel)) ggX5_coversParts_X5_canMiss
theorem dX5_coversParts_0 : decode cX5_coversParts 0 = .ok (.iconst 0, 1) := by decide +kernel
theorem dX5_coversParts_1 : decode cX5_coversParts 1 = .ok (.istore 5, 2) := by decide +kernel
theorem dX5_coversParts_3 : decode cX5_coversParts 3 = .ok (.iload 5, 2) := by decide +kernel
theorem dX5_coversParts_5 : decode cX5_coversParts 5 = .ok (.bipush 8, 2) := by decide +kernel
theorem dX5_coversParts_7 : decode cX5_coversParts 7 = .ok (.if_icmp .ge 64, 3) := by decide +kernel
theorem dX5_coversParts_10 : decode cX5_coversParts 10 = .ok (.aload_n 0, 1) := by decide +kernel
theorem dX5_coversParts_11 : decode cX5_coversParts 11 = .ok (.iload_n 1, 1) := by decide +kernel
theorem dX5_coversParts_12 : decode cX5_coversParts 12 = .ok (.iload_n 2, 1) := by decide +kernel
theorem dX5_coversParts_13 : decode cX5_coversParts 13 = .ok (.iload 5, 2) := by decide +kernel
theorem dX5_coversParts_15 : decode cX5_coversParts 15 = .ok (.invokevirtual 201, 3) := by decide +kernel
theorem dX5_coversParts_18 : decode cX5_coversParts 18 = .ok (.istore 6, 2) := by decide +kernel
theorem dX5_coversParts_20 : decode cX5_coversParts 20 = .ok (.aload_n 0, 1) := by decide +kernel
theorem dX5_coversParts_21 : decode cX5_coversParts 21 = .ok (.iload_n 3, 1) := by decide +kernel
theorem dX5_coversParts_22 : decode cX5_coversParts 22 = .ok (.iload 4, 2) := by decide +kernel
theorem dX5_coversParts_24 : decode cX5_coversParts 24 = .ok (.iload 5, 2) := by decide +kernel
theorem dX5_coversParts_26 : decode cX5_coversParts 26 = .ok (.invokevirtual 201, 3) := by decide +kernel
theorem dX5_coversParts_29 : decode cX5_coversParts 29 = .ok (.istore 7, 2) := by decide +kernel
theorem dX5_coversParts_31 : decode cX5_coversParts 31 = .ok (.iload 6, 2) := by decide +kernel
theorem dX5_coversParts_33 : decode cX5_coversParts 33 = .ok (.iconst (-1), 1) := by decide +kernel
theorem dX5_coversParts_34 : decode cX5_coversParts 34 = .ok (.if_icmp .eq 31, 3) := by decide +kernel
theorem dX5_coversParts_37 : decode cX5_coversParts 37 = .ok (.aload_n 0, 1) := by decide +kernel
theorem dX5_coversParts_38 : decode cX5_coversParts 38 = .ok (.iload_n 1, 1) := by decide +kernel
theorem dX5_coversParts_39 : decode cX5_coversParts 39 = .ok (.iload 6, 2) := by decide +kernel
theorem dX5_coversParts_41 : decode cX5_coversParts 41 = .ok (.invokevirtual 189, 3) := by decide +kernel
theorem dX5_coversParts_44 : decode cX5_coversParts 44 = .ok (.ifCond .ne 21, 3) := by decide +kernel
theorem dX5_coversParts_47 : decode cX5_coversParts 47 = .ok (.iload 7, 2) := by decide +kernel
theorem dX5_coversParts_49 : decode cX5_coversParts 49 = .ok (.iconst (-1), 1) := by decide +kernel
theorem dX5_coversParts_50 : decode cX5_coversParts 50 = .ok (.if_icmp .eq 13, 3) := by decide +kernel
theorem dX5_coversParts_53 : decode cX5_coversParts 53 = .ok (.aload_n 0, 1) := by decide +kernel
theorem dX5_coversParts_54 : decode cX5_coversParts 54 = .ok (.iload_n 3, 1) := by decide +kernel
theorem dX5_coversParts_55 : decode cX5_coversParts 55 = .ok (.iload 7, 2) := by decide +kernel
theorem dX5_coversParts_57 : decode cX5_coversParts 57 = .ok (.invokevirtual 189, 3) := by decide +kernel
theorem dX5_coversParts_60 : decode cX5_coversParts 60 = .ok (.ifCond .eq 5, 3) := by decide +kernel
theorem dX5_coversParts_63 : decode cX5_coversParts 63 = .ok (.iconst 0, 1) := by decide +kernel
theorem dX5_coversParts_64 : decode cX5_coversParts 64 = .ok (.ireturn, 1) := by decide +kernel
theorem dX5_coversParts_65 : decode cX5_coversParts 65 = .ok (.iinc 5 1, 3) := by decide +kernel
theorem dX5_coversParts_68 : decode cX5_coversParts 68 = .ok (.goto (-65), 3) := by decide +kernel
theorem dX5_coversParts_71 : decode cX5_coversParts 71 = .ok (.iconst 1, 1) := by decide +kernel
theorem dX5_coversParts_72 : decode cX5_coversParts 72 = .ok (.ireturn, 1) := by decide +kernel
set_option maxRecDepth 20000 in
theorem ggX5_coversOf_X5_of : GoodIn wsX5_coversOf wsX5_of := goodIn_r _ [7, 1, 26, 27, 28, 29, 30, 31, 32, 33, 34, 35, 36, 37, 38, 39, 40, 41, 42, 43, 44, 45, 46, 47, 48, 49, 50, 51] (by decide +kernel) (by decide +kernel)
set_option maxRecDepth 20000 in
theorem gX5_coversOf_X5_of : GoodIn wsX5_coversOf (wsV RX5 175 RX5 yX5_of wsX5_of) := goodIn_app (goodIn_of _ (by decide +kernel)) ggX5_coversOf_X5_of
set_option maxRecDepth 20000 in
theorem ggX5_coversOf_X5_childOf : GoodIn wsX5_coversOf wsX5_childOf := goodIn_r _ [11, 1, 3, 4, 5, 6, 7, 26, 27, 28, 29, 30, 31, 32, 33, 34, 35, 36, 37, 38, 39, 40, 41, 42, 43, 44, 45, 46, 47, 48, 49, 50, 51] (by decide +kernel) (by decide +kernel)
set_option maxRecDepth 20000 in
theorem gX5_coversOf_X5_childOf : GoodIn wsX5_coversOf (wsV RX5 201 RX5 yX5_childOf wsX5_childOf) := goodIn_app (goodIn_of _ (by decide +kernel)) ggX5_coversOf_X5_childOf
set_option maxRecDepth 20000 in
theorem ggX5_coversOf_X5_joined : GoodIn wsX5_coversOf wsX5_joined := goodIn_r _ [14, 15, 16, 6, 17] (by decide +kernel) (by decide +kernel)
set_option maxRecDepth 20000 in
theorem gX5_coversOf_X5_joined : GoodIn wsX5_coversOf (va_wsS RX5 147 yX5_joined wsX5_joined) := goodIn_app (goodIn_of _ (by decide +kernel)) ggX5_coversOf_X5_joined
set_option maxRecDepth 20000 in
theorem ggX5_coversOf_X5_coversParts : GoodIn wsX5_coversOf wsX5_coversParts := goodIn_r _ [21, 8, 9, 10, 6, 11, 1, 3, 4, 5, 7, 22, 23, 24, 25, 15, 16, 17, 26, 27, 28, 29, 30, 31, 32, 33, 34, 35, 36, 37, 38, 39, 40, 41, 42, 43, 44, 45, 46, 47, 48, 49, 50, 51] (by decide +kernel) (by decide +kernel)
set_option maxRecDepth 20000 in
theorem gX5_coversOf_X5_coversParts : GoodIn wsX5_coversOf (wsV RX5 234 RX5 yX5_coversParts wsX5_coversParts) := goodIn_app (goodIn_of _ (by decide +kernel)) ggX5_coversOf_X5_coversParts
theorem dX5_coversOf_0 : decode cX5_coversOf 0 = .ok (.iconst 1, 1) := by decide +kernel
theorem dX5_coversOf_1 : decode cX5_coversOf 1 = .ok (.iload_n 1, 1) := by decide +kernel
theorem dX5_coversOf_2 : decode cX5_coversOf 2 = .ok (.isub, 1) := by decide +kernel
theorem dX5_coversOf_3 : decode cX5_coversOf 3 = .ok (.istore_n 2, 1) := by decide +kernel
theorem dX5_coversOf_4 : decode cX5_coversOf 4 = .ok (.iconst 0, 1) := by decide +kernel
theorem dX5_coversOf_5 : decode cX5_coversOf 5 = .ok (.istore_n 3, 1) := by decide +kernel
theorem dX5_coversOf_6 : decode cX5_coversOf 6 = .ok (.iload_n 3, 1) := by decide +kernel
theorem dX5_coversOf_7 : decode cX5_coversOf 7 = .ok (.aload_n 0, 1) := by decide +kernel
theorem dX5_coversOf_8 : decode cX5_coversOf 8 = .ok (.getfield 7, 3) := by decide +kernel
theorem dX5_coversOf_11 : decode cX5_coversOf 11 = .ok (.iconst 3, 1) := by decide +kernel
theorem dX5_coversOf_12 : decode cX5_coversOf 12 = .ok (.iload_n 2, 1) := by decide +kernel
theorem dX5_coversOf_13 : decode cX5_coversOf 13 = .ok (.iadd, 1) := by decide +kernel
theorem dX5_coversOf_14 : decode cX5_coversOf 14 = .ok (.iaload, 1) := by decide +kernel
theorem dX5_coversOf_15 : decode cX5_coversOf 15 = .ok (.if_icmp .ge 210, 3) := by decide +kernel
theorem dX5_coversOf_18 : decode cX5_coversOf 18 = .ok (.iload_n 3, 1) := by decide +kernel
theorem dX5_coversOf_19 : decode cX5_coversOf 19 = .ok (.ifCond .ne 7, 3) := by decide +kernel
theorem dX5_coversOf_22 : decode cX5_coversOf 22 = .ok (.iconst (-1), 1) := by decide +kernel
theorem dX5_coversOf_23 : decode cX5_coversOf 23 = .ok (.goto 15, 3) := by decide +kernel
theorem dX5_coversOf_26 : decode cX5_coversOf 26 = .ok (.aload_n 0, 1) := by decide +kernel
theorem dX5_coversOf_27 : decode cX5_coversOf 27 = .ok (.getfield 43, 3) := by decide +kernel
theorem dX5_coversOf_30 : decode cX5_coversOf 30 = .ok (.aload_n 0, 1) := by decide +kernel
theorem dX5_coversOf_31 : decode cX5_coversOf 31 = .ok (.iload_n 2, 1) := by decide +kernel
theorem dX5_coversOf_32 : decode cX5_coversOf 32 = .ok (.iload_n 3, 1) := by decide +kernel
theorem dX5_coversOf_33 : decode cX5_coversOf 33 = .ok (.iconst 1, 1) := by decide +kernel
theorem dX5_coversOf_34 : decode cX5_coversOf 34 = .ok (.invokevirtual 175, 3) := by decide +kernel
theorem dX5_coversOf_37 : decode cX5_coversOf 37 = .ok (.iaload, 1) := by decide +kernel
theorem dX5_coversOf_38 : decode cX5_coversOf 38 = .ok (.istore 4, 2) := by decide +kernel
theorem dX5_coversOf_40 : decode cX5_coversOf 40 = .ok (.aload_n 0, 1) := by decide +kernel
theorem dX5_coversOf_41 : decode cX5_coversOf 41 = .ok (.getfield 43, 3) := by decide +kernel
theorem dX5_coversOf_44 : decode cX5_coversOf 44 = .ok (.iload_n 3, 1) := by decide +kernel
theorem dX5_coversOf_45 : decode cX5_coversOf 45 = .ok (.iconst (-1), 1) := by decide +kernel
theorem dX5_coversOf_46 : decode cX5_coversOf 46 = .ok (.iastore, 1) := by decide +kernel
theorem dX5_coversOf_47 : decode cX5_coversOf 47 = .ok (.iload_n 3, 1) := by decide +kernel
theorem dX5_coversOf_48 : decode cX5_coversOf 48 = .ok (.ifCond .eq 9, 3) := by decide +kernel
theorem dX5_coversOf_51 : decode cX5_coversOf 51 = .ok (.iload 4, 2) := by decide +kernel
theorem dX5_coversOf_53 : decode cX5_coversOf 53 = .ok (.iconst (-1), 1) := by decide +kernel
theorem dX5_coversOf_54 : decode cX5_coversOf 54 = .ok (.if_icmp .eq 165, 3) := by decide +kernel
theorem dX5_coversOf_57 : decode cX5_coversOf 57 = .ok (.iload_n 3, 1) := by decide +kernel
theorem dX5_coversOf_58 : decode cX5_coversOf 58 = .ok (.ifCond .le 20, 3) := by decide +kernel
theorem dX5_coversOf_61 : decode cX5_coversOf 61 = .ok (.aload_n 0, 1) := by decide +kernel
theorem dX5_coversOf_62 : decode cX5_coversOf 62 = .ok (.iload_n 1, 1) := by decide +kernel
theorem dX5_coversOf_63 : decode cX5_coversOf 63 = .ok (.iload 4, 2) := by decide +kernel
theorem dX5_coversOf_65 : decode cX5_coversOf 65 = .ok (.aload_n 0, 1) := by decide +kernel
theorem dX5_coversOf_66 : decode cX5_coversOf 66 = .ok (.iload_n 2, 1) := by decide +kernel
theorem dX5_coversOf_67 : decode cX5_coversOf 67 = .ok (.iload_n 3, 1) := by decide +kernel
theorem dX5_coversOf_68 : decode cX5_coversOf 68 = .ok (.iconst 2, 1) := by decide +kernel
theorem dX5_coversOf_69 : decode cX5_coversOf 69 = .ok (.invokevirtual 175, 3) := by decide +kernel
theorem dX5_coversOf_72 : decode cX5_coversOf 72 = .ok (.invokevirtual 201, 3) := by decide +kernel
theorem dX5_coversOf_75 : decode cX5_coversOf 75 = .ok (.goto 19, 3) := by decide +kernel
theorem dX5_coversOf_78 : decode cX5_coversOf 78 = .ok (.aload_n 0, 1) := by decide +kernel
theorem dX5_coversOf_79 : decode cX5_coversOf 79 = .ok (.getfield 7, 3) := by decide +kernel
theorem dX5_coversOf_82 : decode cX5_coversOf 82 = .ok (.iconst 3, 1) := by decide +kernel
theorem dX5_coversOf_83 : decode cX5_coversOf 83 = .ok (.iload_n 1, 1) := by decide +kernel
theorem dX5_coversOf_84 : decode cX5_coversOf 84 = .ok (.iadd, 1) := by decide +kernel
theorem dX5_coversOf_85 : decode cX5_coversOf 85 = .ok (.iaload, 1) := by decide +kernel
theorem dX5_coversOf_86 : decode cX5_coversOf 86 = .ok (.ifCond .le 7, 3) := by decide +kernel
theorem dX5_coversOf_89 : decode cX5_coversOf 89 = .ok (.iconst 0, 1) := by decide +kernel
theorem dX5_coversOf_90 : decode cX5_coversOf 90 = .ok (.goto 4, 3) := by decide +kernel
theorem dX5_coversOf_93 : decode cX5_coversOf 93 = .ok (.iconst (-1), 1) := by decide +kernel
theorem dX5_coversOf_94 : decode cX5_coversOf 94 = .ok (.istore 5, 2) := by decide +kernel
theorem dX5_coversOf_96 : decode cX5_coversOf 96 = .ok (.iload 5, 2) := by decide +kernel
theorem dX5_coversOf_98 : decode cX5_coversOf 98 = .ok (.iconst (-1), 1) := by decide +kernel
theorem dX5_coversOf_99 : decode cX5_coversOf 99 = .ok (.if_icmp .eq 50, 3) := by decide +kernel
theorem dX5_coversOf_102 : decode cX5_coversOf 102 = .ok (.aload_n 0, 1) := by decide +kernel
theorem dX5_coversOf_103 : decode cX5_coversOf 103 = .ok (.iload_n 1, 1) := by decide +kernel
theorem dX5_coversOf_104 : decode cX5_coversOf 104 = .ok (.iload 5, 2) := by decide +kernel
theorem dX5_coversOf_106 : decode cX5_coversOf 106 = .ok (.iconst 0, 1) := by decide +kernel
theorem dX5_coversOf_107 : decode cX5_coversOf 107 = .ok (.invokevirtual 175, 3) := by decide +kernel
theorem dX5_coversOf_110 : decode cX5_coversOf 110 = .ok (.aload_n 0, 1) := by decide +kernel
theorem dX5_coversOf_111 : decode cX5_coversOf 111 = .ok (.iload_n 2, 1) := by decide +kernel
theorem dX5_coversOf_112 : decode cX5_coversOf 112 = .ok (.iload_n 3, 1) := by decide +kernel
theorem dX5_coversOf_113 : decode cX5_coversOf 113 = .ok (.iconst 0, 1) := by decide +kernel
theorem dX5_coversOf_114 : decode cX5_coversOf 114 = .ok (.invokevirtual 175, 3) := by decide +kernel
theorem dX5_coversOf_117 : decode cX5_coversOf 117 = .ok (.invokestatic 147, 3) := by decide +kernel
theorem dX5_coversOf_120 : decode cX5_coversOf 120 = .ok (.aload_n 0, 1) := by decide +kernel
theorem dX5_coversOf_121 : decode cX5_coversOf 121 = .ok (.iload_n 1, 1) := by decide +kernel
theorem dX5_coversOf_122 : decode cX5_coversOf 122 = .ok (.iload 5, 2) := by decide +kernel
theorem dX5_coversOf_124 : decode cX5_coversOf 124 = .ok (.iconst 0, 1) := by decide +kernel
theorem dX5_coversOf_125 : decode cX5_coversOf 125 = .ok (.invokevirtual 175, 3) := by decide +kernel
theorem dX5_coversOf_128 : decode cX5_coversOf 128 = .ok (.if_icmp .ne 21, 3) := by decide +kernel
theorem dX5_coversOf_131 : decode cX5_coversOf 131 = .ok (.aload_n 0, 1) := by decide +kernel
theorem dX5_coversOf_132 : decode cX5_coversOf 132 = .ok (.iload_n 1, 1) := by decide +kernel
theorem dX5_coversOf_133 : decode cX5_coversOf 133 = .ok (.iload 5, 2) := by decide +kernel
theorem dX5_coversOf_135 : decode cX5_coversOf 135 = .ok (.iconst 4, 1) := by decide +kernel
theorem dX5_coversOf_136 : decode cX5_coversOf 136 = .ok (.invokevirtual 175, 3) := by decide +kernel
theorem dX5_coversOf_139 : decode cX5_coversOf 139 = .ok (.aload_n 0, 1) := by decide +kernel
theorem dX5_coversOf_140 : decode cX5_coversOf 140 = .ok (.iload_n 2, 1) := by decide +kernel
theorem dX5_coversOf_141 : decode cX5_coversOf 141 = .ok (.iload_n 3, 1) := by decide +kernel
theorem dX5_coversOf_142 : decode cX5_coversOf 142 = .ok (.iconst 4, 1) := by decide +kernel
theorem dX5_coversOf_143 : decode cX5_coversOf 143 = .ok (.invokevirtual 175, 3) := by decide +kernel
theorem dX5_coversOf_146 : decode cX5_coversOf 146 = .ok (.if_icmp .ge 5, 3) := by decide +kernel
theorem dX5_coversOf_149 : decode cX5_coversOf 149 = .ok (.iconst 0, 1) := by decide +kernel
theorem dX5_coversOf_150 : decode cX5_coversOf 150 = .ok (.ireturn, 1) := by decide +kernel
theorem dX5_coversOf_151 : decode cX5_coversOf 151 = .ok (.aload_n 0, 1) := by decide +kernel
theorem dX5_coversOf_152 : decode cX5_coversOf 152 = .ok (.iload_n 1, 1) := by decide +kernel
theorem dX5_coversOf_153 : decode cX5_coversOf 153 = .ok (.iload 5, 2) := by decide +kernel
theorem dX5_coversOf_155 : decode cX5_coversOf 155 = .ok (.iconst 0, 1) := by decide +kernel
theorem dX5_coversOf_156 : decode cX5_coversOf 156 = .ok (.invokevirtual 175, 3) := by decide +kernel
theorem dX5_coversOf_159 : decode cX5_coversOf 159 = .ok (.bipush 7, 2) := by decide +kernel
theorem dX5_coversOf_161 : decode cX5_coversOf 161 = .ok (.if_icmp .ne 7, 3) := by decide +kernel
theorem dX5_coversOf_164 : decode cX5_coversOf 164 = .ok (.iconst 1, 1) := by decide +kernel
theorem dX5_coversOf_165 : decode cX5_coversOf 165 = .ok (.goto 4, 3) := by decide +kernel
theorem dX5_coversOf_168 : decode cX5_coversOf 168 = .ok (.iconst 0, 1) := by decide +kernel
theorem dX5_coversOf_169 : decode cX5_coversOf 169 = .ok (.istore 6, 2) := by decide +kernel
theorem dX5_coversOf_171 : decode cX5_coversOf 171 = .ok (.iload 6, 2) := by decide +kernel
theorem dX5_coversOf_173 : decode cX5_coversOf 173 = .ok (.ifCond .ne 29, 3) := by decide +kernel
theorem dX5_coversOf_176 : decode cX5_coversOf 176 = .ok (.aload_n 0, 1) := by decide +kernel
theorem dX5_coversOf_177 : decode cX5_coversOf 177 = .ok (.iload_n 2, 1) := by decide +kernel
theorem dX5_coversOf_178 : decode cX5_coversOf 178 = .ok (.iload_n 3, 1) := by decide +kernel
theorem dX5_coversOf_179 : decode cX5_coversOf 179 = .ok (.iconst 0, 1) := by decide +kernel
theorem dX5_coversOf_180 : decode cX5_coversOf 180 = .ok (.invokevirtual 175, 3) := by decide +kernel
theorem dX5_coversOf_183 : decode cX5_coversOf 183 = .ok (.bipush 6, 2) := by decide +kernel
theorem dX5_coversOf_185 : decode cX5_coversOf 185 = .ok (.if_icmp .ne 17, 3) := by decide +kernel
theorem dX5_coversOf_188 : decode cX5_coversOf 188 = .ok (.aload_n 0, 1) := by decide +kernel
theorem dX5_coversOf_189 : decode cX5_coversOf 189 = .ok (.iload_n 1, 1) := by decide +kernel
theorem dX5_coversOf_190 : decode cX5_coversOf 190 = .ok (.iload 5, 2) := by decide +kernel
theorem dX5_coversOf_192 : decode cX5_coversOf 192 = .ok (.iload_n 2, 1) := by decide +kernel
theorem dX5_coversOf_193 : decode cX5_coversOf 193 = .ok (.iload_n 3, 1) := by decide +kernel
theorem dX5_coversOf_194 : decode cX5_coversOf 194 = .ok (.invokevirtual 234, 3) := by decide +kernel
theorem dX5_coversOf_197 : decode cX5_coversOf 197 = .ok (.ifCond .ne 5, 3) := by decide +kernel
theorem dX5_coversOf_200 : decode cX5_coversOf 200 = .ok (.iconst 0, 1) := by decide +kernel
theorem dX5_coversOf_201 : decode cX5_coversOf 201 = .ok (.ireturn, 1) := by decide +kernel
theorem dX5_coversOf_202 : decode cX5_coversOf 202 = .ok (.aload_n 0, 1) := by decide +kernel
theorem dX5_coversOf_203 : decode cX5_coversOf 203 = .ok (.getfield 43, 3) := by decide +kernel
theorem dX5_coversOf_206 : decode cX5_coversOf 206 = .ok (.iload_n 3, 1) := by decide +kernel
theorem dX5_coversOf_207 : decode cX5_coversOf 207 = .ok (.iload 6, 2) := by decide +kernel
theorem dX5_coversOf_209 : decode cX5_coversOf 209 = .ok (.ifCond .eq 7, 3) := by decide +kernel
theorem dX5_coversOf_212 : decode cX5_coversOf 212 = .ok (.iconst (-1), 1) := by decide +kernel
theorem dX5_coversOf_213 : decode cX5_coversOf 213 = .ok (.goto 5, 3) := by decide +kernel
theorem dX5_coversOf_216 : decode cX5_coversOf 216 = .ok (.iload 5, 2) := by decide +kernel
theorem dX5_coversOf_218 : decode cX5_coversOf 218 = .ok (.iastore, 1) := by decide +kernel
theorem dX5_coversOf_219 : decode cX5_coversOf 219 = .ok (.iinc 3 1, 3) := by decide +kernel
theorem dX5_coversOf_222 : decode cX5_coversOf 222 = .ok (.goto (-216), 3) := by decide +kernel
theorem dX5_coversOf_225 : decode cX5_coversOf 225 = .ok (.iconst 1, 1) := by decide +kernel
theorem dX5_coversOf_226 : decode cX5_coversOf 226 = .ok (.ireturn, 1) := by decide +kernel
set_option maxRecDepth 20000 in
theorem ggX5_covers_X5_isShape : GoodIn wsX5_covers wsX5_isShape := goodIn_r _ [5, 6, 7, 4, 8] (by decide +kernel) (by decide +kernel)
set_option maxRecDepth 20000 in
theorem gX5_covers_X5_isShape : GoodIn wsX5_covers (va_wsS RX5 57 yX5_isShape wsX5_isShape) := goodIn_app (goodIn_of _ (by decide +kernel)) ggX5_covers_X5_isShape
set_option maxRecDepth 20000 in
theorem ggX5_covers_X5_coversOf : GoodIn wsX5_covers wsX5_coversOf := goodIn_r _ [12, 13, 14, 15, 16, 17, 4, 18, 19, 20, 21, 22, 23, 24, 25, 6, 7, 8, 26, 27, 28, 29, 30, 31, 32, 33, 38, 39, 40, 41, 42, 43, 44, 45, 46, 47, 48, 49, 50, 51, 52, 53, 54, 55, 56, 57, 58, 59, 60, 61, 62, 63] (by decide +kernel) (by decide +kernel)
set_option maxRecDepth 20000 in
theorem gX5_covers_X5_coversOf : GoodIn wsX5_covers (wsV RX5 238 RX5 yX5_coversOf wsX5_coversOf) := goodIn_app (goodIn_of _ (by decide +kernel)) ggX5_covers_X5_coversOf
set_option maxRecDepth 20000 in
theorem ggX5_covers_X5_fails : GoodIn wsX5_covers wsX5_fails := goodIn_r _ [37, 1, 38, 39, 40, 41, 42, 43, 44, 45, 46, 47, 48, 49, 50, 51, 52, 53, 54, 55, 56, 57, 58, 59, 60, 61, 62, 63] (by decide +kernel) (by decide +kernel)
set_option maxRecDepth 20000 in
theorem gX5_covers_X5_fails : GoodIn wsX5_covers (wsV RX5 64 RX5 yX5_fails wsX5_fails) := goodIn_app (goodIn_of _ (by decide +kernel)) ggX5_covers_X5_fails
theorem dX5_covers_0 : decode cX5_covers 0 = .ok (.aload_n 0, 1) := by decide +kernel
theorem dX5_covers_1 : decode cX5_covers 1 = .ok (.iconst 0, 1) := by decide +kernel
theorem dX5_covers_2 : decode cX5_covers 2 = .ok (.putfield 49, 3) := by decide +kernel
theorem dX5_covers_5 : decode cX5_covers 5 = .ok (.iload_n 1, 1) := by decide +kernel
theorem dX5_covers_6 : decode cX5_covers 6 = .ok (.invokestatic 57, 3) := by decide +kernel
theorem dX5_covers_9 : decode cX5_covers 9 = .ok (.ifCond .eq 11, 3) := by decide +kernel
theorem dX5_covers_12 : decode cX5_covers 12 = .ok (.aload_n 0, 1) := by decide +kernel
theorem dX5_covers_13 : decode cX5_covers 13 = .ok (.iload_n 1, 1) := by decide +kernel
theorem dX5_covers_14 : decode cX5_covers 14 = .ok (.invokevirtual 238, 3) := by decide +kernel
theorem dX5_covers_17 : decode cX5_covers 17 = .ok (.goto 8, 3) := by decide +kernel
theorem dX5_covers_20 : decode cX5_covers 20 = .ok (.aload_n 0, 1) := by decide +kernel
theorem dX5_covers_21 : decode cX5_covers 21 = .ok (.iconst 1, 1) := by decide +kernel
theorem dX5_covers_22 : decode cX5_covers 22 = .ok (.invokevirtual 64, 3) := by decide +kernel
theorem dX5_covers_25 : decode cX5_covers 25 = .ok (.ireturn, 1) := by decide +kernel
set_option maxRecDepth 20000 in
theorem ggX5_joinedNodes_X5_joins : GoodIn wsX5_joinedNodes wsX5_joins := goodIn_r _ [5, 6, 7, 8, 9, 10, 11, 12, 4, 13, 14, 15, 16, 17, 18, 19, 20, 21, 22, 23, 24, 25, 26, 27, 28, 29, 30, 31, 32, 33, 34, 35, 36, 37, 38, 39, 40, 45, 46, 47, 48, 49, 50, 51, 52, 53, 54, 55, 56, 57, 58, 59, 60, 61, 62, 63, 64, 65, 66, 67, 68, 69, 70] (by decide +kernel) (by decide +kernel)
set_option maxRecDepth 20000 in
theorem gX5_joinedNodes_X5_joins : GoodIn wsX5_joinedNodes (wsV RX5 179 RX5 yX5_joins wsX5_joins) := goodIn_app (goodIn_of _ (by decide +kernel)) ggX5_joinedNodes_X5_joins
set_option maxRecDepth 20000 in
theorem ggX5_joinedNodes_X5_nodes : GoodIn wsX5_joinedNodes wsX5_nodes := goodIn_r _ [44, 9, 8, 45, 46, 47, 48, 49, 50, 51, 52, 53, 54, 55, 56, 57, 58, 59, 60, 61, 62, 63, 64, 65, 66, 67, 68, 69, 70] (by decide +kernel) (by decide +kernel)
set_option maxRecDepth 20000 in
theorem gX5_joinedNodes_X5_nodes : GoodIn wsX5_joinedNodes (wsV RX5 153 RX5 yX5_nodes wsX5_nodes) := goodIn_app (goodIn_of _ (by decide +kernel)) ggX5_joinedNodes_X5_nodes
theorem dX5_joinedNodes_0 : decode cX5_joinedNodes 0 = .ok (.aload_n 0, 1) := by decide +kernel
theorem dX5_joinedNodes_1 : decode cX5_joinedNodes 1 = .ok (.iconst 0, 1) := by decide +kernel
theorem dX5_joinedNodes_2 : decode cX5_joinedNodes 2 = .ok (.invokevirtual 179, 3) := by decide +kernel
theorem dX5_joinedNodes_5 : decode cX5_joinedNodes 5 = .ok (.aload_n 0, 1) := by decide +kernel
theorem dX5_joinedNodes_6 : decode cX5_joinedNodes 6 = .ok (.invokevirtual 153, 3) := by decide +kernel
theorem dX5_joinedNodes_9 : decode cX5_joinedNodes 9 = .ok (.ireturn, 1) := by decide +kernel
set_option maxRecDepth 20000 in
theorem ggX5_ifJoined_X5_joinedNodes : GoodIn wsX5_ifJoined wsX5_joinedNodes := goodIn_r _ [6, 7, 8, 9, 5, 10, 11, 12, 13, 14, 15, 16, 17, 18, 19, 20, 21, 22, 23, 24, 25, 26, 27, 28, 29, 30, 31, 32, 33, 34, 35, 36, 37, 38, 39, 40, 41, 42, 43, 44, 45, 46, 47, 48, 49, 50, 51, 52, 53, 54, 55, 56, 57, 58, 59, 60, 61, 62, 63, 64, 65, 66, 67, 68, 69, 70, 71, 72, 73, 74, 75] (by decide +kernel) (by decide +kernel)
set_option maxRecDepth 20000 in
theorem gX5_ifJoined_X5_joinedNodes : GoodIn wsX5_ifJoined (wsV RX5 241 RX5 yX5_joinedNodes wsX5_joinedNodes) := goodIn_app (goodIn_of _ (by decide +kernel)) ggX5_ifJoined_X5_joinedNodes
theorem dX5_ifJoined_0 : decode cX5_ifJoined 0 = .ok (.aload_n 0, 1) := by decide +kernel
theorem dX5_ifJoined_1 : decode cX5_ifJoined 1 = .ok (.iconst 0, 1) := by decide +kernel
theorem dX5_ifJoined_2 : decode cX5_ifJoined 2 = .ok (.putfield 49, 3) := by decide +kernel
theorem dX5_ifJoined_5 : decode cX5_ifJoined 5 = .ok (.aload_n 0, 1) := by decide +kernel
theorem dX5_ifJoined_6 : decode cX5_ifJoined 6 = .ok (.invokevirtual 241, 3) := by decide +kernel
theorem dX5_ifJoined_9 : decode cX5_ifJoined 9 = .ok (.ireturn, 1) := by decide +kernel
set_option maxRecDepth 20000 in
theorem ggX5_sure_X5_of : GoodIn wsX5_sure wsX5_of := goodIn_r _ [6, 1, 14, 15, 16, 17, 18, 19, 20, 21, 22, 23, 24, 25, 26, 27, 28, 29, 30, 31, 32, 33, 34, 35, 36, 37, 38, 39] (by decide +kernel) (by decide +kernel)
set_option maxRecDepth 20000 in
theorem gX5_sure_X5_of : GoodIn wsX5_sure (wsV RX5 175 RX5 yX5_of wsX5_of) := goodIn_app (goodIn_of _ (by decide +kernel)) ggX5_sure_X5_of
set_option maxRecDepth 20000 in
theorem ggX5_sure_X5_canMiss : GoodIn wsX5_sure wsX5_canMiss := goodIn_r _ [10, 2, 3, 4, 5, 6, 1, 11, 12, 13, 14, 15, 16, 17, 18, 19, 20, 21, 22, 23, 24, 25, 26, 27, 28, 29, 30, 31, 32, 33, 34, 35, 36, 37, 38, 39] (by decide +kernel) (by decide +kernel)
set_option maxRecDepth 20000 in
theorem gX5_sure_X5_canMiss : GoodIn wsX5_sure (wsV RX5 189 RX5 yX5_canMiss wsX5_canMiss) := goodIn_app (goodIn_of _ (by decide +kernel)) ggX5_sure_X5_canMiss
theorem dX5_sure_0 : decode cX5_sure 0 = .ok (.iconst 0, 1) := by decide +kernel
theorem dX5_sure_1 : decode cX5_sure 1 = .ok (.istore_n 2, 1) := by decide +kernel
theorem dX5_sure_2 : decode cX5_sure 2 = .ok (.iconst 0, 1) := by decide +kernel
theorem dX5_sure_3 : decode cX5_sure 3 = .ok (.istore_n 3, 1) := by decide +kernel
theorem dX5_sure_4 : decode cX5_sure 4 = .ok (.iload_n 3, 1) := by decide +kernel
theorem dX5_sure_5 : decode cX5_sure 5 = .ok (.aload_n 0, 1) := by decide +kernel
theorem dX5_sure_6 : decode cX5_sure 6 = .ok (.getfield 7, 3) := by decide +kernel
theorem dX5_sure_9 : decode cX5_sure 9 = .ok (.iconst 3, 1) := by decide +kernel
theorem dX5_sure_10 : decode cX5_sure 10 = .ok (.iload_n 1, 1) := by decide +kernel
theorem dX5_sure_11 : decode cX5_sure 11 = .ok (.iadd, 1) := by decide +kernel
theorem dX5_sure_12 : decode cX5_sure 12 = .ok (.iaload, 1) := by decide +kernel
theorem dX5_sure_13 : decode cX5_sure 13 = .ok (.if_icmp .ge 48, 3) := by decide +kernel
theorem dX5_sure_16 : decode cX5_sure 16 = .ok (.iload_n 2, 1) := by decide +kernel
theorem dX5_sure_17 : decode cX5_sure 17 = .ok (.aload_n 0, 1) := by decide +kernel
theorem dX5_sure_18 : decode cX5_sure 18 = .ok (.iload_n 1, 1) := by decide +kernel
theorem dX5_sure_19 : decode cX5_sure 19 = .ok (.iload_n 3, 1) := by decide +kernel
theorem dX5_sure_20 : decode cX5_sure 20 = .ok (.iconst 4, 1) := by decide +kernel
theorem dX5_sure_21 : decode cX5_sure 21 = .ok (.invokevirtual 175, 3) := by decide +kernel
theorem dX5_sure_24 : decode cX5_sure 24 = .ok (.ifCond .ne 28, 3) := by decide +kernel
theorem dX5_sure_27 : decode cX5_sure 27 = .ok (.aload_n 0, 1) := by decide +kernel
theorem dX5_sure_28 : decode cX5_sure 28 = .ok (.iload_n 1, 1) := by decide +kernel
theorem dX5_sure_29 : decode cX5_sure 29 = .ok (.iload_n 3, 1) := by decide +kernel
theorem dX5_sure_30 : decode cX5_sure 30 = .ok (.iconst 0, 1) := by decide +kernel
theorem dX5_sure_31 : decode cX5_sure 31 = .ok (.invokevirtual 175, 3) := by decide +kernel
theorem dX5_sure_34 : decode cX5_sure 34 = .ok (.bipush 7, 2) := by decide +kernel
theorem dX5_sure_36 : decode cX5_sure 36 = .ok (.if_icmp .eq 16, 3) := by decide +kernel
theorem dX5_sure_39 : decode cX5_sure 39 = .ok (.aload_n 0, 1) := by decide +kernel
theorem dX5_sure_40 : decode cX5_sure 40 = .ok (.iload_n 1, 1) := by decide +kernel
theorem dX5_sure_41 : decode cX5_sure 41 = .ok (.iload_n 3, 1) := by decide +kernel
theorem dX5_sure_42 : decode cX5_sure 42 = .ok (.invokevirtual 189, 3) := by decide +kernel
theorem dX5_sure_45 : decode cX5_sure 45 = .ok (.ifCond .ne 7, 3) := by decide +kernel
theorem dX5_sure_48 : decode cX5_sure 48 = .ok (.iconst 1, 1) := by decide +kernel
theorem dX5_sure_49 : decode cX5_sure 49 = .ok (.goto 4, 3) := by decide +kernel
theorem dX5_sure_52 : decode cX5_sure 52 = .ok (.iconst 0, 1) := by decide +kernel
theorem dX5_sure_53 : decode cX5_sure 53 = .ok (.iadd, 1) := by decide +kernel
theorem dX5_sure_54 : decode cX5_sure 54 = .ok (.istore_n 2, 1) := by decide +kernel
theorem dX5_sure_55 : decode cX5_sure 55 = .ok (.iinc 3 1, 3) := by decide +kernel
theorem dX5_sure_58 : decode cX5_sure 58 = .ok (.goto (-54), 3) := by decide +kernel
theorem dX5_sure_61 : decode cX5_sure 61 = .ok (.aload_n 0, 1) := by decide +kernel
theorem dX5_sure_62 : decode cX5_sure 62 = .ok (.getfield 7, 3) := by decide +kernel
theorem dX5_sure_65 : decode cX5_sure 65 = .ok (.iconst 3, 1) := by decide +kernel
theorem dX5_sure_66 : decode cX5_sure 66 = .ok (.iload_n 1, 1) := by decide +kernel
theorem dX5_sure_67 : decode cX5_sure 67 = .ok (.iadd, 1) := by decide +kernel
theorem dX5_sure_68 : decode cX5_sure 68 = .ok (.iaload, 1) := by decide +kernel
theorem dX5_sure_69 : decode cX5_sure 69 = .ok (.ifCond .ne 7, 3) := by decide +kernel
theorem dX5_sure_72 : decode cX5_sure 72 = .ok (.dconst 1, 1) := by decide +kernel
theorem dX5_sure_73 : decode cX5_sure 73 = .ok (.goto 15, 3) := by decide +kernel
theorem dX5_sure_76 : decode cX5_sure 76 = .ok (.iload_n 2, 1) := by decide +kernel
theorem dX5_sure_77 : decode cX5_sure 77 = .ok (.i2d, 1) := by decide +kernel
theorem dX5_sure_78 : decode cX5_sure 78 = .ok (.aload_n 0, 1) := by decide +kernel
theorem dX5_sure_79 : decode cX5_sure 79 = .ok (.getfield 7, 3) := by decide +kernel
theorem dX5_sure_82 : decode cX5_sure 82 = .ok (.iconst 3, 1) := by decide +kernel
theorem dX5_sure_83 : decode cX5_sure 83 = .ok (.iload_n 1, 1) := by decide +kernel
theorem dX5_sure_84 : decode cX5_sure 84 = .ok (.iadd, 1) := by decide +kernel
theorem dX5_sure_85 : decode cX5_sure 85 = .ok (.iaload, 1) := by decide +kernel
theorem dX5_sure_86 : decode cX5_sure 86 = .ok (.i2d, 1) := by decide +kernel
theorem dX5_sure_87 : decode cX5_sure 87 = .ok (.ddiv, 1) := by decide +kernel
theorem dX5_sure_88 : decode cX5_sure 88 = .ok (.dreturn, 1) := by decide +kernel
set_option maxRecDepth 20000 in
theorem ggX5_sureShare_X5_isShape : GoodIn wsX5_sureShare wsX5_isShape := goodIn_r _ [5, 6, 7, 4, 8] (by decide +kernel) (by decide +kernel)
set_option maxRecDepth 20000 in
theorem gX5_sureShare_X5_isShape : GoodIn wsX5_sureShare (va_wsS RX5 57 yX5_isShape wsX5_isShape) := goodIn_app (goodIn_of _ (by decide +kernel)) ggX5_sureShare_X5_isShape
set_option maxRecDepth 20000 in
theorem ggX5_sureShare_X5_sure : GoodIn wsX5_sureShare wsX5_sure := goodIn_r _ [12, 13, 14, 15, 16, 4, 17, 18, 19, 20, 21, 6, 7, 8, 26, 27, 28, 29, 30, 31, 32, 33, 34, 35, 36, 37, 38, 39, 40, 41, 42, 43, 44, 45, 46, 47, 48, 49, 50, 51] (by decide +kernel) (by decide +kernel)
set_option maxRecDepth 20000 in
theorem gX5_sureShare_X5_sure : GoodIn wsX5_sureShare (wsV RX5 244 RX5 yX5_sure wsX5_sure) := goodIn_app (goodIn_of _ (by decide +kernel)) ggX5_sureShare_X5_sure
set_option maxRecDepth 20000 in
theorem ggX5_sureShare_X5_fails : GoodIn wsX5_sureShare wsX5_fails := goodIn_r _ [25, 1, 26, 27, 28, 29, 30, 31, 32, 33, 34, 35, 36, 37, 38, 39, 40, 41, 42, 43, 44, 45, 46, 47, 48, 49, 50, 51] (by decide +kernel) (by decide +kernel)
set_option maxRecDepth 20000 in
theorem gX5_sureShare_X5_fails : GoodIn wsX5_sureShare (wsV RX5 64 RX5 yX5_fails wsX5_fails) := goodIn_app (goodIn_of _ (by decide +kernel)) ggX5_sureShare_X5_fails
theorem dX5_sureShare_0 : decode cX5_sureShare 0 = .ok (.aload_n 0, 1) := by decide +kernel
theorem dX5_sureShare_1 : decode cX5_sureShare 1 = .ok (.iconst 0, 1) := by decide +kernel
theorem dX5_sureShare_2 : decode cX5_sureShare 2 = .ok (.putfield 49, 3) := by decide +kernel
theorem dX5_sureShare_5 : decode cX5_sureShare 5 = .ok (.iload_n 1, 1) := by decide +kernel
theorem dX5_sureShare_6 : decode cX5_sureShare 6 = .ok (.invokestatic 57, 3) := by decide +kernel
theorem dX5_sureShare_9 : decode cX5_sureShare 9 = .ok (.ifCond .eq 11, 3) := by decide +kernel
theorem dX5_sureShare_12 : decode cX5_sureShare 12 = .ok (.aload_n 0, 1) := by decide +kernel
theorem dX5_sureShare_13 : decode cX5_sureShare 13 = .ok (.iload_n 1, 1) := by decide +kernel
theorem dX5_sureShare_14 : decode cX5_sureShare 14 = .ok (.invokevirtual 244, 3) := by decide +kernel
theorem dX5_sureShare_17 : decode cX5_sureShare 17 = .ok (.goto 9, 3) := by decide +kernel
theorem dX5_sureShare_20 : decode cX5_sureShare 20 = .ok (.aload_n 0, 1) := by decide +kernel
theorem dX5_sureShare_21 : decode cX5_sureShare 21 = .ok (.iconst 1, 1) := by decide +kernel
theorem dX5_sureShare_22 : decode cX5_sureShare 22 = .ok (.invokevirtual 64, 3) := by decide +kernel
theorem dX5_sureShare_25 : decode cX5_sureShare 25 = .ok (.i2d, 1) := by decide +kernel
theorem dX5_sureShare_26 : decode cX5_sureShare 26 = .ok (.dreturn, 1) := by decide +kernel
set_option maxRecDepth 20000 in
theorem ggX5_digest_X5_ofShape : GoodIn wsX5_digest wsX5_ofShape := goodIn_r _ [12, 4, 13, 14, 15, 11, 16, 17, 18, 19, 20, 21, 22, 23, 24, 25, 26, 27, 198, 199, 200, 201, 202, 203, 204, 205, 206, 207, 208, 209, 210, 211, 212, 213, 214, 215, 216, 217, 218, 219, 220, 221, 222, 223] (by decide +kernel) (by decide +kernel)
set_option maxRecDepth 20000 in
theorem gX5_digest_X5_ofShape : GoodIn wsX5_digest (wsV RX5 204 RX5 yX5_ofShape wsX5_ofShape) := goodIn_app (goodIn_of _ (by decide +kernel)) ggX5_digest_X5_ofShape
set_option maxRecDepth 20000 in
theorem ggX5_digest_X5_ofNode : GoodIn wsX5_digest wsX5_ofNode := goodIn_r _ [31, 17, 18, 19, 11, 20, 4, 13, 14, 15, 16, 21, 22, 23, 24, 25, 26, 27, 32, 33, 34, 35, 198, 199, 200, 201, 202, 203, 204, 205, 206, 207, 208, 209, 210, 211, 212, 213, 214, 215, 216, 217, 218, 219, 220, 221, 222, 223] (by decide +kernel) (by decide +kernel)
set_option maxRecDepth 20000 in
theorem gX5_digest_X5_ofNode : GoodIn wsX5_digest (wsV RX5 198 RX5 yX5_ofNode wsX5_ofNode) := goodIn_app (goodIn_of _ (by decide +kernel)) ggX5_digest_X5_ofNode
set_option maxRecDepth 20000 in
theorem ggX5_digest_X5_fitOf : GoodIn wsX5_digest wsX5_fitOf := goodIn_r _ [39, 40, 41, 42, 43, 44, 45, 11, 46, 47, 48, 49, 50, 51, 5, 52, 53, 54, 55, 7, 25, 26, 27, 56, 57, 58, 59, 60, 61, 62, 63, 64, 65, 66, 67, 68, 69, 70, 71, 72, 73, 74, 75, 76, 77, 78, 79, 80, 81, 82, 83, 84, 85, 86, 87, 88, 89, 90, 91, 92, 93, 94, 95, 96, 97, 98, 99, 100, 101, 102, 4, 103, 104, 105, 106, 107, 108, 109, 110, 111, 112, 113, 114, 115, 17, 18, 19, 20, 116, 117, 118, 21, 22, 23, 24, 198, 199, 200, 201, 202, 203, 204, 205, 206, 207, 208, 209, 210, 211, 212, 213, 214, 215, 216, 217, 218, 219, 220, 221, 222, 223] (by decide +kernel) (by decide +kernel)
set_option maxRecDepth 20000 in
theorem gX5_digest_X5_fitOf : GoodIn wsX5_digest (wsV RX5 228 RX5 yX5_fitOf wsX5_fitOf) := goodIn_app (goodIn_of _ (by decide +kernel)) ggX5_digest_X5_fitOf
set_option maxRecDepth 20000 in
theorem ggX5_digest_X5_learnedOf : GoodIn wsX5_digest wsX5_learnedOf := goodIn_r _ [122, 4, 123, 43, 44, 45, 11, 46, 47, 48, 49, 50, 51, 5, 52, 53, 54, 55, 7, 25, 26, 27, 56, 57, 58, 59, 60, 61, 62, 63, 64, 65, 66, 67, 68, 69, 70, 71, 72, 73, 74, 75, 76, 77, 78, 79, 80, 81, 82, 83, 84, 85, 86, 87, 88, 89, 90, 91, 92, 93, 94, 95, 96, 97, 98, 124, 125, 126, 127, 103, 128, 129, 130, 131, 132, 133, 134, 135, 136, 137, 138, 139, 140, 141, 142, 143, 144, 145, 116, 117, 118, 146, 147, 148, 149, 150, 151, 152, 153, 154, 155, 156, 157, 158, 159, 160, 161, 17, 18, 19, 20, 198, 199, 200, 201, 202, 203, 204, 205, 206, 207, 208, 209, 210, 211, 212, 213, 214, 215, 216, 217, 218, 219, 220, 221, 222, 223] (by decide +kernel) (by decide +kernel)
set_option maxRecDepth 20000 in
theorem gX5_digest_X5_learnedOf : GoodIn wsX5_digest (wsV RX5 231 RX5 yX5_learnedOf wsX5_learnedOf) := goodIn_app (goodIn_of _ (by decide +kernel)) ggX5_digest_X5_learnedOf
set_option maxRecDepth 20000 in
theorem ggX5_digest_X5_coversOf : GoodIn wsX5_digest wsX5_coversOf := goodIn_r _ [165, 4, 103, 17, 18, 19, 11, 20, 112, 113, 114, 115, 116, 117, 118, 25, 26, 27, 166, 167, 168, 169, 21, 22, 23, 24, 198, 199, 200, 201, 202, 203, 204, 205, 206, 207, 208, 209, 210, 211, 212, 213, 214, 215, 216, 217, 218, 219, 220, 221, 222, 223] (by decide +kernel) (by decide +kernel)
set_option maxRecDepth 20000 in
theorem gX5_digest_X5_coversOf : GoodIn wsX5_digest (wsV RX5 238 RX5 yX5_coversOf wsX5_coversOf) := goodIn_app (goodIn_of _ (by decide +kernel)) ggX5_digest_X5_coversOf
set_option maxRecDepth 20000 in
theorem ggX5_digest_X5_sure : GoodIn wsX5_digest wsX5_sure := goodIn_r _ [173, 4, 17, 18, 19, 11, 20, 21, 22, 23, 24, 25, 26, 27, 198, 199, 200, 201, 202, 203, 204, 205, 206, 207, 208, 209, 210, 211, 212, 213, 214, 215, 216, 217, 218, 219, 220, 221, 222, 223] (by decide +kernel) (by decide +kernel)
set_option maxRecDepth 20000 in
theorem gX5_digest_X5_sure : GoodIn wsX5_digest (wsV RX5 244 RX5 yX5_sure wsX5_sure) := goodIn_app (goodIn_of _ (by decide +kernel)) ggX5_digest_X5_sure
set_option maxRecDepth 20000 in
theorem ggX5_digest_Jxe99ae_doubleToLongBits_ccdee : GoodIn wsX5_digest wsJxe99ae_doubleToLongBits_ccdee := goodIn_r _ [177, 178, 179, 180, 181, 182, 183, 184, 176, 185] (by decide +kernel) (by decide +kernel)
set_option maxRecDepth 20000 in
theorem gX5_digest_Jxe99ae_doubleToLongBits_ccdee : GoodIn wsX5_digest (va_wsS RX5 252 yJxe99ae_doubleToLongBits_ccdee wsJxe99ae_doubleToLongBits_ccdee) := goodIn_app (goodIn_of _ (by decide +kernel)) ggX5_digest_Jxe99ae_doubleToLongBits_ccdee
set_option maxRecDepth 20000 in
theorem ggX5_digest_X5_joinedNodes : GoodIn wsX5_digest wsX5_joinedNodes := goodIn_r _ [189, 190, 191, 192, 11, 193, 4, 103, 123, 132, 128, 129, 130, 131, 133, 17, 18, 19, 20, 138, 139, 140, 141, 142, 143, 144, 145, 116, 117, 118, 25, 26, 27, 146, 147, 148, 149, 150, 151, 152, 153, 154, 155, 156, 157, 198, 199, 200, 201, 202, 203, 204, 205, 206, 207, 208, 209, 210, 211, 212, 213, 214, 215, 216, 217, 218, 219, 220, 221, 222, 223] (by decide +kernel) (by decide +kernel)
set_option maxRecDepth 20000 in
theorem gX5_digest_X5_joinedNodes : GoodIn wsX5_digest (wsV RX5 241 RX5 yX5_joinedNodes wsX5_joinedNodes) := goodIn_app (goodIn_of _ (by decide +kernel)) ggX5_digest_X5_joinedNodes
set_option maxRecDepth 20000 in
theorem ggX5_digest_X5_ofDocument : GoodIn wsX5_digest wsX5_ofDocument := goodIn_r _ [197, 48, 50, 69, 43, 44, 45, 11, 46, 47, 49, 51, 5, 52, 53, 54, 55, 7, 25, 26, 27, 56, 57, 58, 59, 60, 61, 62, 63, 64, 65, 66, 67, 68, 70, 71, 72, 73, 74, 75, 76, 77, 78, 79, 80, 81, 82, 83, 84, 85, 86, 87, 88, 89, 90, 91, 92, 93, 94, 95, 96, 97, 98, 198, 199, 200, 201, 202, 203, 204, 205, 206, 207, 208, 209, 210, 211, 212, 213, 214, 215, 216, 217, 218, 219, 220, 221, 222, 223] (by decide +kernel) (by decide +kernel)
set_option maxRecDepth 20000 in
theorem gX5_digest_X5_ofDocument : GoodIn wsX5_digest (wsV RX5 207 RX5 yX5_ofDocument wsX5_ofDocument) := goodIn_app (goodIn_of _ (by decide +kernel)) ggX5_digest_X5_ofDocument
theorem dX5_digest_0 : decode cX5_digest 0 = .ok (.aload_n 0, 1) := by decide +kernel
theorem dX5_digest_1 : decode cX5_digest 1 = .ok (.iconst 0, 1) := by decide +kernel
theorem dX5_digest_2 : decode cX5_digest 2 = .ok (.putfield 49, 3) := by decide +kernel
theorem dX5_digest_5 : decode cX5_digest 5 = .ok (.ldc2_w 248, 3) := by decide +kernel
theorem dX5_digest_8 : decode cX5_digest 8 = .ok (.lstore_n 1, 1) := by decide +kernel
theorem dX5_digest_9 : decode cX5_digest 9 = .ok (.ldc2_w 250, 3) := by decide +kernel
theorem dX5_digest_12 : decode cX5_digest 12 = .ok (.ldc2_w 250, 3) := by decide +kernel
theorem dX5_digest_15 : decode cX5_digest 15 = .ok (.ldc2_w 250, 3) := by decide +kernel
theorem dX5_digest_18 : decode cX5_digest 18 = .ok (.lload_n 1, 1) := by decide +kernel
theorem dX5_digest_19 : decode cX5_digest 19 = .ok (.lmul, 1) := by decide +kernel
theorem dX5_digest_20 : decode cX5_digest 20 = .ok (.aload_n 0, 1) := by decide +kernel
theorem dX5_digest_21 : decode cX5_digest 21 = .ok (.getfield 7, 3) := by decide +kernel
theorem dX5_digest_24 : decode cX5_digest 24 = .ok (.iconst 0, 1) := by decide +kernel
theorem dX5_digest_25 : decode cX5_digest 25 = .ok (.iaload, 1) := by decide +kernel
theorem dX5_digest_26 : decode cX5_digest 26 = .ok (.i2l, 1) := by decide +kernel
theorem dX5_digest_27 : decode cX5_digest 27 = .ok (.ladd, 1) := by decide +kernel
theorem dX5_digest_28 : decode cX5_digest 28 = .ok (.lmul, 1) := by decide +kernel
theorem dX5_digest_29 : decode cX5_digest 29 = .ok (.aload_n 0, 1) := by decide +kernel
theorem dX5_digest_30 : decode cX5_digest 30 = .ok (.getfield 71, 3) := by decide +kernel
theorem dX5_digest_33 : decode cX5_digest 33 = .ok (.i2l, 1) := by decide +kernel
theorem dX5_digest_34 : decode cX5_digest 34 = .ok (.ladd, 1) := by decide +kernel
theorem dX5_digest_35 : decode cX5_digest 35 = .ok (.lmul, 1) := by decide +kernel
theorem dX5_digest_36 : decode cX5_digest 36 = .ok (.aload_n 0, 1) := by decide +kernel
theorem dX5_digest_37 : decode cX5_digest 37 = .ok (.getfield 61, 3) := by decide +kernel
theorem dX5_digest_40 : decode cX5_digest 40 = .ok (.i2l, 1) := by decide +kernel
theorem dX5_digest_41 : decode cX5_digest 41 = .ok (.ladd, 1) := by decide +kernel
theorem dX5_digest_42 : decode cX5_digest 42 = .ok (.lstore_n 1, 1) := by decide +kernel
theorem dX5_digest_43 : decode cX5_digest 43 = .ok (.iconst 0, 1) := by decide +kernel
theorem dX5_digest_44 : decode cX5_digest 44 = .ok (.istore_n 3, 1) := by decide +kernel
theorem dX5_digest_45 : decode cX5_digest 45 = .ok (.iload_n 3, 1) := by decide +kernel
theorem dX5_digest_46 : decode cX5_digest 46 = .ok (.iconst 2, 1) := by decide +kernel
theorem dX5_digest_47 : decode cX5_digest 47 = .ok (.if_icmp .ge 181, 3) := by decide +kernel
theorem dX5_digest_50 : decode cX5_digest 50 = .ok (.iconst 0, 1) := by decide +kernel
theorem dX5_digest_51 : decode cX5_digest 51 = .ok (.istore 4, 2) := by decide +kernel
theorem dX5_digest_53 : decode cX5_digest 53 = .ok (.iload 4, 2) := by decide +kernel
theorem dX5_digest_55 : decode cX5_digest 55 = .ok (.bipush 6, 2) := by decide +kernel
theorem dX5_digest_57 : decode cX5_digest 57 = .ok (.if_icmp .ge 24, 3) := by decide +kernel
theorem dX5_digest_60 : decode cX5_digest 60 = .ok (.ldc2_w 250, 3) := by decide +kernel
theorem dX5_digest_63 : decode cX5_digest 63 = .ok (.lload_n 1, 1) := by decide +kernel
theorem dX5_digest_64 : decode cX5_digest 64 = .ok (.lmul, 1) := by decide +kernel
theorem dX5_digest_65 : decode cX5_digest 65 = .ok (.aload_n 0, 1) := by decide +kernel
theorem dX5_digest_66 : decode cX5_digest 66 = .ok (.iload_n 3, 1) := by decide +kernel
theorem dX5_digest_67 : decode cX5_digest 67 = .ok (.iload 4, 2) := by decide +kernel
theorem dX5_digest_69 : decode cX5_digest 69 = .ok (.invokevirtual 204, 3) := by decide +kernel
theorem dX5_digest_72 : decode cX5_digest 72 = .ok (.i2l, 1) := by decide +kernel
theorem dX5_digest_73 : decode cX5_digest 73 = .ok (.ladd, 1) := by decide +kernel
theorem dX5_digest_74 : decode cX5_digest 74 = .ok (.lstore_n 1, 1) := by decide +kernel
theorem dX5_digest_75 : decode cX5_digest 75 = .ok (.iinc 4 1, 3) := by decide +kernel
theorem dX5_digest_78 : decode cX5_digest 78 = .ok (.goto (-25), 3) := by decide +kernel
theorem dX5_digest_81 : decode cX5_digest 81 = .ok (.iconst 0, 1) := by decide +kernel
theorem dX5_digest_82 : decode cX5_digest 82 = .ok (.istore 4, 2) := by decide +kernel
theorem dX5_digest_84 : decode cX5_digest 84 = .ok (.iload 4, 2) := by decide +kernel
theorem dX5_digest_86 : decode cX5_digest 86 = .ok (.aload_n 0, 1) := by decide +kernel
theorem dX5_digest_87 : decode cX5_digest 87 = .ok (.getfield 7, 3) := by decide +kernel
theorem dX5_digest_90 : decode cX5_digest 90 = .ok (.iconst 3, 1) := by decide +kernel
theorem dX5_digest_91 : decode cX5_digest 91 = .ok (.iload_n 3, 1) := by decide +kernel
theorem dX5_digest_92 : decode cX5_digest 92 = .ok (.iadd, 1) := by decide +kernel
theorem dX5_digest_93 : decode cX5_digest 93 = .ok (.iaload, 1) := by decide +kernel
theorem dX5_digest_94 : decode cX5_digest 94 = .ok (.if_icmp .ge 42, 3) := by decide +kernel
theorem dX5_digest_97 : decode cX5_digest 97 = .ok (.iconst 0, 1) := by decide +kernel
theorem dX5_digest_98 : decode cX5_digest 98 = .ok (.istore 5, 2) := by decide +kernel
theorem dX5_digest_100 : decode cX5_digest 100 = .ok (.iload 5, 2) := by decide +kernel
theorem dX5_digest_102 : decode cX5_digest 102 = .ok (.bipush 10, 2) := by decide +kernel
theorem dX5_digest_104 : decode cX5_digest 104 = .ok (.if_icmp .ge 26, 3) := by decide +kernel
theorem dX5_digest_107 : decode cX5_digest 107 = .ok (.ldc2_w 250, 3) := by decide +kernel
theorem dX5_digest_110 : decode cX5_digest 110 = .ok (.lload_n 1, 1) := by decide +kernel
theorem dX5_digest_111 : decode cX5_digest 111 = .ok (.lmul, 1) := by decide +kernel
theorem dX5_digest_112 : decode cX5_digest 112 = .ok (.aload_n 0, 1) := by decide +kernel
theorem dX5_digest_113 : decode cX5_digest 113 = .ok (.iload_n 3, 1) := by decide +kernel
theorem dX5_digest_114 : decode cX5_digest 114 = .ok (.iload 4, 2) := by decide +kernel
theorem dX5_digest_116 : decode cX5_digest 116 = .ok (.iload 5, 2) := by decide +kernel
theorem dX5_digest_118 : decode cX5_digest 118 = .ok (.invokevirtual 198, 3) := by decide +kernel
theorem dX5_digest_121 : decode cX5_digest 121 = .ok (.i2l, 1) := by decide +kernel
theorem dX5_digest_122 : decode cX5_digest 122 = .ok (.ladd, 1) := by decide +kernel
theorem dX5_digest_123 : decode cX5_digest 123 = .ok (.lstore_n 1, 1) := by decide +kernel
theorem dX5_digest_124 : decode cX5_digest 124 = .ok (.iinc 5 1, 3) := by decide +kernel
theorem dX5_digest_127 : decode cX5_digest 127 = .ok (.goto (-27), 3) := by decide +kernel
theorem dX5_digest_130 : decode cX5_digest 130 = .ok (.iinc 4 1, 3) := by decide +kernel
theorem dX5_digest_133 : decode cX5_digest 133 = .ok (.goto (-49), 3) := by decide +kernel
theorem dX5_digest_136 : decode cX5_digest 136 = .ok (.iconst 0, 1) := by decide +kernel
theorem dX5_digest_137 : decode cX5_digest 137 = .ok (.istore 4, 2) := by decide +kernel
theorem dX5_digest_139 : decode cX5_digest 139 = .ok (.iload 4, 2) := by decide +kernel
theorem dX5_digest_141 : decode cX5_digest 141 = .ok (.iconst 3, 1) := by decide +kernel
theorem dX5_digest_142 : decode cX5_digest 142 = .ok (.if_icmp .ge 24, 3) := by decide +kernel
theorem dX5_digest_145 : decode cX5_digest 145 = .ok (.ldc2_w 250, 3) := by decide +kernel
theorem dX5_digest_148 : decode cX5_digest 148 = .ok (.lload_n 1, 1) := by decide +kernel
theorem dX5_digest_149 : decode cX5_digest 149 = .ok (.lmul, 1) := by decide +kernel
theorem dX5_digest_150 : decode cX5_digest 150 = .ok (.aload_n 0, 1) := by decide +kernel
theorem dX5_digest_151 : decode cX5_digest 151 = .ok (.iload_n 3, 1) := by decide +kernel
theorem dX5_digest_152 : decode cX5_digest 152 = .ok (.iload 4, 2) := by decide +kernel
theorem dX5_digest_154 : decode cX5_digest 154 = .ok (.invokevirtual 228, 3) := by decide +kernel
theorem dX5_digest_157 : decode cX5_digest 157 = .ok (.i2l, 1) := by decide +kernel
theorem dX5_digest_158 : decode cX5_digest 158 = .ok (.ladd, 1) := by decide +kernel
theorem dX5_digest_159 : decode cX5_digest 159 = .ok (.lstore_n 1, 1) := by decide +kernel
theorem dX5_digest_160 : decode cX5_digest 160 = .ok (.iinc 4 1, 3) := by decide +kernel
theorem dX5_digest_163 : decode cX5_digest 163 = .ok (.goto (-24), 3) := by decide +kernel
theorem dX5_digest_166 : decode cX5_digest 166 = .ok (.iconst 0, 1) := by decide +kernel
theorem dX5_digest_167 : decode cX5_digest 167 = .ok (.istore 4, 2) := by decide +kernel
theorem dX5_digest_169 : decode cX5_digest 169 = .ok (.iload 4, 2) := by decide +kernel
theorem dX5_digest_171 : decode cX5_digest 171 = .ok (.iconst 5, 1) := by decide +kernel
theorem dX5_digest_172 : decode cX5_digest 172 = .ok (.if_icmp .ge 24, 3) := by decide +kernel
theorem dX5_digest_175 : decode cX5_digest 175 = .ok (.ldc2_w 250, 3) := by decide +kernel
theorem dX5_digest_178 : decode cX5_digest 178 = .ok (.lload_n 1, 1) := by decide +kernel
theorem dX5_digest_179 : decode cX5_digest 179 = .ok (.lmul, 1) := by decide +kernel
theorem dX5_digest_180 : decode cX5_digest 180 = .ok (.aload_n 0, 1) := by decide +kernel
theorem dX5_digest_181 : decode cX5_digest 181 = .ok (.iload_n 3, 1) := by decide +kernel
theorem dX5_digest_182 : decode cX5_digest 182 = .ok (.iload 4, 2) := by decide +kernel
theorem dX5_digest_184 : decode cX5_digest 184 = .ok (.invokevirtual 231, 3) := by decide +kernel
theorem dX5_digest_187 : decode cX5_digest 187 = .ok (.i2l, 1) := by decide +kernel
theorem dX5_digest_188 : decode cX5_digest 188 = .ok (.ladd, 1) := by decide +kernel
theorem dX5_digest_189 : decode cX5_digest 189 = .ok (.lstore_n 1, 1) := by decide +kernel
theorem dX5_digest_190 : decode cX5_digest 190 = .ok (.iinc 4 1, 3) := by decide +kernel
theorem dX5_digest_193 : decode cX5_digest 193 = .ok (.goto (-24), 3) := by decide +kernel
theorem dX5_digest_196 : decode cX5_digest 196 = .ok (.ldc2_w 250, 3) := by decide +kernel
theorem dX5_digest_199 : decode cX5_digest 199 = .ok (.ldc2_w 250, 3) := by decide +kernel
theorem dX5_digest_202 : decode cX5_digest 202 = .ok (.lload_n 1, 1) := by decide +kernel
theorem dX5_digest_203 : decode cX5_digest 203 = .ok (.lmul, 1) := by decide +kernel
theorem dX5_digest_204 : decode cX5_digest 204 = .ok (.aload_n 0, 1) := by decide +kernel
theorem dX5_digest_205 : decode cX5_digest 205 = .ok (.iload_n 3, 1) := by decide +kernel
theorem dX5_digest_206 : decode cX5_digest 206 = .ok (.invokevirtual 238, 3) := by decide +kernel
theorem dX5_digest_209 : decode cX5_digest 209 = .ok (.i2l, 1) := by decide +kernel
theorem dX5_digest_210 : decode cX5_digest 210 = .ok (.ladd, 1) := by decide +kernel
theorem dX5_digest_211 : decode cX5_digest 211 = .ok (.lmul, 1) := by decide +kernel
theorem dX5_digest_212 : decode cX5_digest 212 = .ok (.aload_n 0, 1) := by decide +kernel
theorem dX5_digest_213 : decode cX5_digest 213 = .ok (.iload_n 3, 1) := by decide +kernel
theorem dX5_digest_214 : decode cX5_digest 214 = .ok (.invokevirtual 244, 3) := by decide +kernel
theorem dX5_digest_217 : decode cX5_digest 217 = .ok (.invokestatic 252, 3) := by decide +kernel
theorem dX5_digest_220 : decode cX5_digest 220 = .ok (.ladd, 1) := by decide +kernel
theorem dX5_digest_221 : decode cX5_digest 221 = .ok (.lstore_n 1, 1) := by decide +kernel
theorem dX5_digest_222 : decode cX5_digest 222 = .ok (.iinc 3 1, 3) := by decide +kernel
theorem dX5_digest_225 : decode cX5_digest 225 = .ok (.goto (-180), 3) := by decide +kernel
theorem dX5_digest_228 : decode cX5_digest 228 = .ok (.ldc2_w 250, 3) := by decide +kernel
theorem dX5_digest_231 : decode cX5_digest 231 = .ok (.lload_n 1, 1) := by decide +kernel
theorem dX5_digest_232 : decode cX5_digest 232 = .ok (.lmul, 1) := by decide +kernel
theorem dX5_digest_233 : decode cX5_digest 233 = .ok (.aload_n 0, 1) := by decide +kernel
theorem dX5_digest_234 : decode cX5_digest 234 = .ok (.invokevirtual 241, 3) := by decide +kernel
theorem dX5_digest_237 : decode cX5_digest 237 = .ok (.i2l, 1) := by decide +kernel
theorem dX5_digest_238 : decode cX5_digest 238 = .ok (.ladd, 1) := by decide +kernel
theorem dX5_digest_239 : decode cX5_digest 239 = .ok (.lstore_n 1, 1) := by decide +kernel
theorem dX5_digest_240 : decode cX5_digest 240 = .ok (.iconst 0, 1) := by decide +kernel
theorem dX5_digest_241 : decode cX5_digest 241 = .ok (.istore_n 3, 1) := by decide +kernel
theorem dX5_digest_242 : decode cX5_digest 242 = .ok (.iload_n 3, 1) := by decide +kernel
theorem dX5_digest_243 : decode cX5_digest 243 = .ok (.bipush 9, 2) := by decide +kernel
theorem dX5_digest_245 : decode cX5_digest 245 = .ok (.if_icmp .ge 22, 3) := by decide +kernel
theorem dX5_digest_248 : decode cX5_digest 248 = .ok (.ldc2_w 250, 3) := by decide +kernel
theorem dX5_digest_251 : decode cX5_digest 251 = .ok (.lload_n 1, 1) := by decide +kernel
theorem dX5_digest_252 : decode cX5_digest 252 = .ok (.lmul, 1) := by decide +kernel
theorem dX5_digest_253 : decode cX5_digest 253 = .ok (.aload_n 0, 1) := by decide +kernel
theorem dX5_digest_254 : decode cX5_digest 254 = .ok (.iload_n 3, 1) := by decide +kernel
theorem dX5_digest_255 : decode cX5_digest 255 = .ok (.invokevirtual 207, 3) := by decide +kernel
theorem dX5_digest_258 : decode cX5_digest 258 = .ok (.i2l, 1) := by decide +kernel
theorem dX5_digest_259 : decode cX5_digest 259 = .ok (.ladd, 1) := by decide +kernel
theorem dX5_digest_260 : decode cX5_digest 260 = .ok (.lstore_n 1, 1) := by decide +kernel
theorem dX5_digest_261 : decode cX5_digest 261 = .ok (.iinc 3 1, 3) := by decide +kernel
theorem dX5_digest_264 : decode cX5_digest 264 = .ok (.goto (-22), 3) := by decide +kernel
theorem dX5_digest_267 : decode cX5_digest 267 = .ok (.iconst 0, 1) := by decide +kernel
theorem dX5_digest_268 : decode cX5_digest 268 = .ok (.istore_n 3, 1) := by decide +kernel
theorem dX5_digest_269 : decode cX5_digest 269 = .ok (.iload_n 3, 1) := by decide +kernel
theorem dX5_digest_270 : decode cX5_digest 270 = .ok (.aload_n 0, 1) := by decide +kernel
theorem dX5_digest_271 : decode cX5_digest 271 = .ok (.getfield 71, 3) := by decide +kernel
theorem dX5_digest_274 : decode cX5_digest 274 = .ok (.if_icmp .ge 23, 3) := by decide +kernel
theorem dX5_digest_277 : decode cX5_digest 277 = .ok (.ldc2_w 250, 3) := by decide +kernel
theorem dX5_digest_280 : decode cX5_digest 280 = .ok (.lload_n 1, 1) := by decide +kernel
theorem dX5_digest_281 : decode cX5_digest 281 = .ok (.lmul, 1) := by decide +kernel
theorem dX5_digest_282 : decode cX5_digest 282 = .ok (.aload_n 0, 1) := by decide +kernel
theorem dX5_digest_283 : decode cX5_digest 283 = .ok (.getfield 16, 3) := by decide +kernel
theorem dX5_digest_286 : decode cX5_digest 286 = .ok (.iload_n 3, 1) := by decide +kernel
theorem dX5_digest_287 : decode cX5_digest 287 = .ok (.iaload, 1) := by decide +kernel
theorem dX5_digest_288 : decode cX5_digest 288 = .ok (.i2l, 1) := by decide +kernel
theorem dX5_digest_289 : decode cX5_digest 289 = .ok (.ladd, 1) := by decide +kernel
theorem dX5_digest_290 : decode cX5_digest 290 = .ok (.lstore_n 1, 1) := by decide +kernel
theorem dX5_digest_291 : decode cX5_digest 291 = .ok (.iinc 3 1, 3) := by decide +kernel
theorem dX5_digest_294 : decode cX5_digest 294 = .ok (.goto (-25), 3) := by decide +kernel
theorem dX5_digest_297 : decode cX5_digest 297 = .ok (.lload_n 1, 1) := by decide +kernel
theorem dX5_digest_298 : decode cX5_digest 298 = .ok (.lreturn, 1) := by decide +kernel
theorem dJxe99ae_isNaN_b9ae7_0 : decode cJxe99ae_isNaN_b9ae7 0 = .ok (.dload_n 0, 1) := by decide +kernel
theorem dJxe99ae_isNaN_b9ae7_1 : decode cJxe99ae_isNaN_b9ae7 1 = .ok (.dload_n 0, 1) := by decide +kernel
theorem dJxe99ae_isNaN_b9ae7_2 : decode cJxe99ae_isNaN_b9ae7 2 = .ok (.dcmp .l, 1) := by decide +kernel
theorem dJxe99ae_isNaN_b9ae7_3 : decode cJxe99ae_isNaN_b9ae7 3 = .ok (.ifCond .eq 7, 3) := by decide +kernel
theorem dJxe99ae_isNaN_b9ae7_6 : decode cJxe99ae_isNaN_b9ae7 6 = .ok (.iconst 1, 1) := by decide +kernel
