theorem dX4_forget_10 : decode cX4_forget 10 = .ok (.dup, 1) := by decide +kernel
theorem dX4_forget_11 : decode cX4_forget 11 = .ok (.ldc 51, 2) := by decide +kernel
theorem dX4_forget_13 : decode cX4_forget 13 = .ok (.invokespecial 53, 3) := by decide +kernel
theorem dX4_forget_16 : decode cX4_forget 16 = .ok (.athrow, 1) := by decide +kernel
theorem dX4_forget_17 : decode cX4_forget 17 = .ok (.aload_n 0, 1) := by decide +kernel
theorem dX4_forget_18 : decode cX4_forget 18 = .ok (.invokevirtual 86, 3) := by decide +kernel
theorem dX4_forget_21 : decode cX4_forget 21 = .ok (.aload_n 0, 1) := by decide +kernel
theorem dX4_forget_22 : decode cX4_forget 22 = .ok (.getfield 23, 3) := by decide +kernel
theorem dX4_forget_25 : decode cX4_forget 25 = .ok (.iload_n 1, 1) := by decide +kernel
theorem dX4_forget_26 : decode cX4_forget 26 = .ok (.invokevirtual 69, 3) := by decide +kernel
theorem dX4_forget_29 : decode cX4_forget 29 = .ok (.astore_n 2, 1) := by decide +kernel
theorem dX4_forget_30 : decode cX4_forget 30 = .ok (.aload_n 2, 1) := by decide +kernel
theorem dX4_forget_31 : decode cX4_forget 31 = .ok (.getfield 92, 3) := by decide +kernel
theorem dX4_forget_34 : decode cX4_forget 34 = .ok (.istore_n 3, 1) := by decide +kernel
theorem dX4_forget_35 : decode cX4_forget 35 = .ok (.aload_n 2, 1) := by decide +kernel
theorem dX4_forget_36 : decode cX4_forget 36 = .ok (.invokevirtual 101, 3) := by decide +kernel
theorem dX4_forget_39 : decode cX4_forget 39 = .ok (.iload_n 3, 1) := by decide +kernel
theorem dX4_forget_40 : decode cX4_forget 40 = .ok (.ireturn, 1) := by decide +kernel
set_option maxRecDepth 20000 in
theorem ggX4_swap_X4_saveState : GoodIn wsX4_swap wsX4_saveState := goodIn_r _ [10, 11, 12, 2, 13, 14, 15, 9, 16, 17, 18, 19, 20, 21, 22, 23, 24, 25, 26, 27, 28, 29, 30, 31, 32, 33, 34, 35, 36, 37, 38, 39, 40, 41, 42, 43, 45, 46, 47, 48, 49, 50, 51, 52, 53, 54, 55, 56, 57, 58] (by decide +kernel) (by decide +kernel)
set_option maxRecDepth 20000 in
theorem gX4_swap_X4_saveState : GoodIn wsX4_swap (wsV RX4 86 RX4 yX4_saveState wsX4_saveState) := goodIn_app (goodIn_of _ (by decide +kernel)) ggX4_swap_X4_saveState
set_option maxRecDepth 20000 in
theorem ggX4_swap_X3_copyFrom : GoodIn wsX4_swap wsX3_copyFrom := goodIn_r _ [33, 34, 35, 36, 37, 38, 32, 39, 40, 41, 42, 43, 56, 57, 58] (by decide +kernel) (by decide +kernel)
set_option maxRecDepth 20000 in
theorem gX4_swap_X3_copyFrom : GoodIn wsX4_swap (wsV RX4 107 RX3 yX3_copyFrom wsX3_copyFrom) := goodIn_app (goodIn_of _ (by decide +kernel)) ggX4_swap_X3_copyFrom
theorem dX4_swap_0 : decode cX4_swap 0 = .ok (.aload_n 0, 1) := by decide +kernel
theorem dX4_swap_1 : decode cX4_swap 1 = .ok (.invokevirtual 86, 3) := by decide +kernel
theorem dX4_swap_4 : decode cX4_swap 4 = .ok (.aload_n 0, 1) := by decide +kernel
theorem dX4_swap_5 : decode cX4_swap 5 = .ok (.getfield 34, 3) := by decide +kernel
theorem dX4_swap_8 : decode cX4_swap 8 = .ok (.aload_n 0, 1) := by decide +kernel
theorem dX4_swap_9 : decode cX4_swap 9 = .ok (.getfield 23, 3) := by decide +kernel
theorem dX4_swap_12 : decode cX4_swap 12 = .ok (.getfield 104, 3) := by decide +kernel
theorem dX4_swap_15 : decode cX4_swap 15 = .ok (.invokevirtual 107, 3) := by decide +kernel
theorem dX4_swap_18 : decode cX4_swap 18 = .ok (.aload_n 0, 1) := by decide +kernel
theorem dX4_swap_19 : decode cX4_swap 19 = .ok (.getfield 23, 3) := by decide +kernel
theorem dX4_swap_22 : decode cX4_swap 22 = .ok (.getfield 104, 3) := by decide +kernel
theorem dX4_swap_25 : decode cX4_swap 25 = .ok (.aload_n 0, 1) := by decide +kernel
theorem dX4_swap_26 : decode cX4_swap 26 = .ok (.getfield 23, 3) := by decide +kernel
theorem dX4_swap_29 : decode cX4_swap 29 = .ok (.getfield 110, 3) := by decide +kernel
theorem dX4_swap_32 : decode cX4_swap 32 = .ok (.invokevirtual 107, 3) := by decide +kernel
theorem dX4_swap_35 : decode cX4_swap 35 = .ok (.aload_n 0, 1) := by decide +kernel
theorem dX4_swap_36 : decode cX4_swap 36 = .ok (.getfield 23, 3) := by decide +kernel
theorem dX4_swap_39 : decode cX4_swap 39 = .ok (.getfield 110, 3) := by decide +kernel
theorem dX4_swap_42 : decode cX4_swap 42 = .ok (.aload_n 0, 1) := by decide +kernel
theorem dX4_swap_43 : decode cX4_swap 43 = .ok (.getfield 34, 3) := by decide +kernel
theorem dX4_swap_46 : decode cX4_swap 46 = .ok (.invokevirtual 107, 3) := by decide +kernel
theorem dX4_swap_49 : decode cX4_swap 49 = .ok (.aload_n 0, 1) := by decide +kernel
theorem dX4_swap_50 : decode cX4_swap 50 = .ok (.getfield 23, 3) := by decide +kernel
theorem dX4_swap_53 : decode cX4_swap 53 = .ok (.getfield 104, 3) := by decide +kernel
theorem dX4_swap_56 : decode cX4_swap 56 = .ok (.getfield 92, 3) := by decide +kernel
theorem dX4_swap_59 : decode cX4_swap 59 = .ok (.ireturn, 1) := by decide +kernel
set_option maxRecDepth 20000 in
theorem ggX4_set_X4_saveState : GoodIn wsX4_set wsX4_saveState := goodIn_r _ [9, 10, 11, 3, 12, 13, 14, 8, 15, 16, 17, 18, 19, 20, 21, 22, 23, 24, 25, 26, 27, 28, 29, 30, 31, 32, 33, 34, 35, 36, 37, 38, 39, 40, 41, 42, 43, 44, 45, 46, 47, 48, 49, 50, 51, 52, 53, 54, 55, 56] (by decide +kernel) (by decide +kernel)
set_option maxRecDepth 20000 in
theorem gX4_set_X4_saveState : GoodIn wsX4_set (wsV RX4 86 RX4 yX4_saveState wsX4_saveState) := goodIn_app (goodIn_of _ (by decide +kernel)) ggX4_set_X4_saveState
theorem dX4_set_0 : decode cX4_set 0 = .ok (.iload_n 1, 1) := by decide +kernel
theorem dX4_set_1 : decode cX4_set 1 = .ok (.ifCond .lt 8, 3) := by decide +kernel
theorem dX4_set_4 : decode cX4_set 4 = .ok (.iload_n 1, 1) := by decide +kernel
theorem dX4_set_5 : decode cX4_set 5 = .ok (.iconst 1, 1) := by decide +kernel
theorem dX4_set_6 : decode cX4_set 6 = .ok (.if_icmp .le 13, 3) := by decide +kernel
theorem dX4_set_9 : decode cX4_set 9 = .ok (.new 64, 3) := by decide +kernel
theorem dX4_set_12 : decode cX4_set 12 = .ok (.dup, 1) := by decide +kernel
theorem dX4_set_13 : decode cX4_set 13 = .ok (.ldc 113, 2) := by decide +kernel
theorem dX4_set_15 : decode cX4_set 15 = .ok (.invokespecial 68, 3) := by decide +kernel
theorem dX4_set_18 : decode cX4_set 18 = .ok (.athrow, 1) := by decide +kernel
theorem dX4_set_19 : decode cX4_set 19 = .ok (.aload_n 0, 1) := by decide +kernel
theorem dX4_set_20 : decode cX4_set 20 = .ok (.invokevirtual 86, 3) := by decide +kernel
theorem dX4_set_23 : decode cX4_set 23 = .ok (.aload_n 0, 1) := by decide +kernel
theorem dX4_set_24 : decode cX4_set 24 = .ok (.getfield 23, 3) := by decide +kernel
theorem dX4_set_27 : decode cX4_set 27 = .ok (.getfield 115, 3) := by decide +kernel
theorem dX4_set_30 : decode cX4_set 30 = .ok (.istore_n 2, 1) := by decide +kernel
theorem dX4_set_31 : decode cX4_set 31 = .ok (.aload_n 0, 1) := by decide +kernel
theorem dX4_set_32 : decode cX4_set 32 = .ok (.getfield 23, 3) := by decide +kernel
theorem dX4_set_35 : decode cX4_set 35 = .ok (.iload_n 1, 1) := by decide +kernel
theorem dX4_set_36 : decode cX4_set 36 = .ok (.putfield 115, 3) := by decide +kernel
theorem dX4_set_39 : decode cX4_set 39 = .ok (.iload_n 2, 1) := by decide +kernel
theorem dX4_set_40 : decode cX4_set 40 = .ok (.ireturn, 1) := by decide +kernel
theorem dX4_append_0 : decode cX4_append 0 = .ok (.iload_n 1, 1) := by decide +kernel
theorem dX4_append_1 : decode cX4_append 1 = .ok (.bipush 33, 2) := by decide +kernel
theorem dX4_append_3 : decode cX4_append 3 = .ok (.if_icmp .lt 9, 3) := by decide +kernel
theorem dX4_append_6 : decode cX4_append 6 = .ok (.iload_n 1, 1) := by decide +kernel
theorem dX4_append_7 : decode cX4_append 7 = .ok (.bipush 126, 2) := by decide +kernel
theorem dX4_append_9 : decode cX4_append 9 = .ok (.if_icmp .le 13, 3) := by decide +kernel
theorem dX4_append_12 : decode cX4_append 12 = .ok (.new 64, 3) := by decide +kernel
theorem dX4_append_15 : decode cX4_append 15 = .ok (.dup, 1) := by decide +kernel
theorem dX4_append_16 : decode cX4_append 16 = .ok (.ldc 118, 2) := by decide +kernel
theorem dX4_append_18 : decode cX4_append 18 = .ok (.invokespecial 68, 3) := by decide +kernel
theorem dX4_append_21 : decode cX4_append 21 = .ok (.athrow, 1) := by decide +kernel
theorem dX4_append_22 : decode cX4_append 22 = .ok (.aload_n 0, 1) := by decide +kernel
theorem dX4_append_23 : decode cX4_append 23 = .ok (.getfield 56, 3) := by decide +kernel
theorem dX4_append_26 : decode cX4_append 26 = .ok (.ifCond .lt 15, 3) := by decide +kernel
theorem dX4_append_29 : decode cX4_append 29 = .ok (.aload_n 0, 1) := by decide +kernel
theorem dX4_append_30 : decode cX4_append 30 = .ok (.getfield 56, 3) := by decide +kernel
theorem dX4_append_33 : decode cX4_append 33 = .ok (.aload_n 0, 1) := by decide +kernel
theorem dX4_append_34 : decode cX4_append 34 = .ok (.getfield 9, 3) := by decide +kernel
theorem dX4_append_37 : decode cX4_append 37 = .ok (.arraylength, 1) := by decide +kernel
theorem dX4_append_38 : decode cX4_append 38 = .ok (.if_icmp .lt 13, 3) := by decide +kernel
theorem dX4_append_41 : decode cX4_append 41 = .ok (.new 81, 3) := by decide +kernel
theorem dX4_append_44 : decode cX4_append 44 = .ok (.dup, 1) := by decide +kernel
theorem dX4_append_45 : decode cX4_append 45 = .ok (.ldc 120, 2) := by decide +kernel
theorem dX4_append_47 : decode cX4_append 47 = .ok (.invokespecial 85, 3) := by decide +kernel
theorem dX4_append_50 : decode cX4_append 50 = .ok (.athrow, 1) := by decide +kernel
theorem dX4_append_51 : decode cX4_append 51 = .ok (.aload_n 0, 1) := by decide +kernel
theorem dX4_append_52 : decode cX4_append 52 = .ok (.getfield 9, 3) := by decide +kernel
theorem dX4_append_55 : decode cX4_append 55 = .ok (.aload_n 0, 1) := by decide +kernel
theorem dX4_append_56 : decode cX4_append 56 = .ok (.getfield 56, 3) := by decide +kernel
theorem dX4_append_59 : decode cX4_append 59 = .ok (.iload_n 1, 1) := by decide +kernel
theorem dX4_append_60 : decode cX4_append 60 = .ok (.iastore, 1) := by decide +kernel
theorem dX4_append_61 : decode cX4_append 61 = .ok (.aload_n 0, 1) := by decide +kernel
theorem dX4_append_62 : decode cX4_append 62 = .ok (.dup, 1) := by decide +kernel
theorem dX4_append_63 : decode cX4_append 63 = .ok (.getfield 56, 3) := by decide +kernel
theorem dX4_append_66 : decode cX4_append 66 = .ok (.iconst 1, 1) := by decide +kernel
theorem dX4_append_67 : decode cX4_append 67 = .ok (.iadd, 1) := by decide +kernel
theorem dX4_append_68 : decode cX4_append 68 = .ok (.putfield 56, 3) := by decide +kernel
theorem dX4_append_71 : decode cX4_append 71 = .ok (.aload_n 0, 1) := by decide +kernel
theorem dX4_append_72 : decode cX4_append 72 = .ok (.getfield 56, 3) := by decide +kernel
theorem dX4_append_75 : decode cX4_append 75 = .ok (.ireturn, 1) := by decide +kernel
theorem dX4_clearBuffer_0 : decode cX4_clearBuffer 0 = .ok (.aload_n 0, 1) := by decide +kernel
theorem dX4_clearBuffer_1 : decode cX4_clearBuffer 1 = .ok (.getfield 56, 3) := by decide +kernel
theorem dX4_clearBuffer_4 : decode cX4_clearBuffer 4 = .ok (.istore_n 1, 1) := by decide +kernel
theorem dX4_clearBuffer_5 : decode cX4_clearBuffer 5 = .ok (.aload_n 0, 1) := by decide +kernel
theorem dX4_clearBuffer_6 : decode cX4_clearBuffer 6 = .ok (.iconst 0, 1) := by decide +kernel
theorem dX4_clearBuffer_7 : decode cX4_clearBuffer 7 = .ok (.putfield 56, 3) := by decide +kernel
theorem dX4_clearBuffer_10 : decode cX4_clearBuffer 10 = .ok (.iload_n 1, 1) := by decide +kernel
theorem dX4_clearBuffer_11 : decode cX4_clearBuffer 11 = .ok (.ireturn, 1) := by decide +kernel
set_option maxRecDepth 20000 in
theorem ggX4_firstError_X1_read : GoodIn wsX4_firstError wsX1_read := goodIn_r _ [8, 9, 10, 11, 12, 13, 14, 15, 16, 17, 18, 19, 20, 21, 22, 23, 24, 25, 7, 26, 27, 28, 29, 30, 31, 32, 33, 34, 35, 36, 37, 38, 39, 40, 41, 42, 43, 44, 45, 46, 47, 48, 49, 50, 51, 52, 53, 54, 55, 56, 57, 58, 59, 60, 61, 62, 63, 64, 65, 66, 67, 68, 69, 70, 71, 72, 73, 74, 75, 76, 77, 78, 79, 80, 81, 82, 83, 84, 85, 86, 87, 88, 89, 90, 91, 92, 93, 94, 95, 104, 105, 106, 107, 108, 109, 110, 111, 112, 113] (by decide +kernel) (by decide +kernel)
set_option maxRecDepth 20000 in
theorem gX4_firstError_X1_read : GoodIn wsX4_firstError (wsV RX4 60 RX1 yX1_read wsX1_read) := goodIn_app (goodIn_of _ (by decide +kernel)) ggX4_firstError_X1_read
theorem dX4_firstError_0 : decode cX4_firstError 0 = .ok (.aload_n 0, 1) := by decide +kernel
theorem dX4_firstError_1 : decode cX4_firstError 1 = .ok (.getfield 16, 3) := by decide +kernel
theorem dX4_firstError_4 : decode cX4_firstError 4 = .ok (.aload_n 0, 1) := by decide +kernel
theorem dX4_firstError_5 : decode cX4_firstError 5 = .ok (.getfield 9, 3) := by decide +kernel
theorem dX4_firstError_8 : decode cX4_firstError 8 = .ok (.aload_n 0, 1) := by decide +kernel
theorem dX4_firstError_9 : decode cX4_firstError 9 = .ok (.getfield 56, 3) := by decide +kernel
theorem dX4_firstError_12 : decode cX4_firstError 12 = .ok (.invokevirtual 60, 3) := by decide +kernel
theorem dX4_firstError_15 : decode cX4_firstError 15 = .ok (.pop, 1) := by decide +kernel
theorem dX4_firstError_16 : decode cX4_firstError 16 = .ok (.aload_n 0, 1) := by decide +kernel
theorem dX4_firstError_17 : decode cX4_firstError 17 = .ok (.getfield 16, 3) := by decide +kernel
theorem dX4_firstError_20 : decode cX4_firstError 20 = .ok (.getfield 122, 3) := by decide +kernel
theorem dX4_firstError_23 : decode cX4_firstError 23 = .ok (.ireturn, 1) := by decide +kernel
set_option maxRecDepth 20000 in
theorem ggX4_undo_X4_savedAt : GoodIn wsX4_undo wsX4_savedAt := goodIn_r _ [9, 10, 34, 35, 36, 37, 38, 39, 40, 41] (by decide +kernel) (by decide +kernel)
set_option maxRecDepth 20000 in
theorem gX4_undo_X4_savedAt : GoodIn wsX4_undo (wsV RX4 128 RX4 yX4_savedAt wsX4_savedAt) := goodIn_app (goodIn_of _ (by decide +kernel)) ggX4_undo_X4_savedAt
set_option maxRecDepth 20000 in
theorem ggX4_undo_X2_copyFrom : GoodIn wsX4_undo wsX2_copyFrom := goodIn_r _ [15, 16, 17, 18, 19, 20, 21, 22, 23, 24, 25, 26, 27, 28, 29, 30, 31, 32, 33, 42, 43, 44, 45, 46, 47] (by decide +kernel) (by decide +kernel)
set_option maxRecDepth 20000 in
theorem gX4_undo_X2_copyFrom : GoodIn wsX4_undo (wsV RX4 134 RX2 yX2_copyFrom wsX2_copyFrom) := goodIn_app (goodIn_of _ (by decide +kernel)) ggX4_undo_X2_copyFrom
theorem dX4_undo_0 : decode cX4_undo 0 = .ok (.aload_n 0, 1) := by decide +kernel
theorem dX4_undo_1 : decode cX4_undo 1 = .ok (.aload_n 0, 1) := by decide +kernel
theorem dX4_undo_2 : decode cX4_undo 2 = .ok (.getfield 125, 3) := by decide +kernel
theorem dX4_undo_5 : decode cX4_undo 5 = .ok (.iconst 1, 1) := by decide +kernel
theorem dX4_undo_6 : decode cX4_undo 6 = .ok (.isub, 1) := by decide +kernel
theorem dX4_undo_7 : decode cX4_undo 7 = .ok (.invokevirtual 128, 3) := by decide +kernel
theorem dX4_undo_10 : decode cX4_undo 10 = .ok (.astore_n 1, 1) := by decide +kernel
theorem dX4_undo_11 : decode cX4_undo 11 = .ok (.aload_n 0, 1) := by decide +kernel
theorem dX4_undo_12 : decode cX4_undo 12 = .ok (.getfield 125, 3) := by decide +kernel
theorem dX4_undo_15 : decode cX4_undo 15 = .ok (.ifCond .le 7, 3) := by decide +kernel
theorem dX4_undo_18 : decode cX4_undo 18 = .ok (.aload_n 1, 1) := by decide +kernel
theorem dX4_undo_19 : decode cX4_undo 19 = .ok (.ifnonnull 13, 3) := by decide +kernel
theorem dX4_undo_22 : decode cX4_undo 22 = .ok (.new 81, 3) := by decide +kernel
theorem dX4_undo_25 : decode cX4_undo 25 = .ok (.dup, 1) := by decide +kernel
theorem dX4_undo_26 : decode cX4_undo 26 = .ok (.ldc 132, 2) := by decide +kernel
theorem dX4_undo_28 : decode cX4_undo 28 = .ok (.invokespecial 85, 3) := by decide +kernel
theorem dX4_undo_31 : decode cX4_undo 31 = .ok (.athrow, 1) := by decide +kernel
theorem dX4_undo_32 : decode cX4_undo 32 = .ok (.aload_n 0, 1) := by decide +kernel
theorem dX4_undo_33 : decode cX4_undo 33 = .ok (.getfield 23, 3) := by decide +kernel
theorem dX4_undo_36 : decode cX4_undo 36 = .ok (.aload_n 1, 1) := by decide +kernel
theorem dX4_undo_37 : decode cX4_undo 37 = .ok (.invokevirtual 134, 3) := by decide +kernel
theorem dX4_undo_40 : decode cX4_undo 40 = .ok (.aload_n 0, 1) := by decide +kernel
theorem dX4_undo_41 : decode cX4_undo 41 = .ok (.dup, 1) := by decide +kernel
theorem dX4_undo_42 : decode cX4_undo 42 = .ok (.getfield 125, 3) := by decide +kernel
theorem dX4_undo_45 : decode cX4_undo 45 = .ok (.iconst 1, 1) := by decide +kernel
theorem dX4_undo_46 : decode cX4_undo 46 = .ok (.isub, 1) := by decide +kernel
theorem dX4_undo_47 : decode cX4_undo 47 = .ok (.putfield 125, 3) := by decide +kernel
theorem dX4_undo_50 : decode cX4_undo 50 = .ok (.aload_n 0, 1) := by decide +kernel
theorem dX4_undo_51 : decode cX4_undo 51 = .ok (.getfield 125, 3) := by decide +kernel
theorem dX4_undo_54 : decode cX4_undo 54 = .ok (.ireturn, 1) := by decide +kernel
set_option maxRecDepth 20000 in
theorem ggX4_node_X4_isShape : GoodIn wsX4_node wsX4_isShape := goodIn_r _ [9] (by decide +kernel) (by decide +kernel)
set_option maxRecDepth 20000 in
theorem gX4_node_X4_isShape : GoodIn wsX4_node (va_wsS RX4 45 yX4_isShape wsX4_isShape) := goodIn_app (goodIn_of _ (by decide +kernel)) ggX4_node_X4_isShape
set_option maxRecDepth 20000 in
theorem ggX4_node_X2_tree : GoodIn wsX4_node wsX2_tree := goodIn_r _ [14, 15, 16, 52, 53, 54] (by decide +kernel) (by decide +kernel)
set_option maxRecDepth 20000 in
theorem gX4_node_X2_tree : GoodIn wsX4_node (wsV RX4 69 RX2 yX2_tree wsX2_tree) := goodIn_app (goodIn_of _ (by decide +kernel)) ggX4_node_X2_tree
set_option maxRecDepth 20000 in
theorem ggX4_node_X3_has : GoodIn wsX4_node wsX3_has := goodIn_r _ [21, 22, 55, 56, 57] (by decide +kernel) (by decide +kernel)
set_option maxRecDepth 20000 in
theorem gX4_node_X3_has : GoodIn wsX4_node (wsV RX4 137 RX3 yX3_has wsX3_has) := goodIn_app (goodIn_of _ (by decide +kernel)) ggX4_node_X3_has
set_option maxRecDepth 20000 in
theorem ggX4_node_X4_nodeNumber : GoodIn wsX4_node wsX4_nodeNumber := goodIn_r _ [25, 26, 27, 28, 20, 29, 22, 30, 31, 32, 33, 34, 35, 36, 37, 38, 39, 40, 41, 42, 43, 55, 56, 57] (by decide +kernel) (by decide +kernel)
set_option maxRecDepth 20000 in
theorem gX4_node_X4_nodeNumber : GoodIn wsX4_node (va_wsS RX4 144 yX4_nodeNumber wsX4_nodeNumber) := goodIn_app (goodIn_of _ (by decide +kernel)) ggX4_node_X4_nodeNumber
theorem dX4_node_0 : decode cX4_node 0 = .ok (.iload_n 1, 1) := by decide +kernel
theorem dX4_node_1 : decode cX4_node 1 = .ok (.invokestatic 45, 3) := by decide +kernel
theorem dX4_node_4 : decode cX4_node 4 = .ok (.ifCond .eq 18, 3) := by decide +kernel
theorem dX4_node_7 : decode cX4_node 7 = .ok (.aload_n 0, 1) := by decide +kernel
theorem dX4_node_8 : decode cX4_node 8 = .ok (.getfield 23, 3) := by decide +kernel
theorem dX4_node_11 : decode cX4_node 11 = .ok (.iload_n 1, 1) := by decide +kernel
theorem dX4_node_12 : decode cX4_node 12 = .ok (.invokevirtual 69, 3) := by decide +kernel
theorem dX4_node_15 : decode cX4_node 15 = .ok (.iload_n 2, 1) := by decide +kernel
theorem dX4_node_16 : decode cX4_node 16 = .ok (.invokevirtual 137, 3) := by decide +kernel
theorem dX4_node_19 : decode cX4_node 19 = .ok (.ifCond .ne 13, 3) := by decide +kernel
theorem dX4_node_22 : decode cX4_node 22 = .ok (.new 49, 3) := by decide +kernel
theorem dX4_node_25 : decode cX4_node 25 = .ok (.dup, 1) := by decide +kernel
theorem dX4_node_26 : decode cX4_node 26 = .ok (.ldc 140, 2) := by decide +kernel
theorem dX4_node_28 : decode cX4_node 28 = .ok (.invokespecial 53, 3) := by decide +kernel
theorem dX4_node_31 : decode cX4_node 31 = .ok (.athrow, 1) := by decide +kernel
theorem dX4_node_32 : decode cX4_node 32 = .ok (.iload_n 3, 1) := by decide +kernel
theorem dX4_node_33 : decode cX4_node 33 = .ok (.ifCond .lt 9, 3) := by decide +kernel
theorem dX4_node_36 : decode cX4_node 36 = .ok (.iload_n 3, 1) := by decide +kernel
theorem dX4_node_37 : decode cX4_node 37 = .ok (.bipush 9, 2) := by decide +kernel
theorem dX4_node_39 : decode cX4_node 39 = .ok (.if_icmp .le 13, 3) := by decide +kernel
theorem dX4_node_42 : decode cX4_node 42 = .ok (.new 64, 3) := by decide +kernel
theorem dX4_node_45 : decode cX4_node 45 = .ok (.dup, 1) := by decide +kernel
theorem dX4_node_46 : decode cX4_node 46 = .ok (.ldc 142, 2) := by decide +kernel
theorem dX4_node_48 : decode cX4_node 48 = .ok (.invokespecial 68, 3) := by decide +kernel
theorem dX4_node_51 : decode cX4_node 51 = .ok (.athrow, 1) := by decide +kernel
theorem dX4_node_52 : decode cX4_node 52 = .ok (.aload_n 0, 1) := by decide +kernel
theorem dX4_node_53 : decode cX4_node 53 = .ok (.getfield 23, 3) := by decide +kernel
theorem dX4_node_56 : decode cX4_node 56 = .ok (.iload_n 1, 1) := by decide +kernel
theorem dX4_node_57 : decode cX4_node 57 = .ok (.invokevirtual 69, 3) := by decide +kernel
theorem dX4_node_60 : decode cX4_node 60 = .ok (.iload_n 2, 1) := by decide +kernel
theorem dX4_node_61 : decode cX4_node 61 = .ok (.iload_n 3, 1) := by decide +kernel
theorem dX4_node_62 : decode cX4_node 62 = .ok (.invokestatic 144, 3) := by decide +kernel
theorem dX4_node_65 : decode cX4_node 65 = .ok (.ireturn, 1) := by decide +kernel
set_option maxRecDepth 20000 in
theorem ggX4_child_X4_isShape : GoodIn wsX4_child wsX4_isShape := goodIn_r _ [9] (by decide +kernel) (by decide +kernel)
set_option maxRecDepth 20000 in
theorem gX4_child_X4_isShape : GoodIn wsX4_child (va_wsS RX4 45 yX4_isShape wsX4_isShape) := goodIn_app (goodIn_of _ (by decide +kernel)) ggX4_child_X4_isShape
set_option maxRecDepth 20000 in
theorem ggX4_child_X2_tree : GoodIn wsX4_child wsX2_tree := goodIn_r _ [14, 15, 16, 41, 42, 43] (by decide +kernel) (by decide +kernel)
set_option maxRecDepth 20000 in
theorem gX4_child_X2_tree : GoodIn wsX4_child (wsV RX4 69 RX2 yX2_tree wsX2_tree) := goodIn_app (goodIn_of _ (by decide +kernel)) ggX4_child_X2_tree
set_option maxRecDepth 20000 in
theorem ggX4_child_X3_has : GoodIn wsX4_child wsX3_has := goodIn_r _ [21, 22, 44, 45, 46] (by decide +kernel) (by decide +kernel)
set_option maxRecDepth 20000 in
theorem gX4_child_X3_has : GoodIn wsX4_child (wsV RX4 137 RX3 yX3_has wsX3_has) := goodIn_app (goodIn_of _ (by decide +kernel)) ggX4_child_X3_has
set_option maxRecDepth 20000 in
theorem ggX4_child_X3_findBelow : GoodIn wsX4_child wsX3_findBelow := goodIn_r _ [26, 22, 27, 18, 19, 20, 21, 28, 29, 30, 31, 32, 44, 45, 46] (by decide +kernel) (by decide +kernel)
set_option maxRecDepth 20000 in
theorem gX4_child_X3_findBelow : GoodIn wsX4_child (wsV RX4 150 RX3 yX3_findBelow wsX3_findBelow) := goodIn_app (goodIn_of _ (by decide +kernel)) ggX4_child_X3_findBelow
theorem dX4_child_0 : decode cX4_child 0 = .ok (.iload_n 1, 1) := by decide +kernel
theorem dX4_child_1 : decode cX4_child 1 = .ok (.invokestatic 45, 3) := by decide +kernel
theorem dX4_child_4 : decode cX4_child 4 = .ok (.ifCond .eq 18, 3) := by decide +kernel
theorem dX4_child_7 : decode cX4_child 7 = .ok (.aload_n 0, 1) := by decide +kernel
theorem dX4_child_8 : decode cX4_child 8 = .ok (.getfield 23, 3) := by decide +kernel
theorem dX4_child_11 : decode cX4_child 11 = .ok (.iload_n 1, 1) := by decide +kernel
theorem dX4_child_12 : decode cX4_child 12 = .ok (.invokevirtual 69, 3) := by decide +kernel
theorem dX4_child_15 : decode cX4_child 15 = .ok (.iload_n 2, 1) := by decide +kernel
theorem dX4_child_16 : decode cX4_child 16 = .ok (.invokevirtual 137, 3) := by decide +kernel
theorem dX4_child_19 : decode cX4_child 19 = .ok (.ifCond .ne 13, 3) := by decide +kernel
theorem dX4_child_22 : decode cX4_child 22 = .ok (.new 49, 3) := by decide +kernel
theorem dX4_child_25 : decode cX4_child 25 = .ok (.dup, 1) := by decide +kernel
theorem dX4_child_26 : decode cX4_child 26 = .ok (.ldc 140, 2) := by decide +kernel
theorem dX4_child_28 : decode cX4_child 28 = .ok (.invokespecial 53, 3) := by decide +kernel
theorem dX4_child_31 : decode cX4_child 31 = .ok (.athrow, 1) := by decide +kernel
theorem dX4_child_32 : decode cX4_child 32 = .ok (.iload_n 3, 1) := by decide +kernel
theorem dX4_child_33 : decode cX4_child 33 = .ok (.ifCond .lt 9, 3) := by decide +kernel
theorem dX4_child_36 : decode cX4_child 36 = .ok (.iload_n 3, 1) := by decide +kernel
theorem dX4_child_37 : decode cX4_child 37 = .ok (.bipush 8, 2) := by decide +kernel
theorem dX4_child_39 : decode cX4_child 39 = .ok (.if_icmp .le 13, 3) := by decide +kernel
theorem dX4_child_42 : decode cX4_child 42 = .ok (.new 64, 3) := by decide +kernel
theorem dX4_child_45 : decode cX4_child 45 = .ok (.dup, 1) := by decide +kernel
theorem dX4_child_46 : decode cX4_child 46 = .ok (.ldc 148, 2) := by decide +kernel
theorem dX4_child_48 : decode cX4_child 48 = .ok (.invokespecial 68, 3) := by decide +kernel
theorem dX4_child_51 : decode cX4_child 51 = .ok (.athrow, 1) := by decide +kernel
theorem dX4_child_52 : decode cX4_child 52 = .ok (.aload_n 0, 1) := by decide +kernel
theorem dX4_child_53 : decode cX4_child 53 = .ok (.getfield 23, 3) := by decide +kernel
theorem dX4_child_56 : decode cX4_child 56 = .ok (.iload_n 1, 1) := by decide +kernel
theorem dX4_child_57 : decode cX4_child 57 = .ok (.invokevirtual 69, 3) := by decide +kernel
theorem dX4_child_60 : decode cX4_child 60 = .ok (.iload_n 2, 1) := by decide +kernel
theorem dX4_child_61 : decode cX4_child 61 = .ok (.iload_n 3, 1) := by decide +kernel
theorem dX4_child_62 : decode cX4_child 62 = .ok (.invokevirtual 150, 3) := by decide +kernel
theorem dX4_child_65 : decode cX4_child 65 = .ok (.ireturn, 1) := by decide +kernel
set_option maxRecDepth 20000 in
theorem ggX4_shape_X4_isShape : GoodIn wsX4_shape wsX4_isShape := goodIn_r _ [9] (by decide +kernel) (by decide +kernel)
set_option maxRecDepth 20000 in
theorem gX4_shape_X4_isShape : GoodIn wsX4_shape (va_wsS RX4 45 yX4_isShape wsX4_isShape) := goodIn_app (goodIn_of _ (by decide +kernel)) ggX4_shape_X4_isShape
set_option maxRecDepth 20000 in
theorem ggX4_shape_X2_tree : GoodIn wsX4_shape wsX2_tree := goodIn_r _ [14, 15, 16, 41, 42, 43] (by decide +kernel) (by decide +kernel)
set_option maxRecDepth 20000 in
theorem gX4_shape_X2_tree : GoodIn wsX4_shape (wsV RX4 69 RX2 yX2_tree wsX2_tree) := goodIn_app (goodIn_of _ (by decide +kernel)) ggX4_shape_X2_tree
set_option maxRecDepth 20000 in
theorem ggX4_shape_X4_shapeNumber : GoodIn wsX4_shape wsX4_shapeNumber := goodIn_r _ [19, 20, 21, 22, 23, 24, 25, 26, 27, 28, 29, 30, 31, 32, 44, 45, 46] (by decide +kernel) (by decide +kernel)
set_option maxRecDepth 20000 in
theorem gX4_shape_X4_shapeNumber : GoodIn wsX4_shape (va_wsS RX4 156 yX4_shapeNumber wsX4_shapeNumber) := goodIn_app (goodIn_of _ (by decide +kernel)) ggX4_shape_X4_shapeNumber
theorem dX4_shape_0 : decode cX4_shape 0 = .ok (.iload_n 1, 1) := by decide +kernel
theorem dX4_shape_1 : decode cX4_shape 1 = .ok (.invokestatic 45, 3) := by decide +kernel
theorem dX4_shape_4 : decode cX4_shape 4 = .ok (.ifCond .ne 13, 3) := by decide +kernel
theorem dX4_shape_7 : decode cX4_shape 7 = .ok (.new 49, 3) := by decide +kernel
theorem dX4_shape_10 : decode cX4_shape 10 = .ok (.dup, 1) := by decide +kernel
theorem dX4_shape_11 : decode cX4_shape 11 = .ok (.ldc 51, 2) := by decide +kernel
theorem dX4_shape_13 : decode cX4_shape 13 = .ok (.invokespecial 53, 3) := by decide +kernel
theorem dX4_shape_16 : decode cX4_shape 16 = .ok (.athrow, 1) := by decide +kernel
theorem dX4_shape_17 : decode cX4_shape 17 = .ok (.iload_n 2, 1) := by decide +kernel
theorem dX4_shape_18 : decode cX4_shape 18 = .ok (.ifCond .lt 8, 3) := by decide +kernel
theorem dX4_shape_21 : decode cX4_shape 21 = .ok (.iload_n 2, 1) := by decide +kernel
theorem dX4_shape_22 : decode cX4_shape 22 = .ok (.iconst 5, 1) := by decide +kernel
theorem dX4_shape_23 : decode cX4_shape 23 = .ok (.if_icmp .le 13, 3) := by decide +kernel
theorem dX4_shape_26 : decode cX4_shape 26 = .ok (.new 64, 3) := by decide +kernel
theorem dX4_shape_29 : decode cX4_shape 29 = .ok (.dup, 1) := by decide +kernel
theorem dX4_shape_30 : decode cX4_shape 30 = .ok (.ldc 154, 2) := by decide +kernel
theorem dX4_shape_32 : decode cX4_shape 32 = .ok (.invokespecial 68, 3) := by decide +kernel
theorem dX4_shape_35 : decode cX4_shape 35 = .ok (.athrow, 1) := by decide +kernel
theorem dX4_shape_36 : decode cX4_shape 36 = .ok (.aload_n 0, 1) := by decide +kernel
theorem dX4_shape_37 : decode cX4_shape 37 = .ok (.getfield 23, 3) := by decide +kernel
theorem dX4_shape_40 : decode cX4_shape 40 = .ok (.iload_n 1, 1) := by decide +kernel
theorem dX4_shape_41 : decode cX4_shape 41 = .ok (.invokevirtual 69, 3) := by decide +kernel
theorem dX4_shape_44 : decode cX4_shape 44 = .ok (.iload_n 2, 1) := by decide +kernel
theorem dX4_shape_45 : decode cX4_shape 45 = .ok (.invokestatic 156, 3) := by decide +kernel
theorem dX4_shape_48 : decode cX4_shape 48 = .ok (.ireturn, 1) := by decide +kernel
set_option maxRecDepth 20000 in
theorem ggX4_document_X1_read : GoodIn wsX4_document wsX1_read := goodIn_r _ [10, 11, 12, 13, 14, 15, 16, 17, 18, 19, 20, 21, 22, 23, 24, 25, 26, 27, 9, 28, 29, 30, 31, 32, 33, 34, 35, 36, 37, 38, 39, 40, 41, 42, 43, 44, 45, 46, 47, 48, 49, 50, 51, 52, 53, 54, 55, 56, 57, 58, 59, 60, 61, 62, 63, 64, 65, 66, 67, 68, 69, 70, 71, 72, 73, 74, 75, 76, 77, 78, 79, 80, 81, 82, 83, 84, 85, 86, 87, 88, 89, 90, 91, 92, 93, 94, 95, 96, 97, 117, 118, 119, 120, 121, 122, 123, 124, 125, 126] (by decide +kernel) (by decide +kernel)
set_option maxRecDepth 20000 in
theorem gX4_document_X1_read : GoodIn wsX4_document (wsV RX4 60 RX1 yX1_read wsX1_read) := goodIn_app (goodIn_of _ (by decide +kernel)) ggX4_document_X1_read
set_option maxRecDepth 20000 in
theorem ggX4_document_X4_documentNumber : GoodIn wsX4_document wsX4_documentNumber := goodIn_r _ [102, 3, 103, 104, 105, 106, 107, 108, 41, 42, 21, 43, 23, 44, 109, 110, 111, 112, 113, 114, 115, 116, 117, 118, 119, 120, 121, 122, 123, 124, 125, 126] (by decide +kernel) (by decide +kernel)
set_option maxRecDepth 20000 in
theorem gX4_document_X4_documentNumber : GoodIn wsX4_document (wsV RX4 162 RX4 yX4_documentNumber wsX4_documentNumber) := goodIn_app (goodIn_of _ (by decide +kernel)) ggX4_document_X4_documentNumber
theorem dX4_document_0 : decode cX4_document 0 = .ok (.iload_n 1, 1) := by decide +kernel
theorem dX4_document_1 : decode cX4_document 1 = .ok (.ifCond .lt 9, 3) := by decide +kernel
theorem dX4_document_4 : decode cX4_document 4 = .ok (.iload_n 1, 1) := by decide +kernel
theorem dX4_document_5 : decode cX4_document 5 = .ok (.bipush 8, 2) := by decide +kernel
theorem dX4_document_7 : decode cX4_document 7 = .ok (.if_icmp .le 13, 3) := by decide +kernel
theorem dX4_document_10 : decode cX4_document 10 = .ok (.new 64, 3) := by decide +kernel
theorem dX4_document_13 : decode cX4_document 13 = .ok (.dup, 1) := by decide +kernel
theorem dX4_document_14 : decode cX4_document 14 = .ok (.ldc 160, 2) := by decide +kernel
theorem dX4_document_16 : decode cX4_document 16 = .ok (.invokespecial 68, 3) := by decide +kernel
theorem dX4_document_19 : decode cX4_document 19 = .ok (.athrow, 1) := by decide +kernel
theorem dX4_document_20 : decode cX4_document 20 = .ok (.aload_n 0, 1) := by decide +kernel
theorem dX4_document_21 : decode cX4_document 21 = .ok (.getfield 16, 3) := by decide +kernel
theorem dX4_document_24 : decode cX4_document 24 = .ok (.aload_n 0, 1) := by decide +kernel
theorem dX4_document_25 : decode cX4_document 25 = .ok (.getfield 9, 3) := by decide +kernel
theorem dX4_document_28 : decode cX4_document 28 = .ok (.aload_n 0, 1) := by decide +kernel
theorem dX4_document_29 : decode cX4_document 29 = .ok (.getfield 56, 3) := by decide +kernel
theorem dX4_document_32 : decode cX4_document 32 = .ok (.invokevirtual 60, 3) := by decide +kernel
theorem dX4_document_35 : decode cX4_document 35 = .ok (.ifCond .eq 11, 3) := by decide +kernel
theorem dX4_document_38 : decode cX4_document 38 = .ok (.aload_n 0, 1) := by decide +kernel
theorem dX4_document_39 : decode cX4_document 39 = .ok (.iload_n 1, 1) := by decide +kernel
theorem dX4_document_40 : decode cX4_document 40 = .ok (.invokevirtual 162, 3) := by decide +kernel
theorem dX4_document_43 : decode cX4_document 43 = .ok (.goto 4, 3) := by decide +kernel
theorem dX4_document_46 : decode cX4_document 46 = .ok (.iconst (-1), 1) := by decide +kernel
theorem dX4_document_47 : decode cX4_document 47 = .ok (.ireturn, 1) := by decide +kernel
set_option maxRecDepth 20000 in
theorem ggX4_count_X4_stateNumber : GoodIn wsX4_count wsX4_stateNumber := goodIn_r _ [7, 8, 9, 10, 11, 12, 13, 14, 15, 16, 17, 18, 19, 20, 21, 22] (by decide +kernel) (by decide +kernel)
set_option maxRecDepth 20000 in
theorem gX4_count_X4_stateNumber : GoodIn wsX4_count (wsV RX4 168 RX4 yX4_stateNumber wsX4_stateNumber) := goodIn_app (goodIn_of _ (by decide +kernel)) ggX4_count_X4_stateNumber
theorem dX4_count_0 : decode cX4_count 0 = .ok (.iload_n 1, 1) := by decide +kernel
theorem dX4_count_1 : decode cX4_count 1 = .ok (.ifCond .lt 8, 3) := by decide +kernel
theorem dX4_count_4 : decode cX4_count 4 = .ok (.iload_n 1, 1) := by decide +kernel
theorem dX4_count_5 : decode cX4_count 5 = .ok (.iconst 2, 1) := by decide +kernel
theorem dX4_count_6 : decode cX4_count 6 = .ok (.if_icmp .le 13, 3) := by decide +kernel
theorem dX4_count_9 : decode cX4_count 9 = .ok (.new 64, 3) := by decide +kernel
theorem dX4_count_12 : decode cX4_count 12 = .ok (.dup, 1) := by decide +kernel
theorem dX4_count_13 : decode cX4_count 13 = .ok (.ldc 166, 2) := by decide +kernel
theorem dX4_count_15 : decode cX4_count 15 = .ok (.invokespecial 68, 3) := by decide +kernel
theorem dX4_count_18 : decode cX4_count 18 = .ok (.athrow, 1) := by decide +kernel
theorem dX4_count_19 : decode cX4_count 19 = .ok (.aload_n 0, 1) := by decide +kernel
theorem dX4_count_20 : decode cX4_count 20 = .ok (.iload_n 1, 1) := by decide +kernel
theorem dX4_count_21 : decode cX4_count 21 = .ok (.invokevirtual 168, 3) := by decide +kernel
theorem dX4_count_24 : decode cX4_count 24 = .ok (.ireturn, 1) := by decide +kernel
set_option maxRecDepth 20000 in
theorem ggX4_fits_X4_isShape : GoodIn wsX4_fits wsX4_isShape := goodIn_r _ [12] (by decide +kernel) (by decide +kernel)
set_option maxRecDepth 20000 in
theorem gX4_fits_X4_isShape : GoodIn wsX4_fits (va_wsS RX4 45 yX4_isShape wsX4_isShape) := goodIn_app (goodIn_of _ (by decide +kernel)) ggX4_fits_X4_isShape
set_option maxRecDepth 20000 in
theorem ggX4_fits_X1_read : GoodIn wsX4_fits wsX1_read := goodIn_r _ [17, 18, 19, 20, 21, 22, 23, 24, 25, 26, 27, 28, 29, 30, 31, 32, 33, 34, 16, 35, 36, 37, 38, 39, 40, 41, 42, 43, 44, 45, 46, 47, 48, 49, 50, 51, 52, 53, 54, 55, 56, 57, 58, 59, 60, 61, 62, 63, 64, 65, 66, 67, 68, 69, 70, 71, 72, 73, 74, 75, 76, 77, 78, 79, 80, 81, 82, 83, 84, 85, 86, 87, 88, 89, 90, 91, 92, 93, 94, 95, 96, 97, 98, 99, 100, 101, 102, 103, 104, 165, 166, 167, 168, 169, 170, 171, 172, 173, 174] (by decide +kernel) (by decide +kernel)
set_option maxRecDepth 20000 in
theorem gX4_fits_X1_read : GoodIn wsX4_fits (wsV RX4 60 RX1 yX1_read wsX1_read) := goodIn_app (goodIn_of _ (by decide +kernel)) ggX4_fits_X1_read
set_option maxRecDepth 20000 in
theorem ggX4_fits_X2_tree : GoodIn wsX4_fits wsX2_tree := goodIn_r _ [109, 110, 111, 175, 176, 177] (by decide +kernel) (by decide +kernel)
set_option maxRecDepth 20000 in
theorem gX4_fits_X2_tree : GoodIn wsX4_fits (wsV RX4 69 RX2 yX2_tree wsX2_tree) := goodIn_app (goodIn_of _ (by decide +kernel)) ggX4_fits_X2_tree
set_option maxRecDepth 20000 in
theorem ggX4_fits_X4_seekMisfit : GoodIn wsX4_fits wsX4_seekMisfit := goodIn_r _ [115, 116, 117, 5, 118, 119, 120, 121, 122, 123, 124, 125, 126, 127, 11, 128, 129, 48, 49, 28, 50, 30, 51, 130, 131, 132, 133, 134, 135, 136, 137, 138, 139, 140, 141, 142, 143, 144, 145, 146, 147, 148, 149, 150, 151, 152, 157, 158, 159, 160, 161, 162, 163, 164, 172, 173, 174, 165, 166, 167, 168, 169, 170, 171, 178, 179, 180] (by decide +kernel) (by decide +kernel)
set_option maxRecDepth 20000 in
theorem gX4_fits_X4_seekMisfit : GoodIn wsX4_fits (wsV RX4 171 RX4 yX4_seekMisfit wsX4_seekMisfit) := goodIn_app (goodIn_of _ (by decide +kernel)) ggX4_fits_X4_seekMisfit
set_option maxRecDepth 20000 in
theorem ggX4_fits_X4_misfitNumber : GoodIn wsX4_fits wsX4_misfitNumber := goodIn_r _ [156, 116, 157, 158, 159, 160, 161, 162, 163, 164, 178, 179, 180] (by decide +kernel) (by decide +kernel)
set_option maxRecDepth 20000 in
theorem gX4_fits_X4_misfitNumber : GoodIn wsX4_fits (wsV RX4 174 RX4 yX4_misfitNumber wsX4_misfitNumber) := goodIn_app (goodIn_of _ (by decide +kernel)) ggX4_fits_X4_misfitNumber
theorem dX4_fits_0 : decode cX4_fits 0 = .ok (.iload_n 1, 1) := by decide +kernel
theorem dX4_fits_1 : decode cX4_fits 1 = .ok (.invokestatic 45, 3) := by decide +kernel
theorem dX4_fits_4 : decode cX4_fits 4 = .ok (.ifCond .ne 13, 3) := by decide +kernel
theorem dX4_fits_7 : decode cX4_fits 7 = .ok (.new 49, 3) := by decide +kernel
theorem dX4_fits_10 : decode cX4_fits 10 = .ok (.dup, 1) := by decide +kernel
theorem dX4_fits_11 : decode cX4_fits 11 = .ok (.ldc 51, 2) := by decide +kernel
theorem dX4_fits_13 : decode cX4_fits 13 = .ok (.invokespecial 53, 3) := by decide +kernel
theorem dX4_fits_16 : decode cX4_fits 16 = .ok (.athrow, 1) := by decide +kernel
theorem dX4_fits_17 : decode cX4_fits 17 = .ok (.iload_n 2, 1) := by decide +kernel
theorem dX4_fits_18 : decode cX4_fits 18 = .ok (.ifCond .lt 8, 3) := by decide +kernel
theorem dX4_fits_21 : decode cX4_fits 21 = .ok (.iload_n 2, 1) := by decide +kernel
theorem dX4_fits_22 : decode cX4_fits 22 = .ok (.iconst 2, 1) := by decide +kernel
theorem dX4_fits_23 : decode cX4_fits 23 = .ok (.if_icmp .le 13, 3) := by decide +kernel
theorem dX4_fits_26 : decode cX4_fits 26 = .ok (.new 64, 3) := by decide +kernel
theorem dX4_fits_29 : decode cX4_fits 29 = .ok (.dup, 1) := by decide +kernel
theorem dX4_fits_30 : decode cX4_fits 30 = .ok (.ldc 166, 2) := by decide +kernel
theorem dX4_fits_32 : decode cX4_fits 32 = .ok (.invokespecial 68, 3) := by decide +kernel
theorem dX4_fits_35 : decode cX4_fits 35 = .ok (.athrow, 1) := by decide +kernel
theorem dX4_fits_36 : decode cX4_fits 36 = .ok (.aload_n 0, 1) := by decide +kernel
theorem dX4_fits_37 : decode cX4_fits 37 = .ok (.getfield 16, 3) := by decide +kernel
theorem dX4_fits_40 : decode cX4_fits 40 = .ok (.aload_n 0, 1) := by decide +kernel
theorem dX4_fits_41 : decode cX4_fits 41 = .ok (.getfield 9, 3) := by decide +kernel
theorem dX4_fits_44 : decode cX4_fits 44 = .ok (.aload_n 0, 1) := by decide +kernel
theorem dX4_fits_45 : decode cX4_fits 45 = .ok (.getfield 56, 3) := by decide +kernel
theorem dX4_fits_48 : decode cX4_fits 48 = .ok (.invokevirtual 60, 3) := by decide +kernel
theorem dX4_fits_51 : decode cX4_fits 51 = .ok (.ifCond .ne 5, 3) := by decide +kernel
theorem dX4_fits_54 : decode cX4_fits 54 = .ok (.iconst (-1), 1) := by decide +kernel
theorem dX4_fits_55 : decode cX4_fits 55 = .ok (.ireturn, 1) := by decide +kernel
theorem dX4_fits_56 : decode cX4_fits 56 = .ok (.aload_n 0, 1) := by decide +kernel
theorem dX4_fits_57 : decode cX4_fits 57 = .ok (.aload_n 0, 1) := by decide +kernel
theorem dX4_fits_58 : decode cX4_fits 58 = .ok (.getfield 23, 3) := by decide +kernel
theorem dX4_fits_61 : decode cX4_fits 61 = .ok (.iload_n 1, 1) := by decide +kernel
theorem dX4_fits_62 : decode cX4_fits 62 = .ok (.invokevirtual 69, 3) := by decide +kernel
theorem dX4_fits_65 : decode cX4_fits 65 = .ok (.invokevirtual 171, 3) := by decide +kernel
theorem dX4_fits_68 : decode cX4_fits 68 = .ok (.aload_n 0, 1) := by decide +kernel
theorem dX4_fits_69 : decode cX4_fits 69 = .ok (.iload_n 2, 1) := by decide +kernel
theorem dX4_fits_70 : decode cX4_fits 70 = .ok (.invokevirtual 174, 3) := by decide +kernel
theorem dX4_fits_73 : decode cX4_fits 73 = .ok (.ireturn, 1) := by decide +kernel
set_option maxRecDepth 20000 in
theorem ggX4_ifLearned_X4_isShape : GoodIn wsX4_ifLearned wsX4_isShape := goodIn_r _ [12] (by decide +kernel) (by decide +kernel)
set_option maxRecDepth 20000 in
theorem gX4_ifLearned_X4_isShape : GoodIn wsX4_ifLearned (va_wsS RX4 45 yX4_isShape wsX4_isShape) := goodIn_app (goodIn_of _ (by decide +kernel)) ggX4_ifLearned_X4_isShape
set_option maxRecDepth 20000 in
theorem ggX4_ifLearned_X1_read : GoodIn wsX4_ifLearned wsX1_read := goodIn_r _ [17, 18, 19, 20, 21, 22, 23, 24, 25, 26, 27, 28, 29, 30, 31, 32, 33, 34, 16, 35, 36, 37, 38, 39, 40, 41, 42, 43, 44, 45, 46, 47, 48, 49, 50, 51, 52, 53, 54, 55, 56, 57, 58, 59, 60, 61, 62, 63, 64, 65, 66, 67, 68, 69, 70, 71, 72, 73, 74, 75, 76, 77, 78, 79, 80, 81, 82, 83, 84, 85, 86, 87, 88, 89, 90, 91, 92, 93, 94, 95, 96, 97, 98, 99, 100, 101, 102, 103, 104, 181, 182, 183, 184, 185, 186, 187, 188, 189, 190] (by decide +kernel) (by decide +kernel)
set_option maxRecDepth 20000 in
theorem gX4_ifLearned_X1_read : GoodIn wsX4_ifLearned (wsV RX4 60 RX1 yX1_read wsX1_read) := goodIn_app (goodIn_of _ (by decide +kernel)) ggX4_ifLearned_X1_read
set_option maxRecDepth 20000 in
theorem ggX4_ifLearned_X2_tree : GoodIn wsX4_ifLearned wsX2_tree := goodIn_r _ [109, 110, 111, 191, 192, 193] (by decide +kernel) (by decide +kernel)
set_option maxRecDepth 20000 in
theorem gX4_ifLearned_X2_tree : GoodIn wsX4_ifLearned (wsV RX4 69 RX2 yX2_tree wsX2_tree) := goodIn_app (goodIn_of _ (by decide +kernel)) ggX4_ifLearned_X2_tree
set_option maxRecDepth 20000 in
theorem ggX4_ifLearned_X4_workOutLearned : GoodIn wsX4_ifLearned wsX4_workOutLearned := goodIn_r _ [115, 5, 116, 117, 118, 119, 120, 121, 28, 122, 51, 30, 31, 123, 124, 125, 126, 127, 128, 129, 130, 72, 73, 74, 131, 132, 133, 11, 134, 135, 48, 49, 50, 136, 137, 138, 139, 140, 141, 142, 143, 144, 145, 146, 147, 148, 67, 68, 69, 70, 71, 149, 150, 151, 152, 153, 154, 155, 156, 157, 158, 159, 173, 174, 175, 176, 177, 178, 179, 180, 181, 182, 183, 184, 185, 186, 187, 188, 189, 190] (by decide +kernel) (by decide +kernel)
set_option maxRecDepth 20000 in
theorem gX4_ifLearned_X4_workOutLearned : GoodIn wsX4_ifLearned (wsV RX4 73 RX4 yX4_workOutLearned wsX4_workOutLearned) := goodIn_app (goodIn_of _ (by decide +kernel)) ggX4_ifLearned_X4_workOutLearned
set_option maxRecDepth 20000 in
theorem ggX4_ifLearned_X4_outlookNumber : GoodIn wsX4_ifLearned wsX4_outlookNumber := goodIn_r _ [163, 116, 118, 164, 165, 166, 11, 167, 8, 168, 169, 170, 171, 172, 135, 48, 49, 28, 50, 30, 51, 173, 174, 175, 176, 177, 178, 179, 180, 188, 189, 190, 191, 192, 193] (by decide +kernel) (by decide +kernel)
set_option maxRecDepth 20000 in
theorem gX4_ifLearned_X4_outlookNumber : GoodIn wsX4_ifLearned (wsV RX4 179 RX4 yX4_outlookNumber wsX4_outlookNumber) := goodIn_app (goodIn_of _ (by decide +kernel)) ggX4_ifLearned_X4_outlookNumber
theorem dX4_ifLearned_0 : decode cX4_ifLearned 0 = .ok (.iload_n 1, 1) := by decide +kernel
theorem dX4_ifLearned_1 : decode cX4_ifLearned 1 = .ok (.invokestatic 45, 3) := by decide +kernel
theorem dX4_ifLearned_4 : decode cX4_ifLearned 4 = .ok (.ifCond .ne 13, 3) := by decide +kernel
theorem dX4_ifLearned_7 : decode cX4_ifLearned 7 = .ok (.new 49, 3) := by decide +kernel
theorem dX4_ifLearned_10 : decode cX4_ifLearned 10 = .ok (.dup, 1) := by decide +kernel
theorem dX4_ifLearned_11 : decode cX4_ifLearned 11 = .ok (.ldc 51, 2) := by decide +kernel
theorem dX4_ifLearned_13 : decode cX4_ifLearned 13 = .ok (.invokespecial 53, 3) := by decide +kernel
theorem dX4_ifLearned_16 : decode cX4_ifLearned 16 = .ok (.athrow, 1) := by decide +kernel
theorem dX4_ifLearned_17 : decode cX4_ifLearned 17 = .ok (.iload_n 2, 1) := by decide +kernel
theorem dX4_ifLearned_18 : decode cX4_ifLearned 18 = .ok (.ifCond .lt 8, 3) := by decide +kernel
theorem dX4_ifLearned_21 : decode cX4_ifLearned 21 = .ok (.iload_n 2, 1) := by decide +kernel
theorem dX4_ifLearned_22 : decode cX4_ifLearned 22 = .ok (.iconst 4, 1) := by decide +kernel
theorem dX4_ifLearned_23 : decode cX4_ifLearned 23 = .ok (.if_icmp .le 13, 3) := by decide +kernel
theorem dX4_ifLearned_26 : decode cX4_ifLearned 26 = .ok (.new 64, 3) := by decide +kernel
theorem dX4_ifLearned_29 : decode cX4_ifLearned 29 = .ok (.dup, 1) := by decide +kernel
theorem dX4_ifLearned_30 : decode cX4_ifLearned 30 = .ok (.ldc 177, 2) := by decide +kernel
theorem dX4_ifLearned_32 : decode cX4_ifLearned 32 = .ok (.invokespecial 68, 3) := by decide +kernel
theorem dX4_ifLearned_35 : decode cX4_ifLearned 35 = .ok (.athrow, 1) := by decide +kernel
theorem dX4_ifLearned_36 : decode cX4_ifLearned 36 = .ok (.aload_n 0, 1) := by decide +kernel
theorem dX4_ifLearned_37 : decode cX4_ifLearned 37 = .ok (.getfield 16, 3) := by decide +kernel
theorem dX4_ifLearned_40 : decode cX4_ifLearned 40 = .ok (.aload_n 0, 1) := by decide +kernel
theorem dX4_ifLearned_41 : decode cX4_ifLearned 41 = .ok (.getfield 9, 3) := by decide +kernel
theorem dX4_ifLearned_44 : decode cX4_ifLearned 44 = .ok (.aload_n 0, 1) := by decide +kernel
theorem dX4_ifLearned_45 : decode cX4_ifLearned 45 = .ok (.getfield 56, 3) := by decide +kernel
theorem dX4_ifLearned_48 : decode cX4_ifLearned 48 = .ok (.invokevirtual 60, 3) := by decide +kernel
theorem dX4_ifLearned_51 : decode cX4_ifLearned 51 = .ok (.ifCond .ne 5, 3) := by decide +kernel
theorem dX4_ifLearned_54 : decode cX4_ifLearned 54 = .ok (.iconst (-1), 1) := by decide +kernel
theorem dX4_ifLearned_55 : decode cX4_ifLearned 55 = .ok (.ireturn, 1) := by decide +kernel
theorem dX4_ifLearned_56 : decode cX4_ifLearned 56 = .ok (.aload_n 0, 1) := by decide +kernel
theorem dX4_ifLearned_57 : decode cX4_ifLearned 57 = .ok (.aload_n 0, 1) := by decide +kernel
theorem dX4_ifLearned_58 : decode cX4_ifLearned 58 = .ok (.getfield 23, 3) := by decide +kernel
theorem dX4_ifLearned_61 : decode cX4_ifLearned 61 = .ok (.iload_n 1, 1) := by decide +kernel
theorem dX4_ifLearned_62 : decode cX4_ifLearned 62 = .ok (.invokevirtual 69, 3) := by decide +kernel
theorem dX4_ifLearned_65 : decode cX4_ifLearned 65 = .ok (.invokevirtual 73, 3) := by decide +kernel
theorem dX4_ifLearned_68 : decode cX4_ifLearned 68 = .ok (.aload_n 0, 1) := by decide +kernel
theorem dX4_ifLearned_69 : decode cX4_ifLearned 69 = .ok (.aload_n 0, 1) := by decide +kernel
theorem dX4_ifLearned_70 : decode cX4_ifLearned 70 = .ok (.getfield 23, 3) := by decide +kernel
theorem dX4_ifLearned_73 : decode cX4_ifLearned 73 = .ok (.iload_n 1, 1) := by decide +kernel
theorem dX4_ifLearned_74 : decode cX4_ifLearned 74 = .ok (.invokevirtual 69, 3) := by decide +kernel
theorem dX4_ifLearned_77 : decode cX4_ifLearned 77 = .ok (.iload_n 2, 1) := by decide +kernel
theorem dX4_ifLearned_78 : decode cX4_ifLearned 78 = .ok (.invokevirtual 179, 3) := by decide +kernel
theorem dX4_ifLearned_81 : decode cX4_ifLearned 81 = .ok (.ireturn, 1) := by decide +kernel
set_option maxRecDepth 20000 in
theorem ggX4_covers_X4_isShape : GoodIn wsX4_covers wsX4_isShape := goodIn_r _ [6] (by decide +kernel) (by decide +kernel)
set_option maxRecDepth 20000 in
theorem gX4_covers_X4_isShape : GoodIn wsX4_covers (va_wsS RX4 45 yX4_isShape wsX4_isShape) := goodIn_app (goodIn_of _ (by decide +kernel)) ggX4_covers_X4_isShape
set_option maxRecDepth 20000 in
theorem ggX4_covers_X4_coversOther : GoodIn wsX4_covers wsX4_coversOther := goodIn_r _ [10, 11, 12, 13, 14, 15, 16, 17, 18, 19, 20, 21, 5, 22, 23, 24, 25, 26, 27, 28, 29, 30, 31, 32, 33, 34, 35, 36, 37, 38, 39, 40, 41, 42, 43, 44, 45, 46, 47, 48, 49, 50, 51, 52, 53, 54, 55, 56, 57, 58, 59] (by decide +kernel) (by decide +kernel)
set_option maxRecDepth 20000 in
theorem gX4_covers_X4_coversOther : GoodIn wsX4_covers (wsV RX4 182 RX4 yX4_coversOther wsX4_coversOther) := goodIn_app (goodIn_of _ (by decide +kernel)) ggX4_covers_X4_coversOther
theorem dX4_covers_0 : decode cX4_covers 0 = .ok (.iload_n 1, 1) := by decide +kernel
theorem dX4_covers_1 : decode cX4_covers 1 = .ok (.invokestatic 45, 3) := by decide +kernel
theorem dX4_covers_4 : decode cX4_covers 4 = .ok (.ifCond .ne 13, 3) := by decide +kernel
theorem dX4_covers_7 : decode cX4_covers 7 = .ok (.new 49, 3) := by decide +kernel
theorem dX4_covers_10 : decode cX4_covers 10 = .ok (.dup, 1) := by decide +kernel
theorem dX4_covers_11 : decode cX4_covers 11 = .ok (.ldc 51, 2) := by decide +kernel
theorem dX4_covers_13 : decode cX4_covers 13 = .ok (.invokespecial 53, 3) := by decide +kernel
theorem dX4_covers_16 : decode cX4_covers 16 = .ok (.athrow, 1) := by decide +kernel
theorem dX4_covers_17 : decode cX4_covers 17 = .ok (.aload_n 0, 1) := by decide +kernel
theorem dX4_covers_18 : decode cX4_covers 18 = .ok (.iload_n 1, 1) := by decide +kernel
theorem dX4_covers_19 : decode cX4_covers 19 = .ok (.invokevirtual 182, 3) := by decide +kernel
theorem dX4_covers_22 : decode cX4_covers 22 = .ok (.ifCond .eq 7, 3) := by decide +kernel
theorem dX4_covers_25 : decode cX4_covers 25 = .ok (.iconst 1, 1) := by decide +kernel
theorem dX4_covers_26 : decode cX4_covers 26 = .ok (.goto 4, 3) := by decide +kernel
theorem dX4_covers_29 : decode cX4_covers 29 = .ok (.iconst 0, 1) := by decide +kernel
theorem dX4_covers_30 : decode cX4_covers 30 = .ok (.ireturn, 1) := by decide +kernel
set_option maxRecDepth 20000 in
theorem ggX4_ifJoined_X4_workOutJoined : GoodIn wsX4_ifJoined wsX4_workOutJoined := goodIn_r _ [10, 4, 11, 5, 12, 13, 14, 15, 16, 17, 18, 19, 20, 9, 21, 22, 23, 24, 25, 26, 27, 28, 29, 30, 31, 32, 33, 34, 35, 36, 37, 38, 39, 40, 41, 42, 43, 44, 45, 46, 47, 48, 49, 50, 51, 52, 53, 54, 55, 56, 57, 58, 59, 60, 61, 62, 63, 67, 68, 69] (by decide +kernel) (by decide +kernel)
set_option maxRecDepth 20000 in
theorem gX4_ifJoined_X4_workOutJoined : GoodIn wsX4_ifJoined (wsV RX4 95 RX4 yX4_workOutJoined wsX4_workOutJoined) := goodIn_app (goodIn_of _ (by decide +kernel)) ggX4_ifJoined_X4_workOutJoined
theorem dX4_ifJoined_0 : decode cX4_ifJoined 0 = .ok (.aload_n 0, 1) := by decide +kernel
theorem dX4_ifJoined_1 : decode cX4_ifJoined 1 = .ok (.aload_n 0, 1) := by decide +kernel
theorem dX4_ifJoined_2 : decode cX4_ifJoined 2 = .ok (.getfield 23, 3) := by decide +kernel
theorem dX4_ifJoined_5 : decode cX4_ifJoined 5 = .ok (.getfield 104, 3) := by decide +kernel
theorem dX4_ifJoined_8 : decode cX4_ifJoined 8 = .ok (.aload_n 0, 1) := by decide +kernel
theorem dX4_ifJoined_9 : decode cX4_ifJoined 9 = .ok (.getfield 23, 3) := by decide +kernel
theorem dX4_ifJoined_12 : decode cX4_ifJoined 12 = .ok (.getfield 110, 3) := by decide +kernel
theorem dX4_ifJoined_15 : decode cX4_ifJoined 15 = .ok (.invokevirtual 95, 3) := by decide +kernel
theorem dX4_ifJoined_18 : decode cX4_ifJoined 18 = .ok (.aload_n 0, 1) := by decide +kernel
theorem dX4_ifJoined_19 : decode cX4_ifJoined 19 = .ok (.getfield 34, 3) := by decide +kernel
theorem dX4_ifJoined_22 : decode cX4_ifJoined 22 = .ok (.getfield 92, 3) := by decide +kernel
theorem dX4_ifJoined_25 : decode cX4_ifJoined 25 = .ok (.ireturn, 1) := by decide +kernel
set_option maxRecDepth 20000 in
theorem ggX4_sureShare_X4_isShape : GoodIn wsX4_sureShare wsX4_isShape := goodIn_r _ [7] (by decide +kernel) (by decide +kernel)
set_option maxRecDepth 20000 in
theorem gX4_sureShare_X4_isShape : GoodIn wsX4_sureShare (va_wsS RX4 45 yX4_isShape wsX4_isShape) := goodIn_app (goodIn_of _ (by decide +kernel)) ggX4_sureShare_X4_isShape
set_option maxRecDepth 20000 in
theorem ggX4_sureShare_X2_tree : GoodIn wsX4_sureShare wsX2_tree := goodIn_r _ [12, 13, 14, 34, 35, 36] (by decide +kernel) (by decide +kernel)
set_option maxRecDepth 20000 in
theorem gX4_sureShare_X2_tree : GoodIn wsX4_sureShare (wsV RX4 69 RX2 yX2_tree wsX2_tree) := goodIn_app (goodIn_of _ (by decide +kernel)) ggX4_sureShare_X2_tree
set_option maxRecDepth 20000 in
theorem ggX4_sureShare_X4_shareOfSure : GoodIn wsX4_sureShare wsX4_shareOfSure := goodIn_r _ [17, 18, 19, 20, 21, 22, 23, 24, 25, 37, 38, 39] (by decide +kernel) (by decide +kernel)
set_option maxRecDepth 20000 in
theorem gX4_sureShare_X4_shareOfSure : GoodIn wsX4_sureShare (va_wsS RX4 185 yX4_shareOfSure wsX4_shareOfSure) := goodIn_app (goodIn_of _ (by decide +kernel)) ggX4_sureShare_X4_shareOfSure
theorem dX4_sureShare_0 : decode cX4_sureShare 0 = .ok (.iload_n 1, 1) := by decide +kernel
theorem dX4_sureShare_1 : decode cX4_sureShare 1 = .ok (.invokestatic 45, 3) := by decide +kernel
theorem dX4_sureShare_4 : decode cX4_sureShare 4 = .ok (.ifCond .ne 13, 3) := by decide +kernel
theorem dX4_sureShare_7 : decode cX4_sureShare 7 = .ok (.new 49, 3) := by decide +kernel
theorem dX4_sureShare_10 : decode cX4_sureShare 10 = .ok (.dup, 1) := by decide +kernel
theorem dX4_sureShare_11 : decode cX4_sureShare 11 = .ok (.ldc 51, 2) := by decide +kernel
theorem dX4_sureShare_13 : decode cX4_sureShare 13 = .ok (.invokespecial 53, 3) := by decide +kernel
theorem dX4_sureShare_16 : decode cX4_sureShare 16 = .ok (.athrow, 1) := by decide +kernel
theorem dX4_sureShare_17 : decode cX4_sureShare 17 = .ok (.aload_n 0, 1) := by decide +kernel
theorem dX4_sureShare_18 : decode cX4_sureShare 18 = .ok (.getfield 23, 3) := by decide +kernel
theorem dX4_sureShare_21 : decode cX4_sureShare 21 = .ok (.iload_n 1, 1) := by decide +kernel
theorem dX4_sureShare_22 : decode cX4_sureShare 22 = .ok (.invokevirtual 69, 3) := by decide +kernel
theorem dX4_sureShare_25 : decode cX4_sureShare 25 = .ok (.invokestatic 185, 3) := by decide +kernel
theorem dX4_sureShare_28 : decode cX4_sureShare 28 = .ok (.dreturn, 1) := by decide +kernel
set_option maxRecDepth 20000 in
theorem ggX4_digest_X1_read : GoodIn wsX4_digest wsX1_read := goodIn_r _ [15, 16, 17, 18, 19, 20, 21, 22, 23, 24, 25, 26, 27, 28, 29, 30, 31, 32, 14, 33, 34, 35, 36, 37, 38, 39, 40, 41, 42, 43, 44, 45, 46, 47, 48, 49, 50, 51, 52, 53, 54, 55, 56, 57, 58, 59, 60, 61, 62, 63, 64, 65, 66, 67, 68, 69, 70, 71, 72, 73, 74, 75, 76, 77, 78, 79, 80, 81, 82, 83, 84, 85, 86, 87, 88, 89, 90, 91, 92, 93, 94, 95, 96, 97, 98, 99, 100, 101, 102, 271, 272, 273, 274, 275, 276, 277, 268, 269, 270] (by decide +kernel) (by decide +kernel)
set_option maxRecDepth 20000 in
theorem gX4_digest_X1_read : GoodIn wsX4_digest (wsV RX4 60 RX1 yX1_read wsX1_read) := goodIn_app (goodIn_of _ (by decide +kernel)) ggX4_digest_X1_read
set_option maxRecDepth 20000 in
theorem ggX4_digest_X4_stateNumber : GoodIn wsX4_digest wsX4_stateNumber := goodIn_r _ [107, 6, 108, 3, 109, 257, 258, 259, 260, 261, 262, 263, 264, 265, 266, 267] (by decide +kernel) (by decide +kernel)
set_option maxRecDepth 20000 in
theorem gX4_digest_X4_stateNumber : GoodIn wsX4_digest (wsV RX4 168 RX4 yX4_stateNumber wsX4_stateNumber) := goodIn_app (goodIn_of _ (by decide +kernel)) ggX4_digest_X4_stateNumber
set_option maxRecDepth 20000 in
theorem ggX4_digest_X4_digestShape : GoodIn wsX4_digest wsX4_digestShape := goodIn_r _ [113, 6, 5, 114, 115, 116, 117, 118, 119, 120, 121, 122, 106, 123, 10, 124, 125, 126, 127, 128, 129, 130, 131, 132, 46, 47, 26, 48, 28, 49, 133, 134, 135, 136, 137, 138, 139, 140, 141, 142, 143, 144, 145, 146, 147, 148, 149, 150, 151, 152, 153, 1, 154, 155, 156, 157, 158, 159, 160, 161, 162, 163, 164, 165, 166, 167, 168, 169, 170, 171, 172, 173, 174, 175, 176, 177, 178, 179, 180, 181, 182, 183, 184, 185, 186, 187, 9, 188, 189, 190, 191, 29, 192, 193, 194, 195, 196, 197, 198, 199, 70, 71, 72, 200, 201, 202, 203, 204, 205, 206, 207, 65, 66, 67, 68, 69, 208, 209, 210, 211, 212, 213, 214, 215, 216, 217, 218, 219, 220, 221, 222, 223, 108, 224, 225, 226, 227, 228, 229, 230, 231, 232, 233, 234, 235, 236, 237, 238, 239, 240, 241, 242, 243, 257, 258, 259, 260, 261, 262, 263, 264, 265, 266, 267, 268, 269, 270, 271, 272, 273, 274, 275, 276, 277, 278, 279, 280] (by decide +kernel) (by decide +kernel)
set_option maxRecDepth 20000 in
theorem gX4_digest_X4_digestShape : GoodIn wsX4_digest (wsV RX4 193 RX4 yX4_digestShape wsX4_digestShape) := goodIn_app (goodIn_of _ (by decide +kernel)) ggX4_digest_X4_digestShape
set_option maxRecDepth 20000 in
theorem ggX4_digest_X4_workOutJoined : GoodIn wsX4_digest wsX4_workOutJoined := goodIn_r _ [247, 9, 127, 10, 248, 24, 25, 26, 27, 28, 29, 249, 250, 106, 251, 128, 129, 130, 131, 132, 46, 47, 48, 49, 165, 166, 167, 252, 62, 63, 64, 65, 66, 67, 68, 69, 70, 71, 72, 199, 169, 170, 171, 172, 173, 174, 175, 176, 140, 257, 258, 259, 260, 261, 262, 263, 264, 268, 269, 270] (by decide +kernel) (by decide +kernel)
set_option maxRecDepth 20000 in
theorem gX4_digest_X4_workOutJoined : GoodIn wsX4_digest (wsV RX4 95 RX4 yX4_workOutJoined wsX4_workOutJoined) := goodIn_app (goodIn_of _ (by decide +kernel)) ggX4_digest_X4_workOutJoined
set_option maxRecDepth 20000 in
theorem ggX4_digest_X4_documentNumber : GoodIn wsX4_digest wsX4_documentNumber := goodIn_r _ [256, 1, 10, 128, 129, 130, 131, 132, 46, 47, 26, 48, 28, 49, 257, 258, 259, 260, 261, 262, 263, 264, 271, 272, 273, 274, 275, 276, 277, 268, 269, 270] (by decide +kernel) (by decide +kernel)
set_option maxRecDepth 20000 in
theorem gX4_digest_X4_documentNumber : GoodIn wsX4_digest (wsV RX4 162 RX4 yX4_documentNumber wsX4_documentNumber) := goodIn_app (goodIn_of _ (by decide +kernel)) ggX4_digest_X4_documentNumber
theorem dX4_digest_0 : decode cX4_digest 0 = .ok (.aload_n 0, 1) := by decide +kernel
theorem dX4_digest_1 : decode cX4_digest 1 = .ok (.getfield 16, 3) := by decide +kernel
theorem dX4_digest_4 : decode cX4_digest 4 = .ok (.aload_n 0, 1) := by decide +kernel
theorem dX4_digest_5 : decode cX4_digest 5 = .ok (.getfield 9, 3) := by decide +kernel
theorem dX4_digest_8 : decode cX4_digest 8 = .ok (.aload_n 0, 1) := by decide +kernel
theorem dX4_digest_9 : decode cX4_digest 9 = .ok (.getfield 56, 3) := by decide +kernel
theorem dX4_digest_12 : decode cX4_digest 12 = .ok (.invokevirtual 60, 3) := by decide +kernel
theorem dX4_digest_15 : decode cX4_digest 15 = .ok (.istore_n 1, 1) := by decide +kernel
theorem dX4_digest_16 : decode cX4_digest 16 = .ok (.ldc2_w 189, 3) := by decide +kernel
theorem dX4_digest_19 : decode cX4_digest 19 = .ok (.lstore_n 2, 1) := by decide +kernel
theorem dX4_digest_20 : decode cX4_digest 20 = .ok (.iconst 0, 1) := by decide +kernel
theorem dX4_digest_21 : decode cX4_digest 21 = .ok (.istore 4, 2) := by decide +kernel
theorem dX4_digest_23 : decode cX4_digest 23 = .ok (.iload 4, 2) := by decide +kernel
theorem dX4_digest_25 : decode cX4_digest 25 = .ok (.iconst 2, 1) := by decide +kernel
theorem dX4_digest_26 : decode cX4_digest 26 = .ok (.if_icmp .gt 23, 3) := by decide +kernel
theorem dX4_digest_29 : decode cX4_digest 29 = .ok (.ldc2_w 191, 3) := by decide +kernel
theorem dX4_digest_32 : decode cX4_digest 32 = .ok (.lload_n 2, 1) := by decide +kernel
theorem dX4_digest_33 : decode cX4_digest 33 = .ok (.lmul, 1) := by decide +kernel
theorem dX4_digest_34 : decode cX4_digest 34 = .ok (.aload_n 0, 1) := by decide +kernel
theorem dX4_digest_35 : decode cX4_digest 35 = .ok (.iload 4, 2) := by decide +kernel
theorem dX4_digest_37 : decode cX4_digest 37 = .ok (.invokevirtual 168, 3) := by decide +kernel
theorem dX4_digest_40 : decode cX4_digest 40 = .ok (.i2l, 1) := by decide +kernel
theorem dX4_digest_41 : decode cX4_digest 41 = .ok (.ladd, 1) := by decide +kernel
theorem dX4_digest_42 : decode cX4_digest 42 = .ok (.lstore_n 2, 1) := by decide +kernel
theorem dX4_digest_43 : decode cX4_digest 43 = .ok (.iinc 4 1, 3) := by decide +kernel
theorem dX4_digest_46 : decode cX4_digest 46 = .ok (.goto (-23), 3) := by decide +kernel
theorem dX4_digest_49 : decode cX4_digest 49 = .ok (.aload_n 0, 1) := by decide +kernel
theorem dX4_digest_50 : decode cX4_digest 50 = .ok (.lload_n 2, 1) := by decide +kernel
theorem dX4_digest_51 : decode cX4_digest 51 = .ok (.iconst 0, 1) := by decide +kernel
theorem dX4_digest_52 : decode cX4_digest 52 = .ok (.iload_n 1, 1) := by decide +kernel
theorem dX4_digest_53 : decode cX4_digest 53 = .ok (.invokevirtual 193, 3) := by decide +kernel
theorem dX4_digest_56 : decode cX4_digest 56 = .ok (.lstore_n 2, 1) := by decide +kernel
theorem dX4_digest_57 : decode cX4_digest 57 = .ok (.aload_n 0, 1) := by decide +kernel
theorem dX4_digest_58 : decode cX4_digest 58 = .ok (.lload_n 2, 1) := by decide +kernel
theorem dX4_digest_59 : decode cX4_digest 59 = .ok (.iconst 1, 1) := by decide +kernel
theorem dX4_digest_60 : decode cX4_digest 60 = .ok (.iload_n 1, 1) := by decide +kernel
theorem dX4_digest_61 : decode cX4_digest 61 = .ok (.invokevirtual 193, 3) := by decide +kernel
theorem dX4_digest_64 : decode cX4_digest 64 = .ok (.lstore_n 2, 1) := by decide +kernel
theorem dX4_digest_65 : decode cX4_digest 65 = .ok (.aload_n 0, 1) := by decide +kernel
theorem dX4_digest_66 : decode cX4_digest 66 = .ok (.aload_n 0, 1) := by decide +kernel
theorem dX4_digest_67 : decode cX4_digest 67 = .ok (.getfield 23, 3) := by decide +kernel
theorem dX4_digest_70 : decode cX4_digest 70 = .ok (.getfield 104, 3) := by decide +kernel
theorem dX4_digest_73 : decode cX4_digest 73 = .ok (.aload_n 0, 1) := by decide +kernel
theorem dX4_digest_74 : decode cX4_digest 74 = .ok (.getfield 23, 3) := by decide +kernel
theorem dX4_digest_77 : decode cX4_digest 77 = .ok (.getfield 110, 3) := by decide +kernel
theorem dX4_digest_80 : decode cX4_digest 80 = .ok (.invokevirtual 95, 3) := by decide +kernel
theorem dX4_digest_83 : decode cX4_digest 83 = .ok (.ldc2_w 191, 3) := by decide +kernel
theorem dX4_digest_86 : decode cX4_digest 86 = .ok (.lload_n 2, 1) := by decide +kernel
theorem dX4_digest_87 : decode cX4_digest 87 = .ok (.lmul, 1) := by decide +kernel
theorem dX4_digest_88 : decode cX4_digest 88 = .ok (.aload_n 0, 1) := by decide +kernel
theorem dX4_digest_89 : decode cX4_digest 89 = .ok (.getfield 34, 3) := by decide +kernel
theorem dX4_digest_92 : decode cX4_digest 92 = .ok (.getfield 92, 3) := by decide +kernel
theorem dX4_digest_95 : decode cX4_digest 95 = .ok (.i2l, 1) := by decide +kernel
theorem dX4_digest_96 : decode cX4_digest 96 = .ok (.ladd, 1) := by decide +kernel
theorem dX4_digest_97 : decode cX4_digest 97 = .ok (.lstore_n 2, 1) := by decide +kernel
theorem dX4_digest_98 : decode cX4_digest 98 = .ok (.iconst 0, 1) := by decide +kernel
theorem dX4_digest_99 : decode cX4_digest 99 = .ok (.istore 4, 2) := by decide +kernel
theorem dX4_digest_101 : decode cX4_digest 101 = .ok (.iload 4, 2) := by decide +kernel
theorem dX4_digest_103 : decode cX4_digest 103 = .ok (.bipush 8, 2) := by decide +kernel
theorem dX4_digest_105 : decode cX4_digest 105 = .ok (.if_icmp .gt 31, 3) := by decide +kernel
theorem dX4_digest_108 : decode cX4_digest 108 = .ok (.ldc2_w 191, 3) := by decide +kernel
theorem dX4_digest_111 : decode cX4_digest 111 = .ok (.lload_n 2, 1) := by decide +kernel
theorem dX4_digest_112 : decode cX4_digest 112 = .ok (.lmul, 1) := by decide +kernel
theorem dX4_digest_113 : decode cX4_digest 113 = .ok (.iload_n 1, 1) := by decide +kernel
theorem dX4_digest_114 : decode cX4_digest 114 = .ok (.ifCond .eq 12, 3) := by decide +kernel
theorem dX4_digest_117 : decode cX4_digest 117 = .ok (.aload_n 0, 1) := by decide +kernel
theorem dX4_digest_118 : decode cX4_digest 118 = .ok (.iload 4, 2) := by decide +kernel
theorem dX4_digest_120 : decode cX4_digest 120 = .ok (.invokevirtual 162, 3) := by decide +kernel
theorem dX4_digest_123 : decode cX4_digest 123 = .ok (.goto 4, 3) := by decide +kernel
theorem dX4_digest_126 : decode cX4_digest 126 = .ok (.iconst (-1), 1) := by decide +kernel
theorem dX4_digest_127 : decode cX4_digest 127 = .ok (.i2l, 1) := by decide +kernel
theorem dX4_digest_128 : decode cX4_digest 128 = .ok (.ladd, 1) := by decide +kernel
theorem dX4_digest_129 : decode cX4_digest 129 = .ok (.lstore_n 2, 1) := by decide +kernel
theorem dX4_digest_130 : decode cX4_digest 130 = .ok (.iinc 4 1, 3) := by decide +kernel
theorem dX4_digest_133 : decode cX4_digest 133 = .ok (.goto (-32), 3) := by decide +kernel
theorem dX4_digest_136 : decode cX4_digest 136 = .ok (.iconst 0, 1) := by decide +kernel
theorem dX4_digest_137 : decode cX4_digest 137 = .ok (.istore 4, 2) := by decide +kernel
theorem dX4_digest_139 : decode cX4_digest 139 = .ok (.iload 4, 2) := by decide +kernel
theorem dX4_digest_141 : decode cX4_digest 141 = .ok (.aload_n 0, 1) := by decide +kernel
theorem dX4_digest_142 : decode cX4_digest 142 = .ok (.getfield 56, 3) := by decide +kernel
theorem dX4_digest_145 : decode cX4_digest 145 = .ok (.if_icmp .ge 34, 3) := by decide +kernel
theorem dX4_digest_148 : decode cX4_digest 148 = .ok (.iload 4, 2) := by decide +kernel
theorem dX4_digest_150 : decode cX4_digest 150 = .ok (.aload_n 0, 1) := by decide +kernel
theorem dX4_digest_151 : decode cX4_digest 151 = .ok (.getfield 9, 3) := by decide +kernel
theorem dX4_digest_154 : decode cX4_digest 154 = .ok (.arraylength, 1) := by decide +kernel
theorem dX4_digest_155 : decode cX4_digest 155 = .ok (.if_icmp .ge 24, 3) := by decide +kernel
theorem dX4_digest_158 : decode cX4_digest 158 = .ok (.ldc2_w 191, 3) := by decide +kernel
theorem dX4_digest_161 : decode cX4_digest 161 = .ok (.lload_n 2, 1) := by decide +kernel
theorem dX4_digest_162 : decode cX4_digest 162 = .ok (.lmul, 1) := by decide +kernel
theorem dX4_digest_163 : decode cX4_digest 163 = .ok (.aload_n 0, 1) := by decide +kernel
theorem dX4_digest_164 : decode cX4_digest 164 = .ok (.getfield 9, 3) := by decide +kernel
theorem dX4_digest_167 : decode cX4_digest 167 = .ok (.iload 4, 2) := by decide +kernel
theorem dX4_digest_169 : decode cX4_digest 169 = .ok (.iaload, 1) := by decide +kernel
theorem dX4_digest_170 : decode cX4_digest 170 = .ok (.i2l, 1) := by decide +kernel
theorem dX4_digest_171 : decode cX4_digest 171 = .ok (.ladd, 1) := by decide +kernel
theorem dX4_digest_172 : decode cX4_digest 172 = .ok (.lstore_n 2, 1) := by decide +kernel
theorem dX4_digest_173 : decode cX4_digest 173 = .ok (.iinc 4 1, 3) := by decide +kernel
theorem dX4_digest_176 : decode cX4_digest 176 = .ok (.goto (-37), 3) := by decide +kernel
theorem dX4_digest_179 : decode cX4_digest 179 = .ok (.lload_n 2, 1) := by decide +kernel
theorem dX4_digest_180 : decode cX4_digest 180 = .ok (.lreturn, 1) := by decide +kernel
set_option maxRecDepth 20000 in
theorem ggX4_digestShape_X2_tree : GoodIn wsX4_digestShape wsX2_tree := goodIn_r _ [7, 8, 9, 161, 162, 163] (by decide +kernel) (by decide +kernel)
set_option maxRecDepth 20000 in
theorem gX4_digestShape_X2_tree : GoodIn wsX4_digestShape (wsV RX4 69 RX2 yX2_tree wsX2_tree) := goodIn_app (goodIn_of _ (by decide +kernel)) ggX4_digestShape_X2_tree
set_option maxRecDepth 20000 in
theorem ggX4_digestShape_X4_digestNodes : GoodIn wsX4_digestShape wsX4_digestNodes := goodIn_r _ [13, 2, 14, 15, 16, 12, 17, 18, 19, 20, 21, 22, 23, 24, 25, 26, 27, 28, 29, 30, 31, 32, 33, 34, 35, 36, 37, 38, 39, 40, 41, 42, 43, 44, 45, 164, 165, 166] (by decide +kernel) (by decide +kernel)
set_option maxRecDepth 20000 in
theorem gX4_digestShape_X4_digestNodes : GoodIn wsX4_digestShape (va_wsS RX4 197 yX4_digestNodes wsX4_digestNodes) := goodIn_app (goodIn_of _ (by decide +kernel)) ggX4_digestShape_X4_digestNodes
set_option maxRecDepth 20000 in
theorem ggX4_digestShape_X4_seekMisfit : GoodIn wsX4_digestShape wsX4_seekMisfit := goodIn_r _ [49, 50, 14, 51, 52, 53, 54, 55, 56, 57, 58, 59, 60, 61, 12, 62, 23, 24, 25, 26, 27, 28, 29, 63, 64, 65, 66, 43, 44, 45, 37, 67, 68, 69, 70, 71, 72, 73, 74, 75, 76, 77, 78, 79, 80, 81, 153, 154, 155, 156, 157, 158, 159, 160, 164, 165, 166, 167, 168, 169, 170, 171, 172, 173, 174, 175, 176] (by decide +kernel) (by decide +kernel)
set_option maxRecDepth 20000 in
theorem gX4_digestShape_X4_seekMisfit : GoodIn wsX4_digestShape (wsV RX4 171 RX4 yX4_seekMisfit wsX4_seekMisfit) := goodIn_app (goodIn_of _ (by decide +kernel)) ggX4_digestShape_X4_seekMisfit
set_option maxRecDepth 20000 in
theorem ggX4_digestShape_X4_workOutLearned : GoodIn wsX4_digestShape wsX4_workOutLearned := goodIn_r _ [85, 51, 86, 18, 14, 87, 88, 89, 26, 90, 29, 28, 91, 92, 93, 94, 95, 96, 97, 98, 99, 100, 101, 102, 103, 104, 105, 12, 106, 23, 24, 25, 27, 67, 68, 69, 70, 71, 72, 73, 74, 37, 107, 108, 109, 110, 111, 112, 113, 114, 115, 63, 64, 65, 116, 117, 118, 119, 42, 43, 44, 45, 153, 154, 155, 156, 157, 158, 159, 160, 167, 168, 169, 170, 171, 172, 173, 164, 165, 166] (by decide +kernel) (by decide +kernel)
set_option maxRecDepth 20000 in
theorem gX4_digestShape_X4_workOutLearned : GoodIn wsX4_digestShape (wsV RX4 73 RX4 yX4_workOutLearned wsX4_workOutLearned) := goodIn_app (goodIn_of _ (by decide +kernel)) ggX4_digestShape_X4_workOutLearned
set_option maxRecDepth 20000 in
theorem ggX4_digestShape_X4_misfitNumber : GoodIn wsX4_digestShape wsX4_misfitNumber := goodIn_r _ [123, 50, 153, 154, 155, 156, 157, 158, 159, 160, 174, 175, 176] (by decide +kernel) (by decide +kernel)
set_option maxRecDepth 20000 in
theorem gX4_digestShape_X4_misfitNumber : GoodIn wsX4_digestShape (wsV RX4 174 RX4 yX4_misfitNumber wsX4_misfitNumber) := goodIn_app (goodIn_of _ (by decide +kernel)) ggX4_digestShape_X4_misfitNumber
set_option maxRecDepth 20000 in
theorem ggX4_digestShape_X4_outlookNumber : GoodIn wsX4_digestShape wsX4_outlookNumber := goodIn_r _ [127, 86, 14, 128, 129, 130, 12, 131, 1, 132, 133, 134, 135, 136, 23, 24, 25, 26, 27, 28, 29, 153, 154, 155, 156, 157, 158, 159, 160, 164, 165, 166, 161, 162, 163] (by decide +kernel) (by decide +kernel)
set_option maxRecDepth 20000 in
theorem gX4_digestShape_X4_outlookNumber : GoodIn wsX4_digestShape (wsV RX4 179 RX4 yX4_outlookNumber wsX4_outlookNumber) := goodIn_app (goodIn_of _ (by decide +kernel)) ggX4_digestShape_X4_outlookNumber
set_option maxRecDepth 20000 in
theorem ggX4_digestShape_X4_coversOther : GoodIn wsX4_digestShape wsX4_coversOther := goodIn_r _ [140, 1, 14, 3, 4, 5, 6, 7, 8, 9, 141, 142, 12, 143, 23, 24, 25, 26, 27, 28, 29, 63, 64, 65, 67, 68, 69, 70, 71, 72, 73, 74, 37, 78, 79, 80, 81, 153, 154, 155, 156, 157, 158, 159, 160, 164, 165, 166, 161, 162, 163] (by decide +kernel) (by decide +kernel)
set_option maxRecDepth 20000 in
theorem gX4_digestShape_X4_coversOther : GoodIn wsX4_digestShape (wsV RX4 182 RX4 yX4_coversOther wsX4_coversOther) := goodIn_app (goodIn_of _ (by decide +kernel)) ggX4_digestShape_X4_coversOther
set_option maxRecDepth 20000 in
theorem ggX4_digestShape_X4_shareOfSure : GoodIn wsX4_digestShape wsX4_shareOfSure := goodIn_r _ [146, 14, 23, 24, 25, 26, 27, 28, 29, 164, 165, 166] (by decide +kernel) (by decide +kernel)
set_option maxRecDepth 20000 in
theorem gX4_digestShape_X4_shareOfSure : GoodIn wsX4_digestShape (va_wsS RX4 185 yX4_shareOfSure wsX4_shareOfSure) := goodIn_app (goodIn_of _ (by decide +kernel)) ggX4_digestShape_X4_shareOfSure
set_option maxRecDepth 20000 in
theorem ggX4_digestShape_X4_bitsOfShare : GoodIn wsX4_digestShape wsX4_bitsOfShare := goodIn_r _ [149, 150, 151, 152] (by decide +kernel) (by decide +kernel)
set_option maxRecDepth 20000 in
theorem gX4_digestShape_X4_bitsOfShare : GoodIn wsX4_digestShape (va_wsS RX4 201 yX4_bitsOfShare wsX4_bitsOfShare) := goodIn_app (goodIn_of _ (by decide +kernel)) ggX4_digestShape_X4_bitsOfShare
theorem dX4_digestShape_0 : decode cX4_digestShape 0 = .ok (.aload_n 0, 1) := by decide +kernel
theorem dX4_digestShape_1 : decode cX4_digestShape 1 = .ok (.getfield 23, 3) := by decide +kernel
theorem dX4_digestShape_4 : decode cX4_digestShape 4 = .ok (.iload_n 3, 1) := by decide +kernel
theorem dX4_digestShape_5 : decode cX4_digestShape 5 = .ok (.invokevirtual 69, 3) := by decide +kernel
theorem dX4_digestShape_8 : decode cX4_digestShape 8 = .ok (.astore 5, 2) := by decide +kernel
theorem dX4_digestShape_10 : decode cX4_digestShape 10 = .ok (.lload_n 1, 1) := by decide +kernel
theorem dX4_digestShape_11 : decode cX4_digestShape 11 = .ok (.aload 5, 2) := by decide +kernel
theorem dX4_digestShape_13 : decode cX4_digestShape 13 = .ok (.invokestatic 197, 3) := by decide +kernel
theorem dX4_digestShape_16 : decode cX4_digestShape 16 = .ok (.lstore 6, 2) := by decide +kernel
theorem dX4_digestShape_18 : decode cX4_digestShape 18 = .ok (.iload 4, 2) := by decide +kernel
theorem dX4_digestShape_20 : decode cX4_digestShape 20 = .ok (.ifCond .eq 15, 3) := by decide +kernel
theorem dX4_digestShape_23 : decode cX4_digestShape 23 = .ok (.aload_n 0, 1) := by decide +kernel
theorem dX4_digestShape_24 : decode cX4_digestShape 24 = .ok (.aload 5, 2) := by decide +kernel
theorem dX4_digestShape_26 : decode cX4_digestShape 26 = .ok (.invokevirtual 171, 3) := by decide +kernel
theorem dX4_digestShape_29 : decode cX4_digestShape 29 = .ok (.aload_n 0, 1) := by decide +kernel
theorem dX4_digestShape_30 : decode cX4_digestShape 30 = .ok (.aload 5, 2) := by decide +kernel
theorem dX4_digestShape_32 : decode cX4_digestShape 32 = .ok (.invokevirtual 73, 3) := by decide +kernel
theorem dX4_digestShape_35 : decode cX4_digestShape 35 = .ok (.iconst 0, 1) := by decide +kernel
theorem dX4_digestShape_36 : decode cX4_digestShape 36 = .ok (.istore 8, 2) := by decide +kernel
theorem dX4_digestShape_38 : decode cX4_digestShape 38 = .ok (.iload 8, 2) := by decide +kernel
theorem dX4_digestShape_40 : decode cX4_digestShape 40 = .ok (.iconst 2, 1) := by decide +kernel
theorem dX4_digestShape_41 : decode cX4_digestShape 41 = .ok (.if_icmp .gt 34, 3) := by decide +kernel
theorem dX4_digestShape_44 : decode cX4_digestShape 44 = .ok (.ldc2_w 191, 3) := by decide +kernel
theorem dX4_digestShape_47 : decode cX4_digestShape 47 = .ok (.lload 6, 2) := by decide +kernel
theorem dX4_digestShape_49 : decode cX4_digestShape 49 = .ok (.lmul, 1) := by decide +kernel
theorem dX4_digestShape_50 : decode cX4_digestShape 50 = .ok (.iload 4, 2) := by decide +kernel
theorem dX4_digestShape_52 : decode cX4_digestShape 52 = .ok (.ifCond .eq 12, 3) := by decide +kernel
theorem dX4_digestShape_55 : decode cX4_digestShape 55 = .ok (.aload_n 0, 1) := by decide +kernel
theorem dX4_digestShape_56 : decode cX4_digestShape 56 = .ok (.iload 8, 2) := by decide +kernel
theorem dX4_digestShape_58 : decode cX4_digestShape 58 = .ok (.invokevirtual 174, 3) := by decide +kernel
theorem dX4_digestShape_61 : decode cX4_digestShape 61 = .ok (.goto 4, 3) := by decide +kernel
theorem dX4_digestShape_64 : decode cX4_digestShape 64 = .ok (.iconst (-1), 1) := by decide +kernel
theorem dX4_digestShape_65 : decode cX4_digestShape 65 = .ok (.i2l, 1) := by decide +kernel
theorem dX4_digestShape_66 : decode cX4_digestShape 66 = .ok (.ladd, 1) := by decide +kernel
theorem dX4_digestShape_67 : decode cX4_digestShape 67 = .ok (.lstore 6, 2) := by decide +kernel
theorem dX4_digestShape_69 : decode cX4_digestShape 69 = .ok (.iinc 8 1, 3) := by decide +kernel
theorem dX4_digestShape_72 : decode cX4_digestShape 72 = .ok (.goto (-34), 3) := by decide +kernel
theorem dX4_digestShape_75 : decode cX4_digestShape 75 = .ok (.iconst 0, 1) := by decide +kernel
theorem dX4_digestShape_76 : decode cX4_digestShape 76 = .ok (.istore 8, 2) := by decide +kernel
theorem dX4_digestShape_78 : decode cX4_digestShape 78 = .ok (.iload 8, 2) := by decide +kernel
theorem dX4_digestShape_80 : decode cX4_digestShape 80 = .ok (.iconst 4, 1) := by decide +kernel
theorem dX4_digestShape_81 : decode cX4_digestShape 81 = .ok (.if_icmp .gt 36, 3) := by decide +kernel
theorem dX4_digestShape_84 : decode cX4_digestShape 84 = .ok (.ldc2_w 191, 3) := by decide +kernel
theorem dX4_digestShape_87 : decode cX4_digestShape 87 = .ok (.lload 6, 2) := by decide +kernel
theorem dX4_digestShape_89 : decode cX4_digestShape 89 = .ok (.lmul, 1) := by decide +kernel
theorem dX4_digestShape_90 : decode cX4_digestShape 90 = .ok (.iload 4, 2) := by decide +kernel
theorem dX4_digestShape_92 : decode cX4_digestShape 92 = .ok (.ifCond .eq 14, 3) := by decide +kernel
theorem dX4_digestShape_95 : decode cX4_digestShape 95 = .ok (.aload_n 0, 1) := by decide +kernel
theorem dX4_digestShape_96 : decode cX4_digestShape 96 = .ok (.aload 5, 2) := by decide +kernel
theorem dX4_digestShape_98 : decode cX4_digestShape 98 = .ok (.iload 8, 2) := by decide +kernel
theorem dX4_digestShape_100 : decode cX4_digestShape 100 = .ok (.invokevirtual 179, 3) := by decide +kernel
theorem dX4_digestShape_103 : decode cX4_digestShape 103 = .ok (.goto 4, 3) := by decide +kernel
theorem dX4_digestShape_106 : decode cX4_digestShape 106 = .ok (.iconst (-1), 1) := by decide +kernel
theorem dX4_digestShape_107 : decode cX4_digestShape 107 = .ok (.i2l, 1) := by decide +kernel
theorem dX4_digestShape_108 : decode cX4_digestShape 108 = .ok (.ladd, 1) := by decide +kernel
theorem dX4_digestShape_109 : decode cX4_digestShape 109 = .ok (.lstore 6, 2) := by decide +kernel
theorem dX4_digestShape_111 : decode cX4_digestShape 111 = .ok (.iinc 8 1, 3) := by decide +kernel
theorem dX4_digestShape_114 : decode cX4_digestShape 114 = .ok (.goto (-36), 3) := by decide +kernel
theorem dX4_digestShape_117 : decode cX4_digestShape 117 = .ok (.ldc2_w 191, 3) := by decide +kernel
theorem dX4_digestShape_120 : decode cX4_digestShape 120 = .ok (.lload 6, 2) := by decide +kernel
theorem dX4_digestShape_122 : decode cX4_digestShape 122 = .ok (.lmul, 1) := by decide +kernel
theorem dX4_digestShape_123 : decode cX4_digestShape 123 = .ok (.aload_n 0, 1) := by decide +kernel
theorem dX4_digestShape_124 : decode cX4_digestShape 124 = .ok (.iload_n 3, 1) := by decide +kernel
theorem dX4_digestShape_125 : decode cX4_digestShape 125 = .ok (.invokevirtual 182, 3) := by decide +kernel
theorem dX4_digestShape_128 : decode cX4_digestShape 128 = .ok (.ifCond .eq 7, 3) := by decide +kernel
theorem dX4_digestShape_131 : decode cX4_digestShape 131 = .ok (.iconst 1, 1) := by decide +kernel
theorem dX4_digestShape_132 : decode cX4_digestShape 132 = .ok (.goto 4, 3) := by decide +kernel
theorem dX4_digestShape_135 : decode cX4_digestShape 135 = .ok (.iconst 0, 1) := by decide +kernel
theorem dX4_digestShape_136 : decode cX4_digestShape 136 = .ok (.i2l, 1) := by decide +kernel
theorem dX4_digestShape_137 : decode cX4_digestShape 137 = .ok (.ladd, 1) := by decide +kernel
theorem dX4_digestShape_138 : decode cX4_digestShape 138 = .ok (.lstore 6, 2) := by decide +kernel
theorem dX4_digestShape_140 : decode cX4_digestShape 140 = .ok (.ldc2_w 191, 3) := by decide +kernel
theorem dX4_digestShape_143 : decode cX4_digestShape 143 = .ok (.lload 6, 2) := by decide +kernel
theorem dX4_digestShape_145 : decode cX4_digestShape 145 = .ok (.lmul, 1) := by decide +kernel
theorem dX4_digestShape_146 : decode cX4_digestShape 146 = .ok (.aload 5, 2) := by decide +kernel
theorem dX4_digestShape_148 : decode cX4_digestShape 148 = .ok (.invokestatic 185, 3) := by decide +kernel
theorem dX4_digestShape_151 : decode cX4_digestShape 151 = .ok (.invokestatic 201, 3) := by decide +kernel
theorem dX4_digestShape_154 : decode cX4_digestShape 154 = .ok (.ladd, 1) := by decide +kernel
theorem dX4_digestShape_155 : decode cX4_digestShape 155 = .ok (.lreturn, 1) := by decide +kernel
set_option maxRecDepth 20000 in
theorem ggX4_digestNodes_X4_shapeNumber : GoodIn wsX4_digestNodes wsX4_shapeNumber := goodIn_r _ [6, 7, 2, 8, 9, 10, 11, 12, 13, 14, 15, 16, 17, 18, 35, 36, 37] (by decide +kernel) (by decide +kernel)
set_option maxRecDepth 20000 in
theorem gX4_digestNodes_X4_shapeNumber : GoodIn wsX4_digestNodes (va_wsS RX4 156 yX4_shapeNumber wsX4_shapeNumber) := goodIn_app (goodIn_of _ (by decide +kernel)) ggX4_digestNodes_X4_shapeNumber
set_option maxRecDepth 20000 in
theorem ggX4_digestNodes_X4_nodeNumber : GoodIn wsX4_digestNodes wsX4_nodeNumber := goodIn_r _ [21, 12, 13, 14, 15, 16, 17, 18, 22, 23, 24, 25, 26, 27, 28, 29, 30, 31, 32, 33, 34, 35, 36, 37] (by decide +kernel) (by decide +kernel)
set_option maxRecDepth 20000 in
theorem gX4_digestNodes_X4_nodeNumber : GoodIn wsX4_digestNodes (va_wsS RX4 144 yX4_nodeNumber wsX4_nodeNumber) := goodIn_app (goodIn_of _ (by decide +kernel)) ggX4_digestNodes_X4_nodeNumber
theorem dX4_digestNodes_0 : decode cX4_digestNodes 0 = .ok (.lload_n 0, 1) := by decide +kernel
theorem dX4_digestNodes_1 : decode cX4_digestNodes 1 = .ok (.lstore_n 3, 1) := by decide +kernel
theorem dX4_digestNodes_2 : decode cX4_digestNodes 2 = .ok (.iconst 0, 1) := by decide +kernel
theorem dX4_digestNodes_3 : decode cX4_digestNodes 3 = .ok (.istore 5, 2) := by decide +kernel
theorem dX4_digestNodes_5 : decode cX4_digestNodes 5 = .ok (.iload 5, 2) := by decide +kernel
theorem dX4_digestNodes_7 : decode cX4_digestNodes 7 = .ok (.iconst 5, 1) := by decide +kernel
theorem dX4_digestNodes_8 : decode cX4_digestNodes 8 = .ok (.if_icmp .gt 23, 3) := by decide +kernel
theorem dX4_digestNodes_11 : decode cX4_digestNodes 11 = .ok (.ldc2_w 191, 3) := by decide +kernel
theorem dX4_digestNodes_14 : decode cX4_digestNodes 14 = .ok (.lload_n 3, 1) := by decide +kernel
theorem dX4_digestNodes_15 : decode cX4_digestNodes 15 = .ok (.lmul, 1) := by decide +kernel
theorem dX4_digestNodes_16 : decode cX4_digestNodes 16 = .ok (.aload_n 2, 1) := by decide +kernel
theorem dX4_digestNodes_17 : decode cX4_digestNodes 17 = .ok (.iload 5, 2) := by decide +kernel
theorem dX4_digestNodes_19 : decode cX4_digestNodes 19 = .ok (.invokestatic 156, 3) := by decide +kernel
theorem dX4_digestNodes_22 : decode cX4_digestNodes 22 = .ok (.i2l, 1) := by decide +kernel
theorem dX4_digestNodes_23 : decode cX4_digestNodes 23 = .ok (.ladd, 1) := by decide +kernel
theorem dX4_digestNodes_24 : decode cX4_digestNodes 24 = .ok (.lstore_n 3, 1) := by decide +kernel
theorem dX4_digestNodes_25 : decode cX4_digestNodes 25 = .ok (.iinc 5 1, 3) := by decide +kernel
theorem dX4_digestNodes_28 : decode cX4_digestNodes 28 = .ok (.goto (-23), 3) := by decide +kernel
theorem dX4_digestNodes_31 : decode cX4_digestNodes 31 = .ok (.iconst 0, 1) := by decide +kernel
theorem dX4_digestNodes_32 : decode cX4_digestNodes 32 = .ok (.istore 5, 2) := by decide +kernel
theorem dX4_digestNodes_34 : decode cX4_digestNodes 34 = .ok (.iload 5, 2) := by decide +kernel
theorem dX4_digestNodes_36 : decode cX4_digestNodes 36 = .ok (.aload_n 2, 1) := by decide +kernel
theorem dX4_digestNodes_37 : decode cX4_digestNodes 37 = .ok (.getfield 92, 3) := by decide +kernel
theorem dX4_digestNodes_40 : decode cX4_digestNodes 40 = .ok (.if_icmp .ge 41, 3) := by decide +kernel
theorem dX4_digestNodes_43 : decode cX4_digestNodes 43 = .ok (.iconst 0, 1) := by decide +kernel
theorem dX4_digestNodes_44 : decode cX4_digestNodes 44 = .ok (.istore 6, 2) := by decide +kernel
theorem dX4_digestNodes_46 : decode cX4_digestNodes 46 = .ok (.iload 6, 2) := by decide +kernel
theorem dX4_digestNodes_48 : decode cX4_digestNodes 48 = .ok (.bipush 9, 2) := by decide +kernel
theorem dX4_digestNodes_50 : decode cX4_digestNodes 50 = .ok (.if_icmp .gt 25, 3) := by decide +kernel
theorem dX4_digestNodes_53 : decode cX4_digestNodes 53 = .ok (.ldc2_w 191, 3) := by decide +kernel
theorem dX4_digestNodes_56 : decode cX4_digestNodes 56 = .ok (.lload_n 3, 1) := by decide +kernel
theorem dX4_digestNodes_57 : decode cX4_digestNodes 57 = .ok (.lmul, 1) := by decide +kernel
theorem dX4_digestNodes_58 : decode cX4_digestNodes 58 = .ok (.aload_n 2, 1) := by decide +kernel
theorem dX4_digestNodes_59 : decode cX4_digestNodes 59 = .ok (.iload 5, 2) := by decide +kernel
theorem dX4_digestNodes_61 : decode cX4_digestNodes 61 = .ok (.iload 6, 2) := by decide +kernel
theorem dX4_digestNodes_63 : decode cX4_digestNodes 63 = .ok (.invokestatic 144, 3) := by decide +kernel
theorem dX4_digestNodes_66 : decode cX4_digestNodes 66 = .ok (.i2l, 1) := by decide +kernel
theorem dX4_digestNodes_67 : decode cX4_digestNodes 67 = .ok (.ladd, 1) := by decide +kernel
theorem dX4_digestNodes_68 : decode cX4_digestNodes 68 = .ok (.lstore_n 3, 1) := by decide +kernel
theorem dX4_digestNodes_69 : decode cX4_digestNodes 69 = .ok (.iinc 6 1, 3) := by decide +kernel
theorem dX4_digestNodes_72 : decode cX4_digestNodes 72 = .ok (.goto (-26), 3) := by decide +kernel
theorem dX4_digestNodes_75 : decode cX4_digestNodes 75 = .ok (.iinc 5 1, 3) := by decide +kernel
theorem dX4_digestNodes_78 : decode cX4_digestNodes 78 = .ok (.goto (-44), 3) := by decide +kernel
theorem dX4_digestNodes_81 : decode cX4_digestNodes 81 = .ok (.lload_n 3, 1) := by decide +kernel
theorem dX4_digestNodes_82 : decode cX4_digestNodes 82 = .ok (.lreturn, 1) := by decide +kernel
theorem dX4_bitsOfShare_0 : decode cX4_bitsOfShare 0 = .ok (.dload_n 0, 1) := by decide +kernel
theorem dX4_bitsOfShare_1 : decode cX4_bitsOfShare 1 = .ok (.dconst 0, 1) := by decide +kernel
theorem dX4_bitsOfShare_2 : decode cX4_bitsOfShare 2 = .ok (.dcmp .l, 1) := by decide +kernel
theorem dX4_bitsOfShare_3 : decode cX4_bitsOfShare 3 = .ok (.ifCond .gt 5, 3) := by decide +kernel
theorem dX4_bitsOfShare_6 : decode cX4_bitsOfShare 6 = .ok (.lconst 0, 1) := by decide +kernel
theorem dX4_bitsOfShare_7 : decode cX4_bitsOfShare 7 = .ok (.lreturn, 1) := by decide +kernel
theorem dX4_bitsOfShare_8 : decode cX4_bitsOfShare 8 = .ok (.dload_n 0, 1) := by decide +kernel
theorem dX4_bitsOfShare_9 : decode cX4_bitsOfShare 9 = .ok (.dstore_n 2, 1) := by decide +kernel
theorem dX4_bitsOfShare_10 : decode cX4_bitsOfShare 10 = .ok (.ldc2_w 205, 3) := by decide +kernel
theorem dX4_bitsOfShare_13 : decode cX4_bitsOfShare 13 = .ok (.lstore 4, 2) := by decide +kernel
theorem dX4_bitsOfShare_15 : decode cX4_bitsOfShare 15 = .ok (.iconst 0, 1) := by decide +kernel
theorem dX4_bitsOfShare_16 : decode cX4_bitsOfShare 16 = .ok (.istore 6, 2) := by decide +kernel
theorem dX4_bitsOfShare_18 : decode cX4_bitsOfShare 18 = .ok (.iload 6, 2) := by decide +kernel
theorem dX4_bitsOfShare_20 : decode cX4_bitsOfShare 20 = .ok (.bipush 64, 2) := by decide +kernel
theorem dX4_bitsOfShare_22 : decode cX4_bitsOfShare 22 = .ok (.if_icmp .ge 27, 3) := by decide +kernel
theorem dX4_bitsOfShare_25 : decode cX4_bitsOfShare 25 = .ok (.dload_n 2, 1) := by decide +kernel
theorem dX4_bitsOfShare_26 : decode cX4_bitsOfShare 26 = .ok (.dconst 1, 1) := by decide +kernel
theorem dX4_bitsOfShare_27 : decode cX4_bitsOfShare 27 = .ok (.dcmp .g, 1) := by decide +kernel
theorem dX4_bitsOfShare_28 : decode cX4_bitsOfShare 28 = .ok (.ifCond .ge 21, 3) := by decide +kernel
theorem dX4_bitsOfShare_31 : decode cX4_bitsOfShare 31 = .ok (.dload_n 2, 1) := by decide +kernel
theorem dX4_bitsOfShare_32 : decode cX4_bitsOfShare 32 = .ok (.ldc2_w 207, 3) := by decide +kernel
theorem dX4_bitsOfShare_35 : decode cX4_bitsOfShare 35 = .ok (.dmul, 1) := by decide +kernel
theorem dX4_bitsOfShare_36 : decode cX4_bitsOfShare 36 = .ok (.dstore_n 2, 1) := by decide +kernel
theorem dX4_bitsOfShare_37 : decode cX4_bitsOfShare 37 = .ok (.lload 4, 2) := by decide +kernel
theorem dX4_bitsOfShare_39 : decode cX4_bitsOfShare 39 = .ok (.lconst 1, 1) := by decide +kernel
theorem dX4_bitsOfShare_40 : decode cX4_bitsOfShare 40 = .ok (.lsub, 1) := by decide +kernel
theorem dX4_bitsOfShare_41 : decode cX4_bitsOfShare 41 = .ok (.lstore 4, 2) := by decide +kernel
theorem dX4_bitsOfShare_43 : decode cX4_bitsOfShare 43 = .ok (.iinc 6 1, 3) := by decide +kernel
theorem dX4_bitsOfShare_46 : decode cX4_bitsOfShare 46 = .ok (.goto (-28), 3) := by decide +kernel
theorem dX4_bitsOfShare_49 : decode cX4_bitsOfShare 49 = .ok (.lload 4, 2) := by decide +kernel
theorem dX4_bitsOfShare_51 : decode cX4_bitsOfShare 51 = .ok (.bipush 52, 2) := by decide +kernel
theorem dX4_bitsOfShare_53 : decode cX4_bitsOfShare 53 = .ok (.lshl, 1) := by decide +kernel
theorem dX4_bitsOfShare_54 : decode cX4_bitsOfShare 54 = .ok (.dload_n 2, 1) := by decide +kernel
theorem dX4_bitsOfShare_55 : decode cX4_bitsOfShare 55 = .ok (.dconst 1, 1) := by decide +kernel
theorem dX4_bitsOfShare_56 : decode cX4_bitsOfShare 56 = .ok (.dsub, 1) := by decide +kernel
theorem dX4_bitsOfShare_57 : decode cX4_bitsOfShare 57 = .ok (.ldc2_w 209, 3) := by decide +kernel
theorem dX4_bitsOfShare_60 : decode cX4_bitsOfShare 60 = .ok (.dmul, 1) := by decide +kernel
theorem dX4_bitsOfShare_61 : decode cX4_bitsOfShare 61 = .ok (.d2l, 1) := by decide +kernel
theorem dX4_bitsOfShare_62 : decode cX4_bitsOfShare 62 = .ok (.ladd, 1) := by decide +kernel
theorem dX4_bitsOfShare_63 : decode cX4_bitsOfShare 63 = .ok (.lreturn, 1) := by decide +kernel
theorem dX4_isShape_0 : decode cX4_isShape 0 = .ok (.iload_n 0, 1) := by decide +kernel
theorem dX4_isShape_1 : decode cX4_isShape 1 = .ok (.ifCond .eq 8, 3) := by decide +kernel
theorem dX4_isShape_4 : decode cX4_isShape 4 = .ok (.iload_n 0, 1) := by decide +kernel
theorem dX4_isShape_5 : decode cX4_isShape 5 = .ok (.iconst 1, 1) := by decide +kernel
theorem dX4_isShape_6 : decode cX4_isShape 6 = .ok (.if_icmp .ne 7, 3) := by decide +kernel
theorem dX4_isShape_9 : decode cX4_isShape 9 = .ok (.iconst 1, 1) := by decide +kernel
theorem dX4_isShape_10 : decode cX4_isShape 10 = .ok (.goto 4, 3) := by decide +kernel
theorem dX4_isShape_13 : decode cX4_isShape 13 = .ok (.iconst 0, 1) := by decide +kernel
theorem dX4_isShape_14 : decode cX4_isShape 14 = .ok (.ireturn, 1) := by decide +kernel
theorem dX4_savedAt_0 : decode cX4_savedAt 0 = .ok (.iload_n 1, 1) := by decide +kernel
theorem dX4_savedAt_1 : decode cX4_savedAt 1 = .ok (.ifCond .lt 21, 3) := by decide +kernel
theorem dX4_savedAt_4 : decode cX4_savedAt 4 = .ok (.iload_n 1, 1) := by decide +kernel
theorem dX4_savedAt_5 : decode cX4_savedAt 5 = .ok (.aload_n 0, 1) := by decide +kernel
theorem dX4_savedAt_6 : decode cX4_savedAt 6 = .ok (.getfield 27, 3) := by decide +kernel
theorem dX4_savedAt_9 : decode cX4_savedAt 9 = .ok (.arraylength, 1) := by decide +kernel
theorem dX4_savedAt_10 : decode cX4_savedAt 10 = .ok (.if_icmp .ge 12, 3) := by decide +kernel
theorem dX4_savedAt_13 : decode cX4_savedAt 13 = .ok (.aload_n 0, 1) := by decide +kernel
theorem dX4_savedAt_14 : decode cX4_savedAt 14 = .ok (.getfield 27, 3) := by decide +kernel
theorem dX4_savedAt_17 : decode cX4_savedAt 17 = .ok (.iload_n 1, 1) := by decide +kernel
theorem dX4_savedAt_18 : decode cX4_savedAt 18 = .ok (.aaload, 1) := by decide +kernel
theorem dX4_savedAt_19 : decode cX4_savedAt 19 = .ok (.goto 4, 3) := by decide +kernel
theorem dX4_savedAt_22 : decode cX4_savedAt 22 = .ok (.aconst_null, 1) := by decide +kernel
theorem dX4_savedAt_23 : decode cX4_savedAt 23 = .ok (.areturn, 1) := by decide +kernel
set_option maxRecDepth 20000 in
theorem ggX4_saveState_X4_dropOldest : GoodIn wsX4_saveState wsX4_dropOldest := goodIn_r _ [8, 2, 1, 9, 10, 11, 7, 12, 36, 37, 38, 39, 40, 41, 42, 43] (by decide +kernel) (by decide +kernel)
set_option maxRecDepth 20000 in
theorem gX4_saveState_X4_dropOldest : GoodIn wsX4_saveState (wsV RX4 211 RX4 yX4_dropOldest wsX4_dropOldest) := goodIn_app (goodIn_of _ (by decide +kernel)) ggX4_saveState_X4_dropOldest
set_option maxRecDepth 20000 in
theorem ggX4_saveState_X4_savedAt : GoodIn wsX4_saveState wsX4_savedAt := goodIn_r _ [12, 2, 36, 37, 38, 39, 40, 41, 42, 43] (by decide +kernel) (by decide +kernel)
set_option maxRecDepth 20000 in
theorem gX4_saveState_X4_savedAt : GoodIn wsX4_saveState (wsV RX4 128 RX4 yX4_savedAt wsX4_savedAt) := goodIn_app (goodIn_of _ (by decide +kernel)) ggX4_saveState_X4_savedAt
set_option maxRecDepth 20000 in
theorem ggX4_saveState_X2_copyFrom : GoodIn wsX4_saveState wsX2_copyFrom := goodIn_r _ [17, 18, 19, 20, 21, 22, 23, 24, 25, 26, 27, 28, 29, 30, 31, 32, 33, 34, 35, 44, 45, 46, 47, 48, 49] (by decide +kernel) (by decide +kernel)
set_option maxRecDepth 20000 in
theorem gX4_saveState_X2_copyFrom : GoodIn wsX4_saveState (wsV RX4 134 RX2 yX2_copyFrom wsX2_copyFrom) := goodIn_app (goodIn_of _ (by decide +kernel)) ggX4_saveState_X2_copyFrom
theorem dX4_saveState_0 : decode cX4_saveState 0 = .ok (.aload_n 0, 1) := by decide +kernel
theorem dX4_saveState_1 : decode cX4_saveState 1 = .ok (.getfield 125, 3) := by decide +kernel
theorem dX4_saveState_4 : decode cX4_saveState 4 = .ok (.aload_n 0, 1) := by decide +kernel
theorem dX4_saveState_5 : decode cX4_saveState 5 = .ok (.getfield 27, 3) := by decide +kernel
theorem dX4_saveState_8 : decode cX4_saveState 8 = .ok (.arraylength, 1) := by decide +kernel
theorem dX4_saveState_9 : decode cX4_saveState 9 = .ok (.if_icmp .lt 7, 3) := by decide +kernel
theorem dX4_saveState_12 : decode cX4_saveState 12 = .ok (.aload_n 0, 1) := by decide +kernel
theorem dX4_saveState_13 : decode cX4_saveState 13 = .ok (.invokevirtual 211, 3) := by decide +kernel
theorem dX4_saveState_16 : decode cX4_saveState 16 = .ok (.aload_n 0, 1) := by decide +kernel
theorem dX4_saveState_17 : decode cX4_saveState 17 = .ok (.aload_n 0, 1) := by decide +kernel
theorem dX4_saveState_18 : decode cX4_saveState 18 = .ok (.getfield 125, 3) := by decide +kernel
theorem dX4_saveState_21 : decode cX4_saveState 21 = .ok (.invokevirtual 128, 3) := by decide +kernel
theorem dX4_saveState_24 : decode cX4_saveState 24 = .ok (.astore_n 1, 1) := by decide +kernel
theorem dX4_saveState_25 : decode cX4_saveState 25 = .ok (.aload_n 1, 1) := by decide +kernel
theorem dX4_saveState_26 : decode cX4_saveState 26 = .ok (.ifnull 21, 3) := by decide +kernel
theorem dX4_saveState_29 : decode cX4_saveState 29 = .ok (.aload_n 1, 1) := by decide +kernel
theorem dX4_saveState_30 : decode cX4_saveState 30 = .ok (.aload_n 0, 1) := by decide +kernel
theorem dX4_saveState_31 : decode cX4_saveState 31 = .ok (.getfield 23, 3) := by decide +kernel
theorem dX4_saveState_34 : decode cX4_saveState 34 = .ok (.invokevirtual 134, 3) := by decide +kernel
theorem dX4_saveState_37 : decode cX4_saveState 37 = .ok (.aload_n 0, 1) := by decide +kernel
theorem dX4_saveState_38 : decode cX4_saveState 38 = .ok (.dup, 1) := by decide +kernel
theorem dX4_saveState_39 : decode cX4_saveState 39 = .ok (.getfield 125, 3) := by decide +kernel
theorem dX4_saveState_42 : decode cX4_saveState 42 = .ok (.iconst 1, 1) := by decide +kernel
theorem dX4_saveState_43 : decode cX4_saveState 43 = .ok (.iadd, 1) := by decide +kernel
theorem dX4_saveState_44 : decode cX4_saveState 44 = .ok (.putfield 125, 3) := by decide +kernel
theorem dX4_saveState_47 : decode cX4_saveState 47 = .ok (.return_, 1) := by decide +kernel
set_option maxRecDepth 20000 in
theorem ggX4_dropOldest_X4_savedAt : GoodIn wsX4_dropOldest wsX4_savedAt := goodIn_r _ [7, 1, 8, 9, 10, 11, 12, 13, 14, 15] (by decide +kernel) (by decide +kernel)
set_option maxRecDepth 20000 in
theorem gX4_dropOldest_X4_savedAt : GoodIn wsX4_dropOldest (wsV RX4 128 RX4 yX4_savedAt wsX4_savedAt) := goodIn_app (goodIn_of _ (by decide +kernel)) ggX4_dropOldest_X4_savedAt
theorem dX4_dropOldest_0 : decode cX4_dropOldest 0 = .ok (.aload_n 0, 1) := by decide +kernel
theorem dX4_dropOldest_1 : decode cX4_dropOldest 1 = .ok (.iconst 0, 1) := by decide +kernel
theorem dX4_dropOldest_2 : decode cX4_dropOldest 2 = .ok (.invokevirtual 128, 3) := by decide +kernel
theorem dX4_dropOldest_5 : decode cX4_dropOldest 5 = .ok (.astore_n 1, 1) := by decide +kernel
theorem dX4_dropOldest_6 : decode cX4_dropOldest 6 = .ok (.iconst 1, 1) := by decide +kernel
theorem dX4_dropOldest_7 : decode cX4_dropOldest 7 = .ok (.istore_n 2, 1) := by decide +kernel
theorem dX4_dropOldest_8 : decode cX4_dropOldest 8 = .ok (.iload_n 2, 1) := by decide +kernel
theorem dX4_dropOldest_9 : decode cX4_dropOldest 9 = .ok (.aload_n 0, 1) := by decide +kernel
theorem dX4_dropOldest_10 : decode cX4_dropOldest 10 = .ok (.getfield 27, 3) := by decide +kernel
theorem dX4_dropOldest_13 : decode cX4_dropOldest 13 = .ok (.arraylength, 1) := by decide +kernel
theorem dX4_dropOldest_14 : decode cX4_dropOldest 14 = .ok (.if_icmp .ge 23, 3) := by decide +kernel
theorem dX4_dropOldest_17 : decode cX4_dropOldest 17 = .ok (.aload_n 0, 1) := by decide +kernel
theorem dX4_dropOldest_18 : decode cX4_dropOldest 18 = .ok (.getfield 27, 3) := by decide +kernel
theorem dX4_dropOldest_21 : decode cX4_dropOldest 21 = .ok (.iload_n 2, 1) := by decide +kernel
theorem dX4_dropOldest_22 : decode cX4_dropOldest 22 = .ok (.iconst 1, 1) := by decide +kernel
theorem dX4_dropOldest_23 : decode cX4_dropOldest 23 = .ok (.isub, 1) := by decide +kernel
theorem dX4_dropOldest_24 : decode cX4_dropOldest 24 = .ok (.aload_n 0, 1) := by decide +kernel
theorem dX4_dropOldest_25 : decode cX4_dropOldest 25 = .ok (.getfield 27, 3) := by decide +kernel
theorem dX4_dropOldest_28 : decode cX4_dropOldest 28 = .ok (.iload_n 2, 1) := by decide +kernel
theorem dX4_dropOldest_29 : decode cX4_dropOldest 29 = .ok (.aaload, 1) := by decide +kernel
theorem dX4_dropOldest_30 : decode cX4_dropOldest 30 = .ok (.aastore, 1) := by decide +kernel
theorem dX4_dropOldest_31 : decode cX4_dropOldest 31 = .ok (.iinc 2 1, 3) := by decide +kernel
theorem dX4_dropOldest_34 : decode cX4_dropOldest 34 = .ok (.goto (-26), 3) := by decide +kernel
theorem dX4_dropOldest_37 : decode cX4_dropOldest 37 = .ok (.aload_n 0, 1) := by decide +kernel
theorem dX4_dropOldest_38 : decode cX4_dropOldest 38 = .ok (.getfield 27, 3) := by decide +kernel
theorem dX4_dropOldest_41 : decode cX4_dropOldest 41 = .ok (.arraylength, 1) := by decide +kernel
theorem dX4_dropOldest_42 : decode cX4_dropOldest 42 = .ok (.ifCond .le 26, 3) := by decide +kernel
theorem dX4_dropOldest_45 : decode cX4_dropOldest 45 = .ok (.aload_n 0, 1) := by decide +kernel
theorem dX4_dropOldest_46 : decode cX4_dropOldest 46 = .ok (.getfield 27, 3) := by decide +kernel
theorem dX4_dropOldest_49 : decode cX4_dropOldest 49 = .ok (.aload_n 0, 1) := by decide +kernel
theorem dX4_dropOldest_50 : decode cX4_dropOldest 50 = .ok (.getfield 27, 3) := by decide +kernel
theorem dX4_dropOldest_53 : decode cX4_dropOldest 53 = .ok (.arraylength, 1) := by decide +kernel
theorem dX4_dropOldest_54 : decode cX4_dropOldest 54 = .ok (.iconst 1, 1) := by decide +kernel
theorem dX4_dropOldest_55 : decode cX4_dropOldest 55 = .ok (.isub, 1) := by decide +kernel
theorem dX4_dropOldest_56 : decode cX4_dropOldest 56 = .ok (.aload_n 1, 1) := by decide +kernel
theorem dX4_dropOldest_57 : decode cX4_dropOldest 57 = .ok (.aastore, 1) := by decide +kernel
theorem dX4_dropOldest_58 : decode cX4_dropOldest 58 = .ok (.aload_n 0, 1) := by decide +kernel
theorem dX4_dropOldest_59 : decode cX4_dropOldest 59 = .ok (.dup, 1) := by decide +kernel
theorem dX4_dropOldest_60 : decode cX4_dropOldest 60 = .ok (.getfield 125, 3) := by decide +kernel
theorem dX4_dropOldest_63 : decode cX4_dropOldest 63 = .ok (.iconst 1, 1) := by decide +kernel
theorem dX4_dropOldest_64 : decode cX4_dropOldest 64 = .ok (.isub, 1) := by decide +kernel
theorem dX4_dropOldest_65 : decode cX4_dropOldest 65 = .ok (.putfield 125, 3) := by decide +kernel
theorem dX4_dropOldest_68 : decode cX4_dropOldest 68 = .ok (.return_, 1) := by decide +kernel
set_option maxRecDepth 20000 in
theorem ggX4_takeWork_X3_markOptional : GoodIn wsX4_takeWork wsX3_markOptional := goodIn_r _ [6, 7, 8, 9, 10, 5, 11, 12, 13, 14, 15, 16, 17, 18, 19, 20, 41, 42, 43] (by decide +kernel) (by decide +kernel)
set_option maxRecDepth 20000 in
theorem gX4_takeWork_X3_markOptional : GoodIn wsX4_takeWork (wsV RX4 214 RX3 yX3_markOptional wsX3_markOptional) := goodIn_app (goodIn_of _ (by decide +kernel)) ggX4_takeWork_X3_markOptional
set_option maxRecDepth 20000 in
theorem ggX4_takeWork_X3_copyFrom : GoodIn wsX4_takeWork wsX3_copyFrom := goodIn_r _ [24, 12, 7, 25, 26, 27, 5, 28, 29, 30, 31, 32, 41, 42, 43] (by decide +kernel) (by decide +kernel)
set_option maxRecDepth 20000 in
theorem gX4_takeWork_X3_copyFrom : GoodIn wsX4_takeWork (wsV RX4 107 RX3 yX3_copyFrom wsX3_copyFrom) := goodIn_app (goodIn_of _ (by decide +kernel)) ggX4_takeWork_X3_copyFrom
theorem dX4_takeWork_0 : decode cX4_takeWork 0 = .ok (.aload_n 0, 1) := by decide +kernel
theorem dX4_takeWork_1 : decode cX4_takeWork 1 = .ok (.getfield 34, 3) := by decide +kernel
theorem dX4_takeWork_4 : decode cX4_takeWork 4 = .ok (.invokevirtual 214, 3) := by decide +kernel
theorem dX4_takeWork_7 : decode cX4_takeWork 7 = .ok (.aload_n 1, 1) := by decide +kernel
theorem dX4_takeWork_8 : decode cX4_takeWork 8 = .ok (.aload_n 0, 1) := by decide +kernel
theorem dX4_takeWork_9 : decode cX4_takeWork 9 = .ok (.getfield 34, 3) := by decide +kernel
theorem dX4_takeWork_12 : decode cX4_takeWork 12 = .ok (.invokevirtual 107, 3) := by decide +kernel
theorem dX4_takeWork_15 : decode cX4_takeWork 15 = .ok (.return_, 1) := by decide +kernel
set_option maxRecDepth 20000 in
theorem ggX4_nodeNumber_X3_get : GoodIn wsX4_nodeNumber wsX3_get := goodIn_r _ [5, 6, 7, 21, 22, 23] (by decide +kernel) (by decide +kernel)
set_option maxRecDepth 20000 in
theorem gX4_nodeNumber_X3_get : GoodIn wsX4_nodeNumber (wsV RX4 217 RX3 yX3_get wsX3_get) := goodIn_app (goodIn_of _ (by decide +kernel)) ggX4_nodeNumber_X3_get
set_option maxRecDepth 20000 in
theorem ggX4_nodeNumber_X3_above : GoodIn wsX4_nodeNumber wsX3_above := goodIn_r _ [11, 12, 2, 3, 4, 5, 6, 7, 21, 22, 23] (by decide +kernel) (by decide +kernel)
set_option maxRecDepth 20000 in
theorem gX4_nodeNumber_X3_above : GoodIn wsX4_nodeNumber (wsV RX4 220 RX3 yX3_above wsX3_above) := goodIn_app (goodIn_of _ (by decide +kernel)) ggX4_nodeNumber_X3_above
set_option maxRecDepth 20000 in
theorem ggX4_nodeNumber_X3_countBelow : GoodIn wsX4_nodeNumber wsX3_countBelow := goodIn_r _ [16, 12, 2, 3, 4, 5, 6, 7, 17, 18, 19, 20, 21, 22, 23] (by decide +kernel) (by decide +kernel)
set_option maxRecDepth 20000 in
theorem gX4_nodeNumber_X3_countBelow : GoodIn wsX4_nodeNumber (wsV RX4 223 RX3 yX3_countBelow wsX3_countBelow) := goodIn_app (goodIn_of _ (by decide +kernel)) ggX4_nodeNumber_X3_countBelow
theorem dX4_nodeNumber_0 : decode cX4_nodeNumber 0 = .ok (.iload_n 2, 1) := by decide +kernel
theorem dX4_nodeNumber_1 : decode cX4_nodeNumber 1 = .ok (.tableswitch 115 0 8 #[51, 58, 65, 71, 78, 85, 92, 99, 107], 51) := by decide +kernel
theorem dX4_nodeNumber_52 : decode cX4_nodeNumber 52 = .ok (.aload_n 0, 1) := by decide +kernel
theorem dX4_nodeNumber_53 : decode cX4_nodeNumber 53 = .ok (.iload_n 1, 1) := by decide +kernel
theorem dX4_nodeNumber_54 : decode cX4_nodeNumber 54 = .ok (.iconst 0, 1) := by decide +kernel
theorem dX4_nodeNumber_55 : decode cX4_nodeNumber 55 = .ok (.invokevirtual 217, 3) := by decide +kernel
theorem dX4_nodeNumber_58 : decode cX4_nodeNumber 58 = .ok (.ireturn, 1) := by decide +kernel
theorem dX4_nodeNumber_59 : decode cX4_nodeNumber 59 = .ok (.aload_n 0, 1) := by decide +kernel
theorem dX4_nodeNumber_60 : decode cX4_nodeNumber 60 = .ok (.iload_n 1, 1) := by decide +kernel
theorem dX4_nodeNumber_61 : decode cX4_nodeNumber 61 = .ok (.iconst 1, 1) := by decide +kernel
theorem dX4_nodeNumber_62 : decode cX4_nodeNumber 62 = .ok (.invokevirtual 217, 3) := by decide +kernel
theorem dX4_nodeNumber_65 : decode cX4_nodeNumber 65 = .ok (.ireturn, 1) := by decide +kernel
theorem dX4_nodeNumber_66 : decode cX4_nodeNumber 66 = .ok (.aload_n 0, 1) := by decide +kernel
theorem dX4_nodeNumber_67 : decode cX4_nodeNumber 67 = .ok (.iload_n 1, 1) := by decide +kernel
theorem dX4_nodeNumber_68 : decode cX4_nodeNumber 68 = .ok (.invokevirtual 220, 3) := by decide +kernel
theorem dX4_nodeNumber_71 : decode cX4_nodeNumber 71 = .ok (.ireturn, 1) := by decide +kernel
theorem dX4_nodeNumber_72 : decode cX4_nodeNumber 72 = .ok (.aload_n 0, 1) := by decide +kernel
theorem dX4_nodeNumber_73 : decode cX4_nodeNumber 73 = .ok (.iload_n 1, 1) := by decide +kernel
theorem dX4_nodeNumber_74 : decode cX4_nodeNumber 74 = .ok (.iconst 2, 1) := by decide +kernel
theorem dX4_nodeNumber_75 : decode cX4_nodeNumber 75 = .ok (.invokevirtual 217, 3) := by decide +kernel
theorem dX4_nodeNumber_78 : decode cX4_nodeNumber 78 = .ok (.ireturn, 1) := by decide +kernel
theorem dX4_nodeNumber_79 : decode cX4_nodeNumber 79 = .ok (.aload_n 0, 1) := by decide +kernel
theorem dX4_nodeNumber_80 : decode cX4_nodeNumber 80 = .ok (.iload_n 1, 1) := by decide +kernel
theorem dX4_nodeNumber_81 : decode cX4_nodeNumber 81 = .ok (.iconst 3, 1) := by decide +kernel
theorem dX4_nodeNumber_82 : decode cX4_nodeNumber 82 = .ok (.invokevirtual 217, 3) := by decide +kernel
theorem dX4_nodeNumber_85 : decode cX4_nodeNumber 85 = .ok (.ireturn, 1) := by decide +kernel
theorem dX4_nodeNumber_86 : decode cX4_nodeNumber 86 = .ok (.aload_n 0, 1) := by decide +kernel
theorem dX4_nodeNumber_87 : decode cX4_nodeNumber 87 = .ok (.iload_n 1, 1) := by decide +kernel
theorem dX4_nodeNumber_88 : decode cX4_nodeNumber 88 = .ok (.iconst 4, 1) := by decide +kernel
theorem dX4_nodeNumber_89 : decode cX4_nodeNumber 89 = .ok (.invokevirtual 217, 3) := by decide +kernel
theorem dX4_nodeNumber_92 : decode cX4_nodeNumber 92 = .ok (.ireturn, 1) := by decide +kernel
theorem dX4_nodeNumber_93 : decode cX4_nodeNumber 93 = .ok (.aload_n 0, 1) := by decide +kernel
theorem dX4_nodeNumber_94 : decode cX4_nodeNumber 94 = .ok (.iload_n 1, 1) := by decide +kernel
theorem dX4_nodeNumber_95 : decode cX4_nodeNumber 95 = .ok (.iconst 5, 1) := by decide +kernel
theorem dX4_nodeNumber_96 : decode cX4_nodeNumber 96 = .ok (.invokevirtual 217, 3) := by decide +kernel
theorem dX4_nodeNumber_99 : decode cX4_nodeNumber 99 = .ok (.ireturn, 1) := by decide +kernel
theorem dX4_nodeNumber_100 : decode cX4_nodeNumber 100 = .ok (.aload_n 0, 1) := by decide +kernel
theorem dX4_nodeNumber_101 : decode cX4_nodeNumber 101 = .ok (.iload_n 1, 1) := by decide +kernel
theorem dX4_nodeNumber_102 : decode cX4_nodeNumber 102 = .ok (.bipush 8, 2) := by decide +kernel
theorem dX4_nodeNumber_104 : decode cX4_nodeNumber 104 = .ok (.invokevirtual 217, 3) := by decide +kernel
theorem dX4_nodeNumber_107 : decode cX4_nodeNumber 107 = .ok (.ireturn, 1) := by decide +kernel
theorem dX4_nodeNumber_108 : decode cX4_nodeNumber 108 = .ok (.aload_n 0, 1) := by decide +kernel
theorem dX4_nodeNumber_109 : decode cX4_nodeNumber 109 = .ok (.iload_n 1, 1) := by decide +kernel
theorem dX4_nodeNumber_110 : decode cX4_nodeNumber 110 = .ok (.bipush 6, 2) := by decide +kernel
theorem dX4_nodeNumber_112 : decode cX4_nodeNumber 112 = .ok (.invokevirtual 217, 3) := by decide +kernel
theorem dX4_nodeNumber_115 : decode cX4_nodeNumber 115 = .ok (.ireturn, 1) := by decide +kernel
theorem dX4_nodeNumber_116 : decode cX4_nodeNumber 116 = .ok (.aload_n 0, 1) := by decide +kernel
theorem dX4_nodeNumber_117 : decode cX4_nodeNumber 117 = .ok (.iload_n 1, 1) := by decide +kernel
theorem dX4_nodeNumber_118 : decode cX4_nodeNumber 118 = .ok (.invokevirtual 223, 3) := by decide +kernel
theorem dX4_nodeNumber_121 : decode cX4_nodeNumber 121 = .ok (.ireturn, 1) := by decide +kernel
set_option maxRecDepth 20000 in
theorem ggX4_shapeNumber_X3_get : GoodIn wsX4_shapeNumber wsX3_get := goodIn_r _ [11, 12, 13, 14, 15, 16] (by decide +kernel) (by decide +kernel)
set_option maxRecDepth 20000 in
theorem gX4_shapeNumber_X3_get : GoodIn wsX4_shapeNumber (wsV RX4 217 RX3 yX3_get wsX3_get) := goodIn_app (goodIn_of _ (by decide +kernel)) ggX4_shapeNumber_X3_get
theorem dX4_shapeNumber_0 : decode cX4_shapeNumber 0 = .ok (.iload_n 1, 1) := by decide +kernel
theorem dX4_shapeNumber_1 : decode cX4_shapeNumber 1 = .ok (.ifCond .ne 8, 3) := by decide +kernel
theorem dX4_shapeNumber_4 : decode cX4_shapeNumber 4 = .ok (.aload_n 0, 1) := by decide +kernel
theorem dX4_shapeNumber_5 : decode cX4_shapeNumber 5 = .ok (.getfield 226, 3) := by decide +kernel
theorem dX4_shapeNumber_8 : decode cX4_shapeNumber 8 = .ok (.ireturn, 1) := by decide +kernel
theorem dX4_shapeNumber_9 : decode cX4_shapeNumber 9 = .ok (.iload_n 1, 1) := by decide +kernel
theorem dX4_shapeNumber_10 : decode cX4_shapeNumber 10 = .ok (.iconst 1, 1) := by decide +kernel
theorem dX4_shapeNumber_11 : decode cX4_shapeNumber 11 = .ok (.if_icmp .ne 8, 3) := by decide +kernel
theorem dX4_shapeNumber_14 : decode cX4_shapeNumber 14 = .ok (.aload_n 0, 1) := by decide +kernel
theorem dX4_shapeNumber_15 : decode cX4_shapeNumber 15 = .ok (.getfield 92, 3) := by decide +kernel
theorem dX4_shapeNumber_18 : decode cX4_shapeNumber 18 = .ok (.ireturn, 1) := by decide +kernel
theorem dX4_shapeNumber_19 : decode cX4_shapeNumber 19 = .ok (.iload_n 1, 1) := by decide +kernel
theorem dX4_shapeNumber_20 : decode cX4_shapeNumber 20 = .ok (.iconst 5, 1) := by decide +kernel
theorem dX4_shapeNumber_21 : decode cX4_shapeNumber 21 = .ok (.if_icmp .ne 7, 3) := by decide +kernel
theorem dX4_shapeNumber_24 : decode cX4_shapeNumber 24 = .ok (.iconst (-1), 1) := by decide +kernel
theorem dX4_shapeNumber_25 : decode cX4_shapeNumber 25 = .ok (.goto 4, 3) := by decide +kernel
theorem dX4_shapeNumber_28 : decode cX4_shapeNumber 28 = .ok (.iconst 0, 1) := by decide +kernel
theorem dX4_shapeNumber_29 : decode cX4_shapeNumber 29 = .ok (.istore_n 2, 1) := by decide +kernel
theorem dX4_shapeNumber_30 : decode cX4_shapeNumber 30 = .ok (.iconst 0, 1) := by decide +kernel
theorem dX4_shapeNumber_31 : decode cX4_shapeNumber 31 = .ok (.istore_n 3, 1) := by decide +kernel
theorem dX4_shapeNumber_32 : decode cX4_shapeNumber 32 = .ok (.iload_n 3, 1) := by decide +kernel
theorem dX4_shapeNumber_33 : decode cX4_shapeNumber 33 = .ok (.aload_n 0, 1) := by decide +kernel
theorem dX4_shapeNumber_34 : decode cX4_shapeNumber 34 = .ok (.getfield 92, 3) := by decide +kernel
theorem dX4_shapeNumber_37 : decode cX4_shapeNumber 37 = .ok (.if_icmp .ge 78, 3) := by decide +kernel
theorem dX4_shapeNumber_40 : decode cX4_shapeNumber 40 = .ok (.iload_n 1, 1) := by decide +kernel
theorem dX4_shapeNumber_41 : decode cX4_shapeNumber 41 = .ok (.iconst 5, 1) := by decide +kernel
theorem dX4_shapeNumber_42 : decode cX4_shapeNumber 42 = .ok (.if_icmp .ne 17, 3) := by decide +kernel
theorem dX4_shapeNumber_45 : decode cX4_shapeNumber 45 = .ok (.iload_n 2, 1) := by decide +kernel
theorem dX4_shapeNumber_46 : decode cX4_shapeNumber 46 = .ok (.aload_n 0, 1) := by decide +kernel
theorem dX4_shapeNumber_47 : decode cX4_shapeNumber 47 = .ok (.iload_n 3, 1) := by decide +kernel
theorem dX4_shapeNumber_48 : decode cX4_shapeNumber 48 = .ok (.iconst 2, 1) := by decide +kernel
theorem dX4_shapeNumber_49 : decode cX4_shapeNumber 49 = .ok (.invokevirtual 217, 3) := by decide +kernel
theorem dX4_shapeNumber_52 : decode cX4_shapeNumber 52 = .ok (.invokestatic 229, 3) := by decide +kernel
theorem dX4_shapeNumber_55 : decode cX4_shapeNumber 55 = .ok (.istore_n 2, 1) := by decide +kernel
theorem dX4_shapeNumber_56 : decode cX4_shapeNumber 56 = .ok (.goto 53, 3) := by decide +kernel
theorem dX4_shapeNumber_59 : decode cX4_shapeNumber 59 = .ok (.iload_n 1, 1) := by decide +kernel
theorem dX4_shapeNumber_60 : decode cX4_shapeNumber 60 = .ok (.iconst 2, 1) := by decide +kernel
theorem dX4_shapeNumber_61 : decode cX4_shapeNumber 61 = .ok (.if_icmp .ne 14, 3) := by decide +kernel
theorem dX4_shapeNumber_64 : decode cX4_shapeNumber 64 = .ok (.aload_n 0, 1) := by decide +kernel
theorem dX4_shapeNumber_65 : decode cX4_shapeNumber 65 = .ok (.iload_n 3, 1) := by decide +kernel
theorem dX4_shapeNumber_66 : decode cX4_shapeNumber 66 = .ok (.iconst 0, 1) := by decide +kernel
theorem dX4_shapeNumber_67 : decode cX4_shapeNumber 67 = .ok (.invokevirtual 217, 3) := by decide +kernel
theorem dX4_shapeNumber_70 : decode cX4_shapeNumber 70 = .ok (.bipush 7, 2) := by decide +kernel
theorem dX4_shapeNumber_72 : decode cX4_shapeNumber 72 = .ok (.if_icmp .eq 34, 3) := by decide +kernel
theorem dX4_shapeNumber_75 : decode cX4_shapeNumber 75 = .ok (.iload_n 1, 1) := by decide +kernel
theorem dX4_shapeNumber_76 : decode cX4_shapeNumber 76 = .ok (.iconst 3, 1) := by decide +kernel
theorem dX4_shapeNumber_77 : decode cX4_shapeNumber 77 = .ok (.if_icmp .ne 14, 3) := by decide +kernel
theorem dX4_shapeNumber_80 : decode cX4_shapeNumber 80 = .ok (.aload_n 0, 1) := by decide +kernel
theorem dX4_shapeNumber_81 : decode cX4_shapeNumber 81 = .ok (.iload_n 3, 1) := by decide +kernel
theorem dX4_shapeNumber_82 : decode cX4_shapeNumber 82 = .ok (.bipush 8, 2) := by decide +kernel
theorem dX4_shapeNumber_84 : decode cX4_shapeNumber 84 = .ok (.invokevirtual 217, 3) := by decide +kernel
theorem dX4_shapeNumber_87 : decode cX4_shapeNumber 87 = .ok (.iconst 1, 1) := by decide +kernel
theorem dX4_shapeNumber_88 : decode cX4_shapeNumber 88 = .ok (.if_icmp .eq 18, 3) := by decide +kernel
theorem dX4_shapeNumber_91 : decode cX4_shapeNumber 91 = .ok (.iload_n 1, 1) := by decide +kernel
theorem dX4_shapeNumber_92 : decode cX4_shapeNumber 92 = .ok (.iconst 4, 1) := by decide +kernel
theorem dX4_shapeNumber_93 : decode cX4_shapeNumber 93 = .ok (.if_icmp .ne 16, 3) := by decide +kernel
theorem dX4_shapeNumber_96 : decode cX4_shapeNumber 96 = .ok (.aload_n 0, 1) := by decide +kernel
theorem dX4_shapeNumber_97 : decode cX4_shapeNumber 97 = .ok (.iload_n 3, 1) := by decide +kernel
theorem dX4_shapeNumber_98 : decode cX4_shapeNumber 98 = .ok (.iconst 4, 1) := by decide +kernel
theorem dX4_shapeNumber_99 : decode cX4_shapeNumber 99 = .ok (.invokevirtual 217, 3) := by decide +kernel
theorem dX4_shapeNumber_102 : decode cX4_shapeNumber 102 = .ok (.iconst 1, 1) := by decide +kernel
theorem dX4_shapeNumber_103 : decode cX4_shapeNumber 103 = .ok (.if_icmp .ne 6, 3) := by decide +kernel
theorem dX4_shapeNumber_106 : decode cX4_shapeNumber 106 = .ok (.iinc 2 1, 3) := by decide +kernel
theorem dX4_shapeNumber_109 : decode cX4_shapeNumber 109 = .ok (.iinc 3 1, 3) := by decide +kernel
theorem dX4_shapeNumber_112 : decode cX4_shapeNumber 112 = .ok (.goto (-80), 3) := by decide +kernel
theorem dX4_shapeNumber_115 : decode cX4_shapeNumber 115 = .ok (.iload_n 2, 1) := by decide +kernel
theorem dX4_shapeNumber_116 : decode cX4_shapeNumber 116 = .ok (.ireturn, 1) := by decide +kernel
set_option maxRecDepth 20000 in
theorem ggX4_documentNumber_X3_get : GoodIn wsX4_documentNumber wsX3_get := goodIn_r _ [11, 12, 13, 29, 30, 31] (by decide +kernel) (by decide +kernel)
set_option maxRecDepth 20000 in
theorem gX4_documentNumber_X3_get : GoodIn wsX4_documentNumber (wsV RX4 217 RX3 yX3_get wsX3_get) := goodIn_app (goodIn_of _ (by decide +kernel)) ggX4_documentNumber_X3_get
theorem dX4_documentNumber_0 : decode cX4_documentNumber 0 = .ok (.aload_n 0, 1) := by decide +kernel
theorem dX4_documentNumber_1 : decode cX4_documentNumber 1 = .ok (.getfield 16, 3) := by decide +kernel
theorem dX4_documentNumber_4 : decode cX4_documentNumber 4 = .ok (.getfield 234, 3) := by decide +kernel
theorem dX4_documentNumber_7 : decode cX4_documentNumber 7 = .ok (.astore_n 2, 1) := by decide +kernel
theorem dX4_documentNumber_8 : decode cX4_documentNumber 8 = .ok (.iconst 0, 1) := by decide +kernel
theorem dX4_documentNumber_9 : decode cX4_documentNumber 9 = .ok (.istore_n 3, 1) := by decide +kernel
theorem dX4_documentNumber_10 : decode cX4_documentNumber 10 = .ok (.iconst 0, 1) := by decide +kernel
theorem dX4_documentNumber_11 : decode cX4_documentNumber 11 = .ok (.istore 4, 2) := by decide +kernel
theorem dX4_documentNumber_13 : decode cX4_documentNumber 13 = .ok (.iload 4, 2) := by decide +kernel
theorem dX4_documentNumber_15 : decode cX4_documentNumber 15 = .ok (.aload_n 2, 1) := by decide +kernel
theorem dX4_documentNumber_16 : decode cX4_documentNumber 16 = .ok (.getfield 92, 3) := by decide +kernel
theorem dX4_documentNumber_19 : decode cX4_documentNumber 19 = .ok (.if_icmp .ge 85, 3) := by decide +kernel
theorem dX4_documentNumber_22 : decode cX4_documentNumber 22 = .ok (.aload_n 2, 1) := by decide +kernel
theorem dX4_documentNumber_23 : decode cX4_documentNumber 23 = .ok (.iload 4, 2) := by decide +kernel
theorem dX4_documentNumber_25 : decode cX4_documentNumber 25 = .ok (.iconst 0, 1) := by decide +kernel
theorem dX4_documentNumber_26 : decode cX4_documentNumber 26 = .ok (.invokevirtual 217, 3) := by decide +kernel
theorem dX4_documentNumber_29 : decode cX4_documentNumber 29 = .ok (.istore 5, 2) := by decide +kernel
theorem dX4_documentNumber_31 : decode cX4_documentNumber 31 = .ok (.iload_n 1, 1) := by decide +kernel
theorem dX4_documentNumber_32 : decode cX4_documentNumber 32 = .ok (.bipush 8, 2) := by decide +kernel
theorem dX4_documentNumber_34 : decode cX4_documentNumber 34 = .ok (.if_icmp .ne 49, 3) := by decide +kernel
theorem dX4_documentNumber_37 : decode cX4_documentNumber 37 = .ok (.iload 5, 2) := by decide +kernel
theorem dX4_documentNumber_39 : decode cX4_documentNumber 39 = .ok (.iconst 5, 1) := by decide +kernel
theorem dX4_documentNumber_40 : decode cX4_documentNumber 40 = .ok (.if_icmp .eq 10, 3) := by decide +kernel
theorem dX4_documentNumber_43 : decode cX4_documentNumber 43 = .ok (.iload 5, 2) := by decide +kernel
theorem dX4_documentNumber_45 : decode cX4_documentNumber 45 = .ok (.bipush 6, 2) := by decide +kernel
theorem dX4_documentNumber_47 : decode cX4_documentNumber 47 = .ok (.if_icmp .ne 7, 3) := by decide +kernel
theorem dX4_documentNumber_50 : decode cX4_documentNumber 50 = .ok (.iconst 1, 1) := by decide +kernel
theorem dX4_documentNumber_51 : decode cX4_documentNumber 51 = .ok (.goto 4, 3) := by decide +kernel
theorem dX4_documentNumber_54 : decode cX4_documentNumber 54 = .ok (.iconst 0, 1) := by decide +kernel
theorem dX4_documentNumber_55 : decode cX4_documentNumber 55 = .ok (.istore 6, 2) := by decide +kernel
theorem dX4_documentNumber_57 : decode cX4_documentNumber 57 = .ok (.iload 6, 2) := by decide +kernel
theorem dX4_documentNumber_59 : decode cX4_documentNumber 59 = .ok (.ifCond .eq 19, 3) := by decide +kernel
theorem dX4_documentNumber_62 : decode cX4_documentNumber 62 = .ok (.iload_n 3, 1) := by decide +kernel
theorem dX4_documentNumber_63 : decode cX4_documentNumber 63 = .ok (.aload_n 2, 1) := by decide +kernel
theorem dX4_documentNumber_64 : decode cX4_documentNumber 64 = .ok (.iload 4, 2) := by decide +kernel
theorem dX4_documentNumber_66 : decode cX4_documentNumber 66 = .ok (.iconst 2, 1) := by decide +kernel
theorem dX4_documentNumber_67 : decode cX4_documentNumber 67 = .ok (.invokevirtual 217, 3) := by decide +kernel
theorem dX4_documentNumber_70 : decode cX4_documentNumber 70 = .ok (.iconst 1, 1) := by decide +kernel
theorem dX4_documentNumber_71 : decode cX4_documentNumber 71 = .ok (.iadd, 1) := by decide +kernel
theorem dX4_documentNumber_72 : decode cX4_documentNumber 72 = .ok (.invokestatic 229, 3) := by decide +kernel
theorem dX4_documentNumber_75 : decode cX4_documentNumber 75 = .ok (.goto 4, 3) := by decide +kernel
theorem dX4_documentNumber_78 : decode cX4_documentNumber 78 = .ok (.iload_n 3, 1) := by decide +kernel
theorem dX4_documentNumber_79 : decode cX4_documentNumber 79 = .ok (.istore_n 3, 1) := by decide +kernel
theorem dX4_documentNumber_80 : decode cX4_documentNumber 80 = .ok (.goto 18, 3) := by decide +kernel
theorem dX4_documentNumber_83 : decode cX4_documentNumber 83 = .ok (.iload_n 1, 1) := by decide +kernel
theorem dX4_documentNumber_84 : decode cX4_documentNumber 84 = .ok (.ifCond .eq 11, 3) := by decide +kernel
theorem dX4_documentNumber_87 : decode cX4_documentNumber 87 = .ok (.iload 5, 2) := by decide +kernel
theorem dX4_documentNumber_89 : decode cX4_documentNumber 89 = .ok (.iload_n 1, 1) := by decide +kernel
theorem dX4_documentNumber_90 : decode cX4_documentNumber 90 = .ok (.iconst 1, 1) := by decide +kernel
theorem dX4_documentNumber_91 : decode cX4_documentNumber 91 = .ok (.isub, 1) := by decide +kernel
theorem dX4_documentNumber_92 : decode cX4_documentNumber 92 = .ok (.if_icmp .ne 6, 3) := by decide +kernel
theorem dX4_documentNumber_95 : decode cX4_documentNumber 95 = .ok (.iinc 3 1, 3) := by decide +kernel
theorem dX4_documentNumber_98 : decode cX4_documentNumber 98 = .ok (.iinc 4 1, 3) := by decide +kernel
theorem dX4_documentNumber_101 : decode cX4_documentNumber 101 = .ok (.goto (-88), 3) := by decide +kernel
theorem dX4_documentNumber_104 : decode cX4_documentNumber 104 = .ok (.iload_n 3, 1) := by decide +kernel
theorem dX4_documentNumber_105 : decode cX4_documentNumber 105 = .ok (.ireturn, 1) := by decide +kernel
theorem dX4_stateNumber_0 : decode cX4_stateNumber 0 = .ok (.iload_n 1, 1) := by decide +kernel
theorem dX4_stateNumber_1 : decode cX4_stateNumber 1 = .ok (.ifCond .ne 13, 3) := by decide +kernel
theorem dX4_stateNumber_4 : decode cX4_stateNumber 4 = .ok (.aload_n 0, 1) := by decide +kernel
theorem dX4_stateNumber_5 : decode cX4_stateNumber 5 = .ok (.getfield 23, 3) := by decide +kernel
theorem dX4_stateNumber_8 : decode cX4_stateNumber 8 = .ok (.getfield 115, 3) := by decide +kernel
theorem dX4_stateNumber_11 : decode cX4_stateNumber 11 = .ok (.goto 19, 3) := by decide +kernel
theorem dX4_stateNumber_14 : decode cX4_stateNumber 14 = .ok (.iload_n 1, 1) := by decide +kernel
theorem dX4_stateNumber_15 : decode cX4_stateNumber 15 = .ok (.iconst 1, 1) := by decide +kernel
theorem dX4_stateNumber_16 : decode cX4_stateNumber 16 = .ok (.if_icmp .ne 10, 3) := by decide +kernel
theorem dX4_stateNumber_19 : decode cX4_stateNumber 19 = .ok (.aload_n 0, 1) := by decide +kernel
theorem dX4_stateNumber_20 : decode cX4_stateNumber 20 = .ok (.getfield 56, 3) := by decide +kernel
theorem dX4_stateNumber_23 : decode cX4_stateNumber 23 = .ok (.goto 7, 3) := by decide +kernel
theorem dX4_stateNumber_26 : decode cX4_stateNumber 26 = .ok (.aload_n 0, 1) := by decide +kernel
theorem dX4_stateNumber_27 : decode cX4_stateNumber 27 = .ok (.getfield 125, 3) := by decide +kernel
theorem dX4_stateNumber_30 : decode cX4_stateNumber 30 = .ok (.ireturn, 1) := by decide +kernel
theorem dX4_misfitNumber_0 : decode cX4_misfitNumber 0 = .ok (.iload_n 1, 1) := by decide +kernel
theorem dX4_misfitNumber_1 : decode cX4_misfitNumber 1 = .ok (.ifCond .ne 13, 3) := by decide +kernel
theorem dX4_misfitNumber_4 : decode cX4_misfitNumber 4 = .ok (.aload_n 0, 1) := by decide +kernel
theorem dX4_misfitNumber_5 : decode cX4_misfitNumber 5 = .ok (.getfield 41, 3) := by decide +kernel
theorem dX4_misfitNumber_8 : decode cX4_misfitNumber 8 = .ok (.getfield 237, 3) := by decide +kernel
theorem dX4_misfitNumber_11 : decode cX4_misfitNumber 11 = .ok (.goto 25, 3) := by decide +kernel
theorem dX4_misfitNumber_14 : decode cX4_misfitNumber 14 = .ok (.iload_n 1, 1) := by decide +kernel
theorem dX4_misfitNumber_15 : decode cX4_misfitNumber 15 = .ok (.iconst 1, 1) := by decide +kernel
theorem dX4_misfitNumber_16 : decode cX4_misfitNumber 16 = .ok (.if_icmp .ne 13, 3) := by decide +kernel
theorem dX4_misfitNumber_19 : decode cX4_misfitNumber 19 = .ok (.aload_n 0, 1) := by decide +kernel
theorem dX4_misfitNumber_20 : decode cX4_misfitNumber 20 = .ok (.getfield 41, 3) := by decide +kernel
theorem dX4_misfitNumber_23 : decode cX4_misfitNumber 23 = .ok (.getfield 240, 3) := by decide +kernel
theorem dX4_misfitNumber_26 : decode cX4_misfitNumber 26 = .ok (.goto 10, 3) := by decide +kernel
theorem dX4_misfitNumber_29 : decode cX4_misfitNumber 29 = .ok (.aload_n 0, 1) := by decide +kernel
theorem dX4_misfitNumber_30 : decode cX4_misfitNumber 30 = .ok (.getfield 41, 3) := by decide +kernel
theorem dX4_misfitNumber_33 : decode cX4_misfitNumber 33 = .ok (.getfield 243, 3) := by decide +kernel
theorem dX4_misfitNumber_36 : decode cX4_misfitNumber 36 = .ok (.ireturn, 1) := by decide +kernel
set_option maxRecDepth 20000 in
theorem ggX4_shareOfSure_X3_get : GoodIn wsX4_shareOfSure wsX3_get := goodIn_r _ [6, 7, 8, 9, 10, 11] (by decide +kernel) (by decide +kernel)
set_option maxRecDepth 20000 in
theorem gX4_shareOfSure_X3_get : GoodIn wsX4_shareOfSure (wsV RX4 217 RX3 yX3_get wsX3_get) := goodIn_app (goodIn_of _ (by decide +kernel)) ggX4_shareOfSure_X3_get
theorem dX4_shareOfSure_0 : decode cX4_shareOfSure 0 = .ok (.aload_n 0, 1) := by decide +kernel
theorem dX4_shareOfSure_1 : decode cX4_shareOfSure 1 = .ok (.getfield 92, 3) := by decide +kernel
theorem dX4_shareOfSure_4 : decode cX4_shareOfSure 4 = .ok (.ifCond .gt 5, 3) := by decide +kernel
theorem dX4_shareOfSure_7 : decode cX4_shareOfSure 7 = .ok (.dconst 1, 1) := by decide +kernel
theorem dX4_shareOfSure_8 : decode cX4_shareOfSure 8 = .ok (.dreturn, 1) := by decide +kernel
theorem dX4_shareOfSure_9 : decode cX4_shareOfSure 9 = .ok (.iconst 0, 1) := by decide +kernel
theorem dX4_shareOfSure_10 : decode cX4_shareOfSure 10 = .ok (.istore_n 1, 1) := by decide +kernel
theorem dX4_shareOfSure_11 : decode cX4_shareOfSure 11 = .ok (.iconst 0, 1) := by decide +kernel
theorem dX4_shareOfSure_12 : decode cX4_shareOfSure 12 = .ok (.istore_n 2, 1) := by decide +kernel
theorem dX4_shareOfSure_13 : decode cX4_shareOfSure 13 = .ok (.iload_n 2, 1) := by decide +kernel
theorem dX4_shareOfSure_14 : decode cX4_shareOfSure 14 = .ok (.aload_n 0, 1) := by decide +kernel
theorem dX4_shareOfSure_15 : decode cX4_shareOfSure 15 = .ok (.getfield 92, 3) := by decide +kernel
theorem dX4_shareOfSure_18 : decode cX4_shareOfSure 18 = .ok (.if_icmp .ge 42, 3) := by decide +kernel
theorem dX4_shareOfSure_21 : decode cX4_shareOfSure 21 = .ok (.aload_n 0, 1) := by decide +kernel
theorem dX4_shareOfSure_22 : decode cX4_shareOfSure 22 = .ok (.iload_n 2, 1) := by decide +kernel
theorem dX4_shareOfSure_23 : decode cX4_shareOfSure 23 = .ok (.iconst 4, 1) := by decide +kernel
theorem dX4_shareOfSure_24 : decode cX4_shareOfSure 24 = .ok (.invokevirtual 217, 3) := by decide +kernel
theorem dX4_shareOfSure_27 : decode cX4_shareOfSure 27 = .ok (.ifCond .ne 27, 3) := by decide +kernel
theorem dX4_shareOfSure_30 : decode cX4_shareOfSure 30 = .ok (.aload_n 0, 1) := by decide +kernel
theorem dX4_shareOfSure_31 : decode cX4_shareOfSure 31 = .ok (.iload_n 2, 1) := by decide +kernel
theorem dX4_shareOfSure_32 : decode cX4_shareOfSure 32 = .ok (.iconst 0, 1) := by decide +kernel
theorem dX4_shareOfSure_33 : decode cX4_shareOfSure 33 = .ok (.invokevirtual 217, 3) := by decide +kernel
theorem dX4_shareOfSure_36 : decode cX4_shareOfSure 36 = .ok (.bipush 7, 2) := by decide +kernel
theorem dX4_shareOfSure_38 : decode cX4_shareOfSure 38 = .ok (.if_icmp .eq 16, 3) := by decide +kernel
theorem dX4_shareOfSure_41 : decode cX4_shareOfSure 41 = .ok (.aload_n 0, 1) := by decide +kernel
theorem dX4_shareOfSure_42 : decode cX4_shareOfSure 42 = .ok (.iload_n 2, 1) := by decide +kernel
theorem dX4_shareOfSure_43 : decode cX4_shareOfSure 43 = .ok (.bipush 8, 2) := by decide +kernel
theorem dX4_shareOfSure_45 : decode cX4_shareOfSure 45 = .ok (.invokevirtual 217, 3) := by decide +kernel
theorem dX4_shareOfSure_48 : decode cX4_shareOfSure 48 = .ok (.ifCond .ne 6, 3) := by decide +kernel
theorem dX4_shareOfSure_51 : decode cX4_shareOfSure 51 = .ok (.iinc 1 1, 3) := by decide +kernel
theorem dX4_shareOfSure_54 : decode cX4_shareOfSure 54 = .ok (.iinc 2 1, 3) := by decide +kernel
theorem dX4_shareOfSure_57 : decode cX4_shareOfSure 57 = .ok (.goto (-44), 3) := by decide +kernel
theorem dX4_shareOfSure_60 : decode cX4_shareOfSure 60 = .ok (.iload_n 1, 1) := by decide +kernel
theorem dX4_shareOfSure_61 : decode cX4_shareOfSure 61 = .ok (.i2d, 1) := by decide +kernel
theorem dX4_shareOfSure_62 : decode cX4_shareOfSure 62 = .ok (.aload_n 0, 1) := by decide +kernel
theorem dX4_shareOfSure_63 : decode cX4_shareOfSure 63 = .ok (.getfield 92, 3) := by decide +kernel
theorem dX4_shareOfSure_66 : decode cX4_shareOfSure 66 = .ok (.i2d, 1) := by decide +kernel
theorem dX4_shareOfSure_67 : decode cX4_shareOfSure 67 = .ok (.ddiv, 1) := by decide +kernel
theorem dX4_shareOfSure_68 : decode cX4_shareOfSure 68 = .ok (.dreturn, 1) := by decide +kernel
theorem dX4_joinKinds_0 : decode cX4_joinKinds 0 = .ok (.iload_n 0, 1) := by decide +kernel
theorem dX4_joinKinds_1 : decode cX4_joinKinds 1 = .ok (.iload_n 1, 1) := by decide +kernel
theorem dX4_joinKinds_2 : decode cX4_joinKinds 2 = .ok (.if_icmp .eq 7, 3) := by decide +kernel
theorem dX4_joinKinds_5 : decode cX4_joinKinds 5 = .ok (.iload_n 1, 1) := by decide +kernel
theorem dX4_joinKinds_6 : decode cX4_joinKinds 6 = .ok (.ifCond .ne 5, 3) := by decide +kernel
theorem dX4_joinKinds_9 : decode cX4_joinKinds 9 = .ok (.iload_n 0, 1) := by decide +kernel
theorem dX4_joinKinds_10 : decode cX4_joinKinds 10 = .ok (.ireturn, 1) := by decide +kernel
theorem dX4_joinKinds_11 : decode cX4_joinKinds 11 = .ok (.iload_n 0, 1) := by decide +kernel
theorem dX4_joinKinds_12 : decode cX4_joinKinds 12 = .ok (.ifCond .ne 5, 3) := by decide +kernel
theorem dX4_joinKinds_15 : decode cX4_joinKinds 15 = .ok (.iload_n 1, 1) := by decide +kernel
theorem dX4_joinKinds_16 : decode cX4_joinKinds 16 = .ok (.ireturn, 1) := by decide +kernel
theorem dX4_joinKinds_17 : decode cX4_joinKinds 17 = .ok (.iload_n 0, 1) := by decide +kernel
theorem dX4_joinKinds_18 : decode cX4_joinKinds 18 = .ok (.iconst 4, 1) := by decide +kernel
theorem dX4_joinKinds_19 : decode cX4_joinKinds 19 = .ok (.if_icmp .gt 8, 3) := by decide +kernel
theorem dX4_joinKinds_22 : decode cX4_joinKinds 22 = .ok (.iload_n 1, 1) := by decide +kernel
theorem dX4_joinKinds_23 : decode cX4_joinKinds 23 = .ok (.iconst 4, 1) := by decide +kernel
theorem dX4_joinKinds_24 : decode cX4_joinKinds 24 = .ok (.if_icmp .le 6, 3) := by decide +kernel
theorem dX4_joinKinds_27 : decode cX4_joinKinds 27 = .ok (.bipush 7, 2) := by decide +kernel
theorem dX4_joinKinds_29 : decode cX4_joinKinds 29 = .ok (.ireturn, 1) := by decide +kernel
theorem dX4_joinKinds_30 : decode cX4_joinKinds 30 = .ok (.iload_n 0, 1) := by decide +kernel
theorem dX4_joinKinds_31 : decode cX4_joinKinds 31 = .ok (.iconst 1, 1) := by decide +kernel
theorem dX4_joinKinds_32 : decode cX4_joinKinds 32 = .ok (.if_icmp .eq 18, 3) := by decide +kernel
theorem dX4_joinKinds_35 : decode cX4_joinKinds 35 = .ok (.iload_n 1, 1) := by decide +kernel
theorem dX4_joinKinds_36 : decode cX4_joinKinds 36 = .ok (.iconst 1, 1) := by decide +kernel
theorem dX4_joinKinds_37 : decode cX4_joinKinds 37 = .ok (.if_icmp .eq 13, 3) := by decide +kernel
theorem dX4_joinKinds_40 : decode cX4_joinKinds 40 = .ok (.iload_n 0, 1) := by decide +kernel
theorem dX4_joinKinds_41 : decode cX4_joinKinds 41 = .ok (.iconst 4, 1) := by decide +kernel
theorem dX4_joinKinds_42 : decode cX4_joinKinds 42 = .ok (.if_icmp .eq 8, 3) := by decide +kernel
theorem dX4_joinKinds_45 : decode cX4_joinKinds 45 = .ok (.iload_n 1, 1) := by decide +kernel
theorem dX4_joinKinds_46 : decode cX4_joinKinds 46 = .ok (.iconst 4, 1) := by decide +kernel
theorem dX4_joinKinds_47 : decode cX4_joinKinds 47 = .ok (.if_icmp .ne 7, 3) := by decide +kernel
theorem dX4_joinKinds_50 : decode cX4_joinKinds 50 = .ok (.iconst 4, 1) := by decide +kernel
theorem dX4_joinKinds_51 : decode cX4_joinKinds 51 = .ok (.goto 4, 3) := by decide +kernel
theorem dX4_joinKinds_54 : decode cX4_joinKinds 54 = .ok (.iconst 3, 1) := by decide +kernel
theorem dX4_joinKinds_55 : decode cX4_joinKinds 55 = .ok (.ireturn, 1) := by decide +kernel
set_option maxRecDepth 20000 in
theorem ggX4_workOutLearned_X3_copyFrom : GoodIn wsX4_workOutLearned wsX3_copyFrom := goodIn_r _ [9, 10, 11, 12, 13, 14, 8, 15, 16, 17, 18, 19, 77, 78, 79] (by decide +kernel) (by decide +kernel)
set_option maxRecDepth 20000 in
theorem gX4_workOutLearned_X3_copyFrom : GoodIn wsX4_workOutLearned (wsV RX4 107 RX3 yX3_copyFrom wsX3_copyFrom) := goodIn_app (goodIn_of _ (by decide +kernel)) ggX4_workOutLearned_X3_copyFrom
set_option maxRecDepth 20000 in
theorem ggX4_workOutLearned_X3_put : GoodIn wsX4_workOutLearned wsX3_put := goodIn_r _ [23, 11, 10, 77, 78, 79] (by decide +kernel) (by decide +kernel)
set_option maxRecDepth 20000 in
theorem gX4_workOutLearned_X3_put : GoodIn wsX4_workOutLearned (wsV RX4 245 RX3 yX3_put wsX3_put) := goodIn_app (goodIn_of _ (by decide +kernel)) ggX4_workOutLearned_X3_put
set_option maxRecDepth 20000 in
theorem ggX4_workOutLearned_X4_showValue : GoodIn wsX4_workOutLearned wsX4_showValue := goodIn_r _ [28, 2, 4, 3, 29, 30, 31, 8, 32, 11, 10, 20, 21, 22, 23, 33, 34, 35, 36, 37, 38, 39, 40, 41, 42, 43, 44, 45, 13, 14, 15, 16, 17, 18, 19, 46, 47, 48, 49, 50, 51, 52, 27, 53, 54, 55, 56, 57, 58, 59, 60, 61, 62, 63, 64, 65, 66, 67, 68, 69, 77, 78, 79] (by decide +kernel) (by decide +kernel)
set_option maxRecDepth 20000 in
theorem gX4_workOutLearned_X4_showValue : GoodIn wsX4_workOutLearned (wsV RX4 249 RX4 yX4_showValue wsX4_showValue) := goodIn_app (goodIn_of _ (by decide +kernel)) ggX4_workOutLearned_X4_showValue
theorem dX4_workOutLearned_0 : decode cX4_workOutLearned 0 = .ok (.aload_n 0, 1) := by decide +kernel
theorem dX4_workOutLearned_1 : decode cX4_workOutLearned 1 = .ok (.getfield 16, 3) := by decide +kernel
theorem dX4_workOutLearned_4 : decode cX4_workOutLearned 4 = .ok (.getfield 234, 3) := by decide +kernel
theorem dX4_workOutLearned_7 : decode cX4_workOutLearned 7 = .ok (.astore_n 2, 1) := by decide +kernel
theorem dX4_workOutLearned_8 : decode cX4_workOutLearned 8 = .ok (.aload_n 0, 1) := by decide +kernel
theorem dX4_workOutLearned_9 : decode cX4_workOutLearned 9 = .ok (.getfield 34, 3) := by decide +kernel
theorem dX4_workOutLearned_12 : decode cX4_workOutLearned 12 = .ok (.aload_n 1, 1) := by decide +kernel
theorem dX4_workOutLearned_13 : decode cX4_workOutLearned 13 = .ok (.invokevirtual 107, 3) := by decide +kernel
theorem dX4_workOutLearned_16 : decode cX4_workOutLearned 16 = .ok (.aload_n 0, 1) := by decide +kernel
theorem dX4_workOutLearned_17 : decode cX4_workOutLearned 17 = .ok (.getfield 34, 3) := by decide +kernel
theorem dX4_workOutLearned_20 : decode cX4_workOutLearned 20 = .ok (.aload_n 1, 1) := by decide +kernel
theorem dX4_workOutLearned_21 : decode cX4_workOutLearned 21 = .ok (.getfield 226, 3) := by decide +kernel
theorem dX4_workOutLearned_24 : decode cX4_workOutLearned 24 = .ok (.iconst 1, 1) := by decide +kernel
theorem dX4_workOutLearned_25 : decode cX4_workOutLearned 25 = .ok (.iadd, 1) := by decide +kernel
theorem dX4_workOutLearned_26 : decode cX4_workOutLearned 26 = .ok (.putfield 226, 3) := by decide +kernel
theorem dX4_workOutLearned_29 : decode cX4_workOutLearned 29 = .ok (.iconst 0, 1) := by decide +kernel
theorem dX4_workOutLearned_30 : decode cX4_workOutLearned 30 = .ok (.istore_n 3, 1) := by decide +kernel
theorem dX4_workOutLearned_31 : decode cX4_workOutLearned 31 = .ok (.iload_n 3, 1) := by decide +kernel
theorem dX4_workOutLearned_32 : decode cX4_workOutLearned 32 = .ok (.aload_n 0, 1) := by decide +kernel
theorem dX4_workOutLearned_33 : decode cX4_workOutLearned 33 = .ok (.getfield 34, 3) := by decide +kernel
theorem dX4_workOutLearned_36 : decode cX4_workOutLearned 36 = .ok (.getfield 92, 3) := by decide +kernel
theorem dX4_workOutLearned_39 : decode cX4_workOutLearned 39 = .ok (.if_icmp .ge 20, 3) := by decide +kernel
theorem dX4_workOutLearned_42 : decode cX4_workOutLearned 42 = .ok (.aload_n 0, 1) := by decide +kernel
theorem dX4_workOutLearned_43 : decode cX4_workOutLearned 43 = .ok (.getfield 34, 3) := by decide +kernel
theorem dX4_workOutLearned_46 : decode cX4_workOutLearned 46 = .ok (.iload_n 3, 1) := by decide +kernel
theorem dX4_workOutLearned_47 : decode cX4_workOutLearned 47 = .ok (.bipush 7, 2) := by decide +kernel
theorem dX4_workOutLearned_49 : decode cX4_workOutLearned 49 = .ok (.iload_n 3, 1) := by decide +kernel
theorem dX4_workOutLearned_50 : decode cX4_workOutLearned 50 = .ok (.invokevirtual 245, 3) := by decide +kernel
theorem dX4_workOutLearned_53 : decode cX4_workOutLearned 53 = .ok (.iinc 3 1, 3) := by decide +kernel
theorem dX4_workOutLearned_56 : decode cX4_workOutLearned 56 = .ok (.goto (-25), 3) := by decide +kernel
theorem dX4_workOutLearned_59 : decode cX4_workOutLearned 59 = .ok (.aload_n 2, 1) := by decide +kernel
theorem dX4_workOutLearned_60 : decode cX4_workOutLearned 60 = .ok (.getfield 92, 3) := by decide +kernel
theorem dX4_workOutLearned_63 : decode cX4_workOutLearned 63 = .ok (.istore_n 3, 1) := by decide +kernel
theorem dX4_workOutLearned_64 : decode cX4_workOutLearned 64 = .ok (.iconst 0, 1) := by decide +kernel
theorem dX4_workOutLearned_65 : decode cX4_workOutLearned 65 = .ok (.istore 4, 2) := by decide +kernel
theorem dX4_workOutLearned_67 : decode cX4_workOutLearned 67 = .ok (.iload 4, 2) := by decide +kernel
theorem dX4_workOutLearned_69 : decode cX4_workOutLearned 69 = .ok (.iload_n 3, 1) := by decide +kernel
theorem dX4_workOutLearned_70 : decode cX4_workOutLearned 70 = .ok (.if_icmp .ge 16, 3) := by decide +kernel
theorem dX4_workOutLearned_73 : decode cX4_workOutLearned 73 = .ok (.aload_n 0, 1) := by decide +kernel
theorem dX4_workOutLearned_74 : decode cX4_workOutLearned 74 = .ok (.aload_n 2, 1) := by decide +kernel
theorem dX4_workOutLearned_75 : decode cX4_workOutLearned 75 = .ok (.iload 4, 2) := by decide +kernel
theorem dX4_workOutLearned_77 : decode cX4_workOutLearned 77 = .ok (.invokevirtual 249, 3) := by decide +kernel
theorem dX4_workOutLearned_80 : decode cX4_workOutLearned 80 = .ok (.iinc 4 1, 3) := by decide +kernel
theorem dX4_workOutLearned_83 : decode cX4_workOutLearned 83 = .ok (.goto (-16), 3) := by decide +kernel
theorem dX4_workOutLearned_86 : decode cX4_workOutLearned 86 = .ok (.return_, 1) := by decide +kernel
set_option maxRecDepth 20000 in
theorem ggX4_showValue_X3_get : GoodIn wsX4_showValue wsX3_get := goodIn_r _ [8, 9, 10, 60, 61, 62] (by decide +kernel) (by decide +kernel)
set_option maxRecDepth 20000 in
theorem gX4_showValue_X3_get : GoodIn wsX4_showValue (wsV RX4 217 RX3 yX3_get wsX3_get) := goodIn_app (goodIn_of _ (by decide +kernel)) ggX4_showValue_X3_get
set_option maxRecDepth 20000 in
theorem ggX4_showValue_X3_put : GoodIn wsX4_showValue wsX3_put := goodIn_r _ [14, 9, 10, 60, 61, 62] (by decide +kernel) (by decide +kernel)
set_option maxRecDepth 20000 in
theorem gX4_showValue_X3_put : GoodIn wsX4_showValue (wsV RX4 245 RX3 yX3_put wsX3_put) := goodIn_app (goodIn_of _ (by decide +kernel)) ggX4_showValue_X3_put
set_option maxRecDepth 20000 in
theorem ggX4_showValue_X3_findBelow : GoodIn wsX4_showValue wsX3_findBelow := goodIn_r _ [18, 9, 19, 20, 21, 7, 22, 23, 5, 6, 8, 10, 60, 61, 62] (by decide +kernel) (by decide +kernel)
set_option maxRecDepth 20000 in
theorem gX4_showValue_X3_findBelow : GoodIn wsX4_showValue (wsV RX4 150 RX3 yX3_findBelow wsX3_findBelow) := goodIn_app (goodIn_of _ (by decide +kernel)) ggX4_showValue_X3_findBelow
set_option maxRecDepth 20000 in
theorem ggX4_showValue_X3_insertBelow : GoodIn wsX4_showValue wsX3_insertBelow := goodIn_r _ [27, 9, 10, 19, 20, 21, 7, 22, 23, 5, 6, 8, 28, 29, 30, 31, 32, 33, 34, 35, 36, 37, 38, 39, 12, 13, 14, 60, 61, 62] (by decide +kernel) (by decide +kernel)
set_option maxRecDepth 20000 in
theorem gX4_showValue_X3_insertBelow : GoodIn wsX4_showValue (wsV RX4 253 RX3 yX3_insertBelow wsX3_insertBelow) := goodIn_app (goodIn_of _ (by decide +kernel)) ggX4_showValue_X3_insertBelow
set_option maxRecDepth 20000 in
theorem ggX4_showValue_X4_joinKinds : GoodIn wsX4_showValue wsX4_joinKinds := goodIn_r _ [43] (by decide +kernel) (by decide +kernel)
set_option maxRecDepth 20000 in
theorem gX4_showValue_X4_joinKinds : GoodIn wsX4_showValue (va_wsS RX4 256 yX4_joinKinds wsX4_joinKinds) := goodIn_app (goodIn_of _ (by decide +kernel)) ggX4_showValue_X4_joinKinds
set_option maxRecDepth 20000 in
theorem ggX4_showValue_X3_dropBelow : GoodIn wsX4_showValue wsX3_dropBelow := goodIn_r _ [47, 10, 9, 48, 49, 50, 7, 51, 23, 5, 6, 8, 28, 29, 30, 31, 32, 33, 34, 60, 61, 62] (by decide +kernel) (by decide +kernel)
set_option maxRecDepth 20000 in
theorem gX4_showValue_X3_dropBelow : GoodIn wsX4_showValue (wsV RX4 259 RX3 yX3_dropBelow wsX3_dropBelow) := goodIn_app (goodIn_of _ (by decide +kernel)) ggX4_showValue_X3_dropBelow
theorem dX4_showValue_0 : decode cX4_showValue 0 = .ok (.aload_n 1, 1) := by decide +kernel
theorem dX4_showValue_1 : decode cX4_showValue 1 = .ok (.iload_n 2, 1) := by decide +kernel
theorem dX4_showValue_2 : decode cX4_showValue 2 = .ok (.iconst 5, 1) := by decide +kernel
theorem dX4_showValue_3 : decode cX4_showValue 3 = .ok (.invokevirtual 217, 3) := by decide +kernel
theorem dX4_showValue_6 : decode cX4_showValue 6 = .ok (.istore_n 3, 1) := by decide +kernel
theorem dX4_showValue_7 : decode cX4_showValue 7 = .ok (.iload_n 3, 1) := by decide +kernel
theorem dX4_showValue_8 : decode cX4_showValue 8 = .ok (.iconst (-1), 1) := by decide +kernel
theorem dX4_showValue_9 : decode cX4_showValue 9 = .ok (.if_icmp .ne 7, 3) := by decide +kernel
theorem dX4_showValue_12 : decode cX4_showValue 12 = .ok (.iconst (-1), 1) := by decide +kernel
theorem dX4_showValue_13 : decode cX4_showValue 13 = .ok (.goto 10, 3) := by decide +kernel
theorem dX4_showValue_16 : decode cX4_showValue 16 = .ok (.aload_n 1, 1) := by decide +kernel
theorem dX4_showValue_17 : decode cX4_showValue 17 = .ok (.iload_n 3, 1) := by decide +kernel
theorem dX4_showValue_18 : decode cX4_showValue 18 = .ok (.bipush 7, 2) := by decide +kernel
theorem dX4_showValue_20 : decode cX4_showValue 20 = .ok (.invokevirtual 217, 3) := by decide +kernel
theorem dX4_showValue_23 : decode cX4_showValue 23 = .ok (.istore 4, 2) := by decide +kernel
theorem dX4_showValue_25 : decode cX4_showValue 25 = .ok (.aload_n 1, 1) := by decide +kernel
theorem dX4_showValue_26 : decode cX4_showValue 26 = .ok (.iload_n 2, 1) := by decide +kernel
theorem dX4_showValue_27 : decode cX4_showValue 27 = .ok (.bipush 7, 2) := by decide +kernel
theorem dX4_showValue_29 : decode cX4_showValue 29 = .ok (.iconst (-1), 1) := by decide +kernel
theorem dX4_showValue_30 : decode cX4_showValue 30 = .ok (.invokevirtual 245, 3) := by decide +kernel
theorem dX4_showValue_33 : decode cX4_showValue 33 = .ok (.iload_n 3, 1) := by decide +kernel
theorem dX4_showValue_34 : decode cX4_showValue 34 = .ok (.iconst (-1), 1) := by decide +kernel
theorem dX4_showValue_35 : decode cX4_showValue 35 = .ok (.if_icmp .eq 10, 3) := by decide +kernel
theorem dX4_showValue_38 : decode cX4_showValue 38 = .ok (.iload 4, 2) := by decide +kernel
theorem dX4_showValue_40 : decode cX4_showValue 40 = .ok (.iconst (-1), 1) := by decide +kernel
theorem dX4_showValue_41 : decode cX4_showValue 41 = .ok (.if_icmp .ne 4, 3) := by decide +kernel
theorem dX4_showValue_44 : decode cX4_showValue 44 = .ok (.return_, 1) := by decide +kernel
theorem dX4_showValue_45 : decode cX4_showValue 45 = .ok (.aload_n 1, 1) := by decide +kernel
theorem dX4_showValue_46 : decode cX4_showValue 46 = .ok (.iload_n 2, 1) := by decide +kernel
theorem dX4_showValue_47 : decode cX4_showValue 47 = .ok (.iconst 1, 1) := by decide +kernel
theorem dX4_showValue_48 : decode cX4_showValue 48 = .ok (.invokevirtual 217, 3) := by decide +kernel
theorem dX4_showValue_51 : decode cX4_showValue 51 = .ok (.istore 5, 2) := by decide +kernel
theorem dX4_showValue_53 : decode cX4_showValue 53 = .ok (.iload_n 3, 1) := by decide +kernel
theorem dX4_showValue_54 : decode cX4_showValue 54 = .ok (.iconst (-1), 1) := by decide +kernel
theorem dX4_showValue_55 : decode cX4_showValue 55 = .ok (.if_icmp .eq 17, 3) := by decide +kernel
theorem dX4_showValue_58 : decode cX4_showValue 58 = .ok (.aload_n 0, 1) := by decide +kernel
theorem dX4_showValue_59 : decode cX4_showValue 59 = .ok (.getfield 34, 3) := by decide +kernel
theorem dX4_showValue_62 : decode cX4_showValue 62 = .ok (.iload 4, 2) := by decide +kernel
theorem dX4_showValue_64 : decode cX4_showValue 64 = .ok (.iload 5, 2) := by decide +kernel
theorem dX4_showValue_66 : decode cX4_showValue 66 = .ok (.invokevirtual 150, 3) := by decide +kernel
theorem dX4_showValue_69 : decode cX4_showValue 69 = .ok (.goto 18, 3) := by decide +kernel
theorem dX4_showValue_72 : decode cX4_showValue 72 = .ok (.aload_n 0, 1) := by decide +kernel
theorem dX4_showValue_73 : decode cX4_showValue 73 = .ok (.getfield 34, 3) := by decide +kernel
theorem dX4_showValue_76 : decode cX4_showValue 76 = .ok (.getfield 92, 3) := by decide +kernel
theorem dX4_showValue_79 : decode cX4_showValue 79 = .ok (.ifCond .le 7, 3) := by decide +kernel
theorem dX4_showValue_82 : decode cX4_showValue 82 = .ok (.iconst 0, 1) := by decide +kernel
theorem dX4_showValue_83 : decode cX4_showValue 83 = .ok (.goto 4, 3) := by decide +kernel
theorem dX4_showValue_86 : decode cX4_showValue 86 = .ok (.iconst (-1), 1) := by decide +kernel
theorem dX4_showValue_87 : decode cX4_showValue 87 = .ok (.istore 6, 2) := by decide +kernel
theorem dX4_showValue_89 : decode cX4_showValue 89 = .ok (.iload 6, 2) := by decide +kernel
theorem dX4_showValue_91 : decode cX4_showValue 91 = .ok (.iconst (-1), 1) := by decide +kernel
theorem dX4_showValue_92 : decode cX4_showValue 92 = .ok (.if_icmp .ne 7, 3) := by decide +kernel
theorem dX4_showValue_95 : decode cX4_showValue 95 = .ok (.iconst 1, 1) := by decide +kernel
theorem dX4_showValue_96 : decode cX4_showValue 96 = .ok (.goto 4, 3) := by decide +kernel
theorem dX4_showValue_99 : decode cX4_showValue 99 = .ok (.iconst 0, 1) := by decide +kernel
theorem dX4_showValue_100 : decode cX4_showValue 100 = .ok (.istore 7, 2) := by decide +kernel
theorem dX4_showValue_102 : decode cX4_showValue 102 = .ok (.iload 7, 2) := by decide +kernel
theorem dX4_showValue_104 : decode cX4_showValue 104 = .ok (.ifCond .eq 16, 3) := by decide +kernel
theorem dX4_showValue_107 : decode cX4_showValue 107 = .ok (.aload_n 0, 1) := by decide +kernel
theorem dX4_showValue_108 : decode cX4_showValue 108 = .ok (.getfield 34, 3) := by decide +kernel
theorem dX4_showValue_111 : decode cX4_showValue 111 = .ok (.iload 4, 2) := by decide +kernel
theorem dX4_showValue_113 : decode cX4_showValue 113 = .ok (.iload 5, 2) := by decide +kernel
theorem dX4_showValue_115 : decode cX4_showValue 115 = .ok (.invokevirtual 253, 3) := by decide +kernel
theorem dX4_showValue_118 : decode cX4_showValue 118 = .ok (.istore 6, 2) := by decide +kernel
theorem dX4_showValue_120 : decode cX4_showValue 120 = .ok (.aload_n 1, 1) := by decide +kernel
theorem dX4_showValue_121 : decode cX4_showValue 121 = .ok (.iload_n 2, 1) := by decide +kernel
theorem dX4_showValue_122 : decode cX4_showValue 122 = .ok (.iconst 0, 1) := by decide +kernel
theorem dX4_showValue_123 : decode cX4_showValue 123 = .ok (.invokevirtual 217, 3) := by decide +kernel
theorem dX4_showValue_126 : decode cX4_showValue 126 = .ok (.istore 8, 2) := by decide +kernel
theorem dX4_showValue_128 : decode cX4_showValue 128 = .ok (.iload 7, 2) := by decide +kernel
theorem dX4_showValue_130 : decode cX4_showValue 130 = .ok (.ifCond .eq 8, 3) := by decide +kernel
theorem dX4_showValue_133 : decode cX4_showValue 133 = .ok (.iload 8, 2) := by decide +kernel
theorem dX4_showValue_135 : decode cX4_showValue 135 = .ok (.goto 18, 3) := by decide +kernel
theorem dX4_showValue_138 : decode cX4_showValue 138 = .ok (.aload_n 0, 1) := by decide +kernel
theorem dX4_showValue_139 : decode cX4_showValue 139 = .ok (.getfield 34, 3) := by decide +kernel
theorem dX4_showValue_142 : decode cX4_showValue 142 = .ok (.iload 6, 2) := by decide +kernel
theorem dX4_showValue_144 : decode cX4_showValue 144 = .ok (.iconst 0, 1) := by decide +kernel
theorem dX4_showValue_145 : decode cX4_showValue 145 = .ok (.invokevirtual 217, 3) := by decide +kernel
theorem dX4_showValue_148 : decode cX4_showValue 148 = .ok (.iload 8, 2) := by decide +kernel
theorem dX4_showValue_150 : decode cX4_showValue 150 = .ok (.invokestatic 256, 3) := by decide +kernel
theorem dX4_showValue_153 : decode cX4_showValue 153 = .ok (.istore 9, 2) := by decide +kernel
theorem dX4_showValue_155 : decode cX4_showValue 155 = .ok (.aload_n 0, 1) := by decide +kernel
theorem dX4_showValue_156 : decode cX4_showValue 156 = .ok (.getfield 34, 3) := by decide +kernel
theorem dX4_showValue_159 : decode cX4_showValue 159 = .ok (.iload 6, 2) := by decide +kernel
theorem dX4_showValue_161 : decode cX4_showValue 161 = .ok (.iconst 3, 1) := by decide +kernel
theorem dX4_showValue_162 : decode cX4_showValue 162 = .ok (.aload_n 0, 1) := by decide +kernel
theorem dX4_showValue_163 : decode cX4_showValue 163 = .ok (.getfield 34, 3) := by decide +kernel
theorem dX4_showValue_166 : decode cX4_showValue 166 = .ok (.iload 6, 2) := by decide +kernel
theorem dX4_showValue_168 : decode cX4_showValue 168 = .ok (.iconst 3, 1) := by decide +kernel
theorem dX4_showValue_169 : decode cX4_showValue 169 = .ok (.invokevirtual 217, 3) := by decide +kernel
theorem dX4_showValue_172 : decode cX4_showValue 172 = .ok (.iconst 1, 1) := by decide +kernel
theorem dX4_showValue_173 : decode cX4_showValue 173 = .ok (.iadd, 1) := by decide +kernel
theorem dX4_showValue_174 : decode cX4_showValue 174 = .ok (.invokevirtual 245, 3) := by decide +kernel
theorem dX4_showValue_177 : decode cX4_showValue 177 = .ok (.iload 8, 2) := by decide +kernel
theorem dX4_showValue_179 : decode cX4_showValue 179 = .ok (.bipush 6, 2) := by decide +kernel
theorem dX4_showValue_181 : decode cX4_showValue 181 = .ok (.if_icmp .ne 25, 3) := by decide +kernel
theorem dX4_showValue_184 : decode cX4_showValue 184 = .ok (.aload_n 0, 1) := by decide +kernel
theorem dX4_showValue_185 : decode cX4_showValue 185 = .ok (.getfield 34, 3) := by decide +kernel
theorem dX4_showValue_188 : decode cX4_showValue 188 = .ok (.iload 6, 2) := by decide +kernel
theorem dX4_showValue_190 : decode cX4_showValue 190 = .ok (.iconst 5, 1) := by decide +kernel
theorem dX4_showValue_191 : decode cX4_showValue 191 = .ok (.aload_n 0, 1) := by decide +kernel
theorem dX4_showValue_192 : decode cX4_showValue 192 = .ok (.getfield 34, 3) := by decide +kernel
theorem dX4_showValue_195 : decode cX4_showValue 195 = .ok (.iload 6, 2) := by decide +kernel
theorem dX4_showValue_197 : decode cX4_showValue 197 = .ok (.iconst 5, 1) := by decide +kernel
theorem dX4_showValue_198 : decode cX4_showValue 198 = .ok (.invokevirtual 217, 3) := by decide +kernel
theorem dX4_showValue_201 : decode cX4_showValue 201 = .ok (.iconst 1, 1) := by decide +kernel
theorem dX4_showValue_202 : decode cX4_showValue 202 = .ok (.iadd, 1) := by decide +kernel
theorem dX4_showValue_203 : decode cX4_showValue 203 = .ok (.invokevirtual 245, 3) := by decide +kernel
theorem dX4_showValue_206 : decode cX4_showValue 206 = .ok (.iload 8, 2) := by decide +kernel
theorem dX4_showValue_208 : decode cX4_showValue 208 = .ok (.ifCond .ne 14, 3) := by decide +kernel
theorem dX4_showValue_211 : decode cX4_showValue 211 = .ok (.aload_n 0, 1) := by decide +kernel
theorem dX4_showValue_212 : decode cX4_showValue 212 = .ok (.getfield 34, 3) := by decide +kernel
theorem dX4_showValue_215 : decode cX4_showValue 215 = .ok (.iload 6, 2) := by decide +kernel
