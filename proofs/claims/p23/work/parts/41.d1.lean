/-! ===== decode rows ===== -/
theorem dX4_append_63 : decode cX4_append 63 = .ok (.getfield 56, 3) := by decide +kernel
theorem dX4_append_66 : decode cX4_append 66 = .ok (.iconst 1, 1) := by decide +kernel
theorem dX4_append_67 : decode cX4_append 67 = .ok (.iadd, 1) := by decide +kernel
theorem dX4_append_68 : decode cX4_append 68 = .ok (.putfield 56, 3) := by decide +kernel
theorem dX4_append_71 : decode cX4_append 71 = .ok (.aload_n 0, 1) := by decide +kernel
theorem dX4_append_72 : decode cX4_append 72 = .ok (.getfield 56, 3) := by decide +kernel
theorem dX4_append_75 : decode cX4_append 75 = .ok (.ireturn, 1) := by decide +kernel
theorem dX4_clearBuffer_0 : decode cX4_clearBuffer 0 = .ok (.aload_n 0, 1) := by decide +kernel
theorem dX4_clearBuffer_1 : decode cX4_clearBuffer 1 = .ok (.getfield 56, 3) := by decide +kernel
theorem dX4_clearBuffer_4 : decode cX4_clearBuffer 4 = .ok (.istore_n 1, 1) := by decide +kernel
theorem dX4_clearBuffer_5 : decode cX4_clearBuffer 5 = .ok (.aload_n 0, 1) := by decide +kernel
theorem dX4_clearBuffer_6 : decode cX4_clearBuffer 6 = .ok (.iconst 0, 1) := by decide +kernel
theorem dX4_clearBuffer_7 : decode cX4_clearBuffer 7 = .ok (.putfield 56, 3) := by decide +kernel
theorem dX4_clearBuffer_10 : decode cX4_clearBuffer 10 = .ok (.iload_n 1, 1) := by decide +kernel
theorem dX4_clearBuffer_11 : decode cX4_clearBuffer 11 = .ok (.ireturn, 1) := by decide +kernel
theorem dX4_undo_0 : decode cX4_undo 0 = .ok (.aload_n 0, 1) := by decide +kernel
theorem dX4_undo_1 : decode cX4_undo 1 = .ok (.aload_n 0, 1) := by decide +kernel
theorem dX4_undo_2 : decode cX4_undo 2 = .ok (.getfield 125, 3) := by decide +kernel
theorem dX4_undo_5 : decode cX4_undo 5 = .ok (.iconst 1, 1) := by decide +kernel
theorem dX4_undo_6 : decode cX4_undo 6 = .ok (.isub, 1) := by decide +kernel
theorem dX4_undo_7 : decode cX4_undo 7 = .ok (.invokevirtual 128, 3) := by decide +kernel
theorem dX4_undo_10 : decode cX4_undo 10 = .ok (.astore_n 1, 1) := by decide +kernel
theorem dX4_undo_11 : decode cX4_undo 11 = .ok (.aload_n 0, 1) := by decide +kernel
theorem dX4_undo_12 : decode cX4_undo 12 = .ok (.getfield 125, 3) := by decide +kernel
theorem dX4_undo_15 : decode cX4_undo 15 = .ok (.ifCond .le 7, 3) := by decide +kernel
theorem dX4_undo_18 : decode cX4_undo 18 = .ok (.aload_n 1, 1) := by decide +kernel
theorem dX4_undo_19 : decode cX4_undo 19 = .ok (.ifnonnull 13, 3) := by decide +kernel
theorem dX4_undo_22 : decode cX4_undo 22 = .ok (.new 81, 3) := by decide +kernel
theorem dX4_undo_25 : decode cX4_undo 25 = .ok (.dup, 1) := by decide +kernel
theorem dX4_undo_26 : decode cX4_undo 26 = .ok (.ldc 132, 2) := by decide +kernel
theorem dX4_undo_28 : decode cX4_undo 28 = .ok (.invokespecial 85, 3) := by decide +kernel
theorem dX4_undo_31 : decode cX4_undo 31 = .ok (.athrow, 1) := by decide +kernel
theorem dX4_undo_32 : decode cX4_undo 32 = .ok (.aload_n 0, 1) := by decide +kernel
theorem dX4_undo_33 : decode cX4_undo 33 = .ok (.getfield 23, 3) := by decide +kernel
theorem dX4_undo_36 : decode cX4_undo 36 = .ok (.aload_n 1, 1) := by decide +kernel
theorem dX4_undo_37 : decode cX4_undo 37 = .ok (.invokevirtual 134, 3) := by decide +kernel
theorem dX4_undo_40 : decode cX4_undo 40 = .ok (.aload_n 0, 1) := by decide +kernel
theorem dX4_undo_41 : decode cX4_undo 41 = .ok (.dup, 1) := by decide +kernel
theorem dX4_undo_42 : decode cX4_undo 42 = .ok (.getfield 125, 3) := by decide +kernel
theorem dX4_undo_45 : decode cX4_undo 45 = .ok (.iconst 1, 1) := by decide +kernel
theorem dX4_undo_46 : decode cX4_undo 46 = .ok (.isub, 1) := by decide +kernel
theorem dX4_undo_47 : decode cX4_undo 47 = .ok (.putfield 125, 3) := by decide +kernel
theorem dX4_undo_50 : decode cX4_undo 50 = .ok (.aload_n 0, 1) := by decide +kernel
theorem dX4_undo_51 : decode cX4_undo 51 = .ok (.getfield 125, 3) := by decide +kernel
theorem dX4_undo_54 : decode cX4_undo 54 = .ok (.ireturn, 1) := by decide +kernel
theorem dX4_node_0 : decode cX4_node 0 = .ok (.iload_n 1, 1) := by decide +kernel
theorem dX4_node_1 : decode cX4_node 1 = .ok (.invokestatic 45, 3) := by decide +kernel
theorem dX4_node_4 : decode cX4_node 4 = .ok (.ifCond .eq 18, 3) := by decide +kernel
theorem dX4_node_7 : decode cX4_node 7 = .ok (.aload_n 0, 1) := by decide +kernel
theorem dX4_node_8 : decode cX4_node 8 = .ok (.getfield 23, 3) := by decide +kernel
theorem dX4_node_11 : decode cX4_node 11 = .ok (.iload_n 1, 1) := by decide +kernel
theorem dX4_node_12 : decode cX4_node 12 = .ok (.invokevirtual 69, 3) := by decide +kernel
theorem dX4_node_15 : decode cX4_node 15 = .ok (.iload_n 2, 1) := by decide +kernel
theorem dX4_node_16 : decode cX4_node 16 = .ok (.invokevirtual 137, 3) := by decide +kernel
theorem dX4_node_19 : decode cX4_node 19 = .ok (.ifCond .ne 13, 3) := by decide +kernel
theorem dX4_node_22 : decode cX4_node 22 = .ok (.new 49, 3) := by decide +kernel
theorem dX4_node_25 : decode cX4_node 25 = .ok (.dup, 1) := by decide +kernel
theorem dX4_node_26 : decode cX4_node 26 = .ok (.ldc 140, 2) := by decide +kernel
theorem dX4_node_28 : decode cX4_node 28 = .ok (.invokespecial 53, 3) := by decide +kernel
theorem dX4_node_31 : decode cX4_node 31 = .ok (.athrow, 1) := by decide +kernel
theorem dX4_node_32 : decode cX4_node 32 = .ok (.iload_n 3, 1) := by decide +kernel
theorem dX4_node_33 : decode cX4_node 33 = .ok (.ifCond .lt 9, 3) := by decide +kernel
theorem dX4_node_36 : decode cX4_node 36 = .ok (.iload_n 3, 1) := by decide +kernel
theorem dX4_node_37 : decode cX4_node 37 = .ok (.bipush 9, 2) := by decide +kernel
theorem dX4_node_39 : decode cX4_node 39 = .ok (.if_icmp .le 13, 3) := by decide +kernel
theorem dX4_node_42 : decode cX4_node 42 = .ok (.new 64, 3) := by decide +kernel
theorem dX4_node_45 : decode cX4_node 45 = .ok (.dup, 1) := by decide +kernel
theorem dX4_node_46 : decode cX4_node 46 = .ok (.ldc 142, 2) := by decide +kernel
theorem dX4_node_48 : decode cX4_node 48 = .ok (.invokespecial 68, 3) := by decide +kernel
theorem dX4_node_51 : decode cX4_node 51 = .ok (.athrow, 1) := by decide +kernel
theorem dX4_node_52 : decode cX4_node 52 = .ok (.aload_n 0, 1) := by decide +kernel
theorem dX4_node_53 : decode cX4_node 53 = .ok (.getfield 23, 3) := by decide +kernel
theorem dX4_node_56 : decode cX4_node 56 = .ok (.iload_n 1, 1) := by decide +kernel
theorem dX4_node_57 : decode cX4_node 57 = .ok (.invokevirtual 69, 3) := by decide +kernel
theorem dX4_node_60 : decode cX4_node 60 = .ok (.iload_n 2, 1) := by decide +kernel
theorem dX4_node_61 : decode cX4_node 61 = .ok (.iload_n 3, 1) := by decide +kernel
theorem dX4_node_62 : decode cX4_node 62 = .ok (.invokestatic 144, 3) := by decide +kernel
theorem dX4_node_65 : decode cX4_node 65 = .ok (.ireturn, 1) := by decide +kernel
theorem dX4_child_0 : decode cX4_child 0 = .ok (.iload_n 1, 1) := by decide +kernel
theorem dX4_child_1 : decode cX4_child 1 = .ok (.invokestatic 45, 3) := by decide +kernel
theorem dX4_child_4 : decode cX4_child 4 = .ok (.ifCond .eq 18, 3) := by decide +kernel
theorem dX4_child_7 : decode cX4_child 7 = .ok (.aload_n 0, 1) := by decide +kernel
theorem dX4_child_8 : decode cX4_child 8 = .ok (.getfield 23, 3) := by decide +kernel
theorem dX4_child_11 : decode cX4_child 11 = .ok (.iload_n 1, 1) := by decide +kernel
theorem dX4_child_12 : decode cX4_child 12 = .ok (.invokevirtual 69, 3) := by decide +kernel
theorem dX4_child_15 : decode cX4_child 15 = .ok (.iload_n 2, 1) := by decide +kernel
theorem dX4_child_16 : decode cX4_child 16 = .ok (.invokevirtual 137, 3) := by decide +kernel
theorem dX4_child_19 : decode cX4_child 19 = .ok (.ifCond .ne 13, 3) := by decide +kernel
theorem dX4_child_22 : decode cX4_child 22 = .ok (.new 49, 3) := by decide +kernel
theorem dX4_child_25 : decode cX4_child 25 = .ok (.dup, 1) := by decide +kernel
theorem dX4_child_26 : decode cX4_child 26 = .ok (.ldc 140, 2) := by decide +kernel
theorem dX4_child_28 : decode cX4_child 28 = .ok (.invokespecial 53, 3) := by decide +kernel
theorem dX4_child_31 : decode cX4_child 31 = .ok (.athrow, 1) := by decide +kernel
theorem dX4_child_32 : decode cX4_child 32 = .ok (.iload_n 3, 1) := by decide +kernel
theorem dX4_child_33 : decode cX4_child 33 = .ok (.ifCond .lt 9, 3) := by decide +kernel
theorem dX4_child_36 : decode cX4_child 36 = .ok (.iload_n 3, 1) := by decide +kernel
theorem dX4_child_37 : decode cX4_child 37 = .ok (.bipush 8, 2) := by decide +kernel
theorem dX4_child_39 : decode cX4_child 39 = .ok (.if_icmp .le 13, 3) := by decide +kernel
theorem dX4_child_42 : decode cX4_child 42 = .ok (.new 64, 3) := by decide +kernel
theorem dX4_child_45 : decode cX4_child 45 = .ok (.dup, 1) := by decide +kernel
theorem dX4_child_46 : decode cX4_child 46 = .ok (.ldc 148, 2) := by decide +kernel
theorem dX4_child_48 : decode cX4_child 48 = .ok (.invokespecial 68, 3) := by decide +kernel
theorem dX4_child_51 : decode cX4_child 51 = .ok (.athrow, 1) := by decide +kernel
theorem dX4_child_52 : decode cX4_child 52 = .ok (.aload_n 0, 1) := by decide +kernel
theorem dX4_child_53 : decode cX4_child 53 = .ok (.getfield 23, 3) := by decide +kernel
theorem dX4_child_56 : decode cX4_child 56 = .ok (.iload_n 1, 1) := by decide +kernel
theorem dX4_child_57 : decode cX4_child 57 = .ok (.invokevirtual 69, 3) := by decide +kernel
theorem dX4_child_60 : decode cX4_child 60 = .ok (.iload_n 2, 1) := by decide +kernel
theorem dX4_child_61 : decode cX4_child 61 = .ok (.iload_n 3, 1) := by decide +kernel
theorem dX4_child_62 : decode cX4_child 62 = .ok (.invokevirtual 150, 3) := by decide +kernel
theorem dX4_child_65 : decode cX4_child 65 = .ok (.ireturn, 1) := by decide +kernel
theorem dX4_shape_0 : decode cX4_shape 0 = .ok (.iload_n 1, 1) := by decide +kernel
theorem dX4_shape_1 : decode cX4_shape 1 = .ok (.invokestatic 45, 3) := by decide +kernel
theorem dX4_shape_4 : decode cX4_shape 4 = .ok (.ifCond .ne 13, 3) := by decide +kernel
theorem dX4_shape_7 : decode cX4_shape 7 = .ok (.new 49, 3) := by decide +kernel
theorem dX4_shape_10 : decode cX4_shape 10 = .ok (.dup, 1) := by decide +kernel
theorem dX4_shape_11 : decode cX4_shape 11 = .ok (.ldc 51, 2) := by decide +kernel
theorem dX4_shape_13 : decode cX4_shape 13 = .ok (.invokespecial 53, 3) := by decide +kernel
theorem dX4_shape_16 : decode cX4_shape 16 = .ok (.athrow, 1) := by decide +kernel
theorem dX4_shape_17 : decode cX4_shape 17 = .ok (.iload_n 2, 1) := by decide +kernel
theorem dX4_shape_18 : decode cX4_shape 18 = .ok (.ifCond .lt 8, 3) := by decide +kernel
theorem dX4_shape_21 : decode cX4_shape 21 = .ok (.iload_n 2, 1) := by decide +kernel
theorem dX4_shape_22 : decode cX4_shape 22 = .ok (.iconst 5, 1) := by decide +kernel
theorem dX4_shape_23 : decode cX4_shape 23 = .ok (.if_icmp .le 13, 3) := by decide +kernel
theorem dX4_shape_26 : decode cX4_shape 26 = .ok (.new 64, 3) := by decide +kernel
theorem dX4_shape_29 : decode cX4_shape 29 = .ok (.dup, 1) := by decide +kernel
theorem dX4_shape_30 : decode cX4_shape 30 = .ok (.ldc 154, 2) := by decide +kernel
theorem dX4_shape_32 : decode cX4_shape 32 = .ok (.invokespecial 68, 3) := by decide +kernel
theorem dX4_shape_35 : decode cX4_shape 35 = .ok (.athrow, 1) := by decide +kernel
theorem dX4_shape_36 : decode cX4_shape 36 = .ok (.aload_n 0, 1) := by decide +kernel
theorem dX4_shape_37 : decode cX4_shape 37 = .ok (.getfield 23, 3) := by decide +kernel
theorem dX4_shape_40 : decode cX4_shape 40 = .ok (.iload_n 1, 1) := by decide +kernel
theorem dX4_shape_41 : decode cX4_shape 41 = .ok (.invokevirtual 69, 3) := by decide +kernel
theorem dX4_shape_44 : decode cX4_shape 44 = .ok (.iload_n 2, 1) := by decide +kernel
theorem dX4_shape_45 : decode cX4_shape 45 = .ok (.invokestatic 156, 3) := by decide +kernel
theorem dX4_shape_48 : decode cX4_shape 48 = .ok (.ireturn, 1) := by decide +kernel
theorem dX4_count_0 : decode cX4_count 0 = .ok (.iload_n 1, 1) := by decide +kernel
theorem dX4_count_1 : decode cX4_count 1 = .ok (.ifCond .lt 8, 3) := by decide +kernel
theorem dX4_count_4 : decode cX4_count 4 = .ok (.iload_n 1, 1) := by decide +kernel
theorem dX4_count_5 : decode cX4_count 5 = .ok (.iconst 2, 1) := by decide +kernel
theorem dX4_count_6 : decode cX4_count 6 = .ok (.if_icmp .le 13, 3) := by decide +kernel
theorem dX4_count_9 : decode cX4_count 9 = .ok (.new 64, 3) := by decide +kernel
theorem dX4_count_12 : decode cX4_count 12 = .ok (.dup, 1) := by decide +kernel
theorem dX4_count_13 : decode cX4_count 13 = .ok (.ldc 166, 2) := by decide +kernel
theorem dX4_count_15 : decode cX4_count 15 = .ok (.invokespecial 68, 3) := by decide +kernel
theorem dX4_count_18 : decode cX4_count 18 = .ok (.athrow, 1) := by decide +kernel
theorem dX4_count_19 : decode cX4_count 19 = .ok (.aload_n 0, 1) := by decide +kernel
theorem dX4_count_20 : decode cX4_count 20 = .ok (.iload_n 1, 1) := by decide +kernel
theorem dX4_count_21 : decode cX4_count 21 = .ok (.invokevirtual 168, 3) := by decide +kernel
theorem dX4_count_24 : decode cX4_count 24 = .ok (.ireturn, 1) := by decide +kernel
theorem dX4_ifLearned_0 : decode cX4_ifLearned 0 = .ok (.iload_n 1, 1) := by decide +kernel
theorem dX4_ifLearned_1 : decode cX4_ifLearned 1 = .ok (.invokestatic 45, 3) := by decide +kernel
theorem dX4_ifLearned_4 : decode cX4_ifLearned 4 = .ok (.ifCond .ne 13, 3) := by decide +kernel
theorem dX4_ifLearned_7 : decode cX4_ifLearned 7 = .ok (.new 49, 3) := by decide +kernel
theorem dX4_ifLearned_10 : decode cX4_ifLearned 10 = .ok (.dup, 1) := by decide +kernel
theorem dX4_ifLearned_11 : decode cX4_ifLearned 11 = .ok (.ldc 51, 2) := by decide +kernel
theorem dX4_ifLearned_13 : decode cX4_ifLearned 13 = .ok (.invokespecial 53, 3) := by decide +kernel
theorem dX4_ifLearned_16 : decode cX4_ifLearned 16 = .ok (.athrow, 1) := by decide +kernel
theorem dX4_ifLearned_17 : decode cX4_ifLearned 17 = .ok (.iload_n 2, 1) := by decide +kernel
theorem dX4_ifLearned_18 : decode cX4_ifLearned 18 = .ok (.ifCond .lt 8, 3) := by decide +kernel
theorem dX4_ifLearned_21 : decode cX4_ifLearned 21 = .ok (.iload_n 2, 1) := by decide +kernel
theorem dX4_ifLearned_22 : decode cX4_ifLearned 22 = .ok (.iconst 4, 1) := by decide +kernel
theorem dX4_ifLearned_23 : decode cX4_ifLearned 23 = .ok (.if_icmp .le 13, 3) := by decide +kernel
theorem dX4_ifLearned_26 : decode cX4_ifLearned 26 = .ok (.new 64, 3) := by decide +kernel
theorem dX4_ifLearned_29 : decode cX4_ifLearned 29 = .ok (.dup, 1) := by decide +kernel
theorem dX4_ifLearned_30 : decode cX4_ifLearned 30 = .ok (.ldc 177, 2) := by decide +kernel
theorem dX4_ifLearned_32 : decode cX4_ifLearned 32 = .ok (.invokespecial 68, 3) := by decide +kernel
theorem dX4_ifLearned_35 : decode cX4_ifLearned 35 = .ok (.athrow, 1) := by decide +kernel
theorem dX4_ifLearned_36 : decode cX4_ifLearned 36 = .ok (.aload_n 0, 1) := by decide +kernel
theorem dX4_ifLearned_37 : decode cX4_ifLearned 37 = .ok (.getfield 16, 3) := by decide +kernel
theorem dX4_ifLearned_40 : decode cX4_ifLearned 40 = .ok (.aload_n 0, 1) := by decide +kernel
theorem dX4_ifLearned_41 : decode cX4_ifLearned 41 = .ok (.getfield 9, 3) := by decide +kernel
theorem dX4_ifLearned_44 : decode cX4_ifLearned 44 = .ok (.aload_n 0, 1) := by decide +kernel
theorem dX4_ifLearned_45 : decode cX4_ifLearned 45 = .ok (.getfield 56, 3) := by decide +kernel
theorem dX4_ifLearned_48 : decode cX4_ifLearned 48 = .ok (.invokevirtual 60, 3) := by decide +kernel
theorem dX4_ifLearned_51 : decode cX4_ifLearned 51 = .ok (.ifCond .ne 5, 3) := by decide +kernel
theorem dX4_ifLearned_54 : decode cX4_ifLearned 54 = .ok (.iconst (-1), 1) := by decide +kernel
theorem dX4_ifLearned_55 : decode cX4_ifLearned 55 = .ok (.ireturn, 1) := by decide +kernel
theorem dX4_ifLearned_56 : decode cX4_ifLearned 56 = .ok (.aload_n 0, 1) := by decide +kernel
theorem dX4_ifLearned_57 : decode cX4_ifLearned 57 = .ok (.aload_n 0, 1) := by decide +kernel
theorem dX4_ifLearned_58 : decode cX4_ifLearned 58 = .ok (.getfield 23, 3) := by decide +kernel
theorem dX4_ifLearned_61 : decode cX4_ifLearned 61 = .ok (.iload_n 1, 1) := by decide +kernel
theorem dX4_ifLearned_62 : decode cX4_ifLearned 62 = .ok (.invokevirtual 69, 3) := by decide +kernel
theorem dX4_ifLearned_65 : decode cX4_ifLearned 65 = .ok (.invokevirtual 73, 3) := by decide +kernel
theorem dX4_ifLearned_68 : decode cX4_ifLearned 68 = .ok (.aload_n 0, 1) := by decide +kernel
theorem dX4_ifLearned_69 : decode cX4_ifLearned 69 = .ok (.aload_n 0, 1) := by decide +kernel
theorem dX4_ifLearned_70 : decode cX4_ifLearned 70 = .ok (.getfield 23, 3) := by decide +kernel
theorem dX4_ifLearned_73 : decode cX4_ifLearned 73 = .ok (.iload_n 1, 1) := by decide +kernel
theorem dX4_ifLearned_74 : decode cX4_ifLearned 74 = .ok (.invokevirtual 69, 3) := by decide +kernel
theorem dX4_ifLearned_77 : decode cX4_ifLearned 77 = .ok (.iload_n 2, 1) := by decide +kernel
theorem dX4_ifLearned_78 : decode cX4_ifLearned 78 = .ok (.invokevirtual 179, 3) := by decide +kernel
theorem dX4_ifLearned_81 : decode cX4_ifLearned 81 = .ok (.ireturn, 1) := by decide +kernel
theorem dX4_covers_0 : decode cX4_covers 0 = .ok (.iload_n 1, 1) := by decide +kernel
theorem dX4_covers_1 : decode cX4_covers 1 = .ok (.invokestatic 45, 3) := by decide +kernel
theorem dX4_covers_4 : decode cX4_covers 4 = .ok (.ifCond .ne 13, 3) := by decide +kernel
theorem dX4_covers_7 : decode cX4_covers 7 = .ok (.new 49, 3) := by decide +kernel
theorem dX4_covers_10 : decode cX4_covers 10 = .ok (.dup, 1) := by decide +kernel
theorem dX4_covers_11 : decode cX4_covers 11 = .ok (.ldc 51, 2) := by decide +kernel
theorem dX4_covers_13 : decode cX4_covers 13 = .ok (.invokespecial 53, 3) := by decide +kernel
theorem dX4_covers_16 : decode cX4_covers 16 = .ok (.athrow, 1) := by decide +kernel
theorem dX4_covers_17 : decode cX4_covers 17 = .ok (.aload_n 0, 1) := by decide +kernel
theorem dX4_covers_18 : decode cX4_covers 18 = .ok (.iload_n 1, 1) := by decide +kernel
theorem dX4_covers_19 : decode cX4_covers 19 = .ok (.invokevirtual 182, 3) := by decide +kernel
theorem dX4_covers_22 : decode cX4_covers 22 = .ok (.ifCond .eq 7, 3) := by decide +kernel
theorem dX4_covers_25 : decode cX4_covers 25 = .ok (.iconst 1, 1) := by decide +kernel
theorem dX4_covers_26 : decode cX4_covers 26 = .ok (.goto 4, 3) := by decide +kernel
theorem dX4_covers_29 : decode cX4_covers 29 = .ok (.iconst 0, 1) := by decide +kernel
theorem dX4_covers_30 : decode cX4_covers 30 = .ok (.ireturn, 1) := by decide +kernel
theorem dX4_sureShare_0 : decode cX4_sureShare 0 = .ok (.iload_n 1, 1) := by decide +kernel
theorem dX4_sureShare_1 : decode cX4_sureShare 1 = .ok (.invokestatic 45, 3) := by decide +kernel
theorem dX4_sureShare_4 : decode cX4_sureShare 4 = .ok (.ifCond .ne 13, 3) := by decide +kernel
theorem dX4_sureShare_7 : decode cX4_sureShare 7 = .ok (.new 49, 3) := by decide +kernel
theorem dX4_sureShare_10 : decode cX4_sureShare 10 = .ok (.dup, 1) := by decide +kernel
theorem dX4_sureShare_11 : decode cX4_sureShare 11 = .ok (.ldc 51, 2) := by decide +kernel
theorem dX4_sureShare_13 : decode cX4_sureShare 13 = .ok (.invokespecial 53, 3) := by decide +kernel
theorem dX4_sureShare_16 : decode cX4_sureShare 16 = .ok (.athrow, 1) := by decide +kernel
theorem dX4_sureShare_17 : decode cX4_sureShare 17 = .ok (.aload_n 0, 1) := by decide +kernel
theorem dX4_sureShare_18 : decode cX4_sureShare 18 = .ok (.getfield 23, 3) := by decide +kernel
theorem dX4_sureShare_21 : decode cX4_sureShare 21 = .ok (.iload_n 1, 1) := by decide +kernel
theorem dX4_sureShare_22 : decode cX4_sureShare 22 = .ok (.invokevirtual 69, 3) := by decide +kernel
theorem dX4_sureShare_25 : decode cX4_sureShare 25 = .ok (.invokestatic 185, 3) := by decide +kernel
theorem dX4_sureShare_28 : decode cX4_sureShare 28 = .ok (.dreturn, 1) := by decide +kernel
theorem dX4_isShape_0 : decode cX4_isShape 0 = .ok (.iload_n 0, 1) := by decide +kernel
theorem dX4_isShape_1 : decode cX4_isShape 1 = .ok (.ifCond .eq 8, 3) := by decide +kernel
theorem dX4_isShape_4 : decode cX4_isShape 4 = .ok (.iload_n 0, 1) := by decide +kernel
theorem dX4_isShape_5 : decode cX4_isShape 5 = .ok (.iconst 1, 1) := by decide +kernel
theorem dX4_isShape_6 : decode cX4_isShape 6 = .ok (.if_icmp .ne 7, 3) := by decide +kernel
theorem dX4_isShape_9 : decode cX4_isShape 9 = .ok (.iconst 1, 1) := by decide +kernel
theorem dX4_isShape_10 : decode cX4_isShape 10 = .ok (.goto 4, 3) := by decide +kernel
theorem dX4_isShape_13 : decode cX4_isShape 13 = .ok (.iconst 0, 1) := by decide +kernel
theorem dX4_isShape_14 : decode cX4_isShape 14 = .ok (.ireturn, 1) := by decide +kernel
theorem dX4_savedAt_0 : decode cX4_savedAt 0 = .ok (.iload_n 1, 1) := by decide +kernel
theorem dX4_savedAt_1 : decode cX4_savedAt 1 = .ok (.ifCond .lt 21, 3) := by decide +kernel
theorem dX4_savedAt_4 : decode cX4_savedAt 4 = .ok (.iload_n 1, 1) := by decide +kernel
theorem dX4_savedAt_5 : decode cX4_savedAt 5 = .ok (.aload_n 0, 1) := by decide +kernel
theorem dX4_savedAt_6 : decode cX4_savedAt 6 = .ok (.getfield 27, 3) := by decide +kernel
theorem dX4_savedAt_9 : decode cX4_savedAt 9 = .ok (.arraylength, 1) := by decide +kernel
theorem dX4_savedAt_10 : decode cX4_savedAt 10 = .ok (.if_icmp .ge 12, 3) := by decide +kernel
theorem dX4_savedAt_13 : decode cX4_savedAt 13 = .ok (.aload_n 0, 1) := by decide +kernel
theorem dX4_savedAt_14 : decode cX4_savedAt 14 = .ok (.getfield 27, 3) := by decide +kernel
theorem dX4_savedAt_17 : decode cX4_savedAt 17 = .ok (.iload_n 1, 1) := by decide +kernel
theorem dX4_savedAt_18 : decode cX4_savedAt 18 = .ok (.aaload, 1) := by decide +kernel
theorem dX4_savedAt_19 : decode cX4_savedAt 19 = .ok (.goto 4, 3) := by decide +kernel
theorem dX4_savedAt_22 : decode cX4_savedAt 22 = .ok (.aconst_null, 1) := by decide +kernel
theorem dX4_savedAt_23 : decode cX4_savedAt 23 = .ok (.areturn, 1) := by decide +kernel
theorem dX4_saveState_0 : decode cX4_saveState 0 = .ok (.aload_n 0, 1) := by decide +kernel
theorem dX4_saveState_1 : decode cX4_saveState 1 = .ok (.getfield 125, 3) := by decide +kernel
theorem dX4_saveState_4 : decode cX4_saveState 4 = .ok (.aload_n 0, 1) := by decide +kernel
theorem dX4_saveState_5 : decode cX4_saveState 5 = .ok (.getfield 27, 3) := by decide +kernel
theorem dX4_saveState_8 : decode cX4_saveState 8 = .ok (.arraylength, 1) := by decide +kernel
theorem dX4_saveState_9 : decode cX4_saveState 9 = .ok (.if_icmp .lt 7, 3) := by decide +kernel
theorem dX4_saveState_12 : decode cX4_saveState 12 = .ok (.aload_n 0, 1) := by decide +kernel
theorem dX4_saveState_13 : decode cX4_saveState 13 = .ok (.invokevirtual 211, 3) := by decide +kernel
theorem dX4_saveState_16 : decode cX4_saveState 16 = .ok (.aload_n 0, 1) := by decide +kernel
theorem dX4_saveState_17 : decode cX4_saveState 17 = .ok (.aload_n 0, 1) := by decide +kernel
theorem dX4_saveState_18 : decode cX4_saveState 18 = .ok (.getfield 125, 3) := by decide +kernel
theorem dX4_saveState_21 : decode cX4_saveState 21 = .ok (.invokevirtual 128, 3) := by decide +kernel
theorem dX4_saveState_24 : decode cX4_saveState 24 = .ok (.astore_n 1, 1) := by decide +kernel
theorem dX4_saveState_25 : decode cX4_saveState 25 = .ok (.aload_n 1, 1) := by decide +kernel
theorem dX4_saveState_26 : decode cX4_saveState 26 = .ok (.ifnull 21, 3) := by decide +kernel
theorem dX4_saveState_29 : decode cX4_saveState 29 = .ok (.aload_n 1, 1) := by decide +kernel
theorem dX4_saveState_30 : decode cX4_saveState 30 = .ok (.aload_n 0, 1) := by decide +kernel
theorem dX4_saveState_31 : decode cX4_saveState 31 = .ok (.getfield 23, 3) := by decide +kernel
theorem dX4_saveState_34 : decode cX4_saveState 34 = .ok (.invokevirtual 134, 3) := by decide +kernel
theorem dX4_saveState_37 : decode cX4_saveState 37 = .ok (.aload_n 0, 1) := by decide +kernel
theorem dX4_saveState_38 : decode cX4_saveState 38 = .ok (.dup, 1) := by decide +kernel
theorem dX4_saveState_39 : decode cX4_saveState 39 = .ok (.getfield 125, 3) := by decide +kernel
theorem dX4_saveState_42 : decode cX4_saveState 42 = .ok (.iconst 1, 1) := by decide +kernel
theorem dX4_saveState_43 : decode cX4_saveState 43 = .ok (.iadd, 1) := by decide +kernel
theorem dX4_saveState_44 : decode cX4_saveState 44 = .ok (.putfield 125, 3) := by decide +kernel
theorem dX4_saveState_47 : decode cX4_saveState 47 = .ok (.return_, 1) := by decide +kernel
theorem dX4_dropOldest_0 : decode cX4_dropOldest 0 = .ok (.aload_n 0, 1) := by decide +kernel
theorem dX4_dropOldest_1 : decode cX4_dropOldest 1 = .ok (.iconst 0, 1) := by decide +kernel
theorem dX4_dropOldest_2 : decode cX4_dropOldest 2 = .ok (.invokevirtual 128, 3) := by decide +kernel
theorem dX4_dropOldest_5 : decode cX4_dropOldest 5 = .ok (.astore_n 1, 1) := by decide +kernel
theorem dX4_dropOldest_6 : decode cX4_dropOldest 6 = .ok (.iconst 1, 1) := by decide +kernel
theorem dX4_dropOldest_7 : decode cX4_dropOldest 7 = .ok (.istore_n 2, 1) := by decide +kernel
theorem dX4_dropOldest_8 : decode cX4_dropOldest 8 = .ok (.iload_n 2, 1) := by decide +kernel
theorem dX4_dropOldest_9 : decode cX4_dropOldest 9 = .ok (.aload_n 0, 1) := by decide +kernel
theorem dX4_dropOldest_10 : decode cX4_dropOldest 10 = .ok (.getfield 27, 3) := by decide +kernel
theorem dX4_dropOldest_13 : decode cX4_dropOldest 13 = .ok (.arraylength, 1) := by decide +kernel
theorem dX4_dropOldest_14 : decode cX4_dropOldest 14 = .ok (.if_icmp .ge 23, 3) := by decide +kernel
theorem dX4_dropOldest_17 : decode cX4_dropOldest 17 = .ok (.aload_n 0, 1) := by decide +kernel
theorem dX4_dropOldest_18 : decode cX4_dropOldest 18 = .ok (.getfield 27, 3) := by decide +kernel
theorem dX4_dropOldest_21 : decode cX4_dropOldest 21 = .ok (.iload_n 2, 1) := by decide +kernel
theorem dX4_dropOldest_22 : decode cX4_dropOldest 22 = .ok (.iconst 1, 1) := by decide +kernel
theorem dX4_dropOldest_23 : decode cX4_dropOldest 23 = .ok (.isub, 1) := by decide +kernel
theorem dX4_dropOldest_24 : decode cX4_dropOldest 24 = .ok (.aload_n 0, 1) := by decide +kernel
theorem dX4_dropOldest_25 : decode cX4_dropOldest 25 = .ok (.getfield 27, 3) := by decide +kernel
theorem dX4_dropOldest_28 : decode cX4_dropOldest 28 = .ok (.iload_n 2, 1) := by decide +kernel
theorem dX4_dropOldest_29 : decode cX4_dropOldest 29 = .ok (.aaload, 1) := by decide +kernel
theorem dX4_dropOldest_30 : decode cX4_dropOldest 30 = .ok (.aastore, 1) := by decide +kernel
theorem dX4_dropOldest_31 : decode cX4_dropOldest 31 = .ok (.iinc 2 1, 3) := by decide +kernel
theorem dX4_dropOldest_34 : decode cX4_dropOldest 34 = .ok (.goto (-26), 3) := by decide +kernel
theorem dX4_dropOldest_37 : decode cX4_dropOldest 37 = .ok (.aload_n 0, 1) := by decide +kernel
theorem dX4_dropOldest_38 : decode cX4_dropOldest 38 = .ok (.getfield 27, 3) := by decide +kernel
theorem dX4_dropOldest_41 : decode cX4_dropOldest 41 = .ok (.arraylength, 1) := by decide +kernel
theorem dX4_dropOldest_42 : decode cX4_dropOldest 42 = .ok (.ifCond .le 26, 3) := by decide +kernel
theorem dX4_dropOldest_45 : decode cX4_dropOldest 45 = .ok (.aload_n 0, 1) := by decide +kernel
theorem dX4_dropOldest_46 : decode cX4_dropOldest 46 = .ok (.getfield 27, 3) := by decide +kernel
theorem dX4_dropOldest_49 : decode cX4_dropOldest 49 = .ok (.aload_n 0, 1) := by decide +kernel
theorem dX4_dropOldest_50 : decode cX4_dropOldest 50 = .ok (.getfield 27, 3) := by decide +kernel
theorem dX4_dropOldest_53 : decode cX4_dropOldest 53 = .ok (.arraylength, 1) := by decide +kernel
theorem dX4_dropOldest_54 : decode cX4_dropOldest 54 = .ok (.iconst 1, 1) := by decide +kernel
theorem dX4_dropOldest_55 : decode cX4_dropOldest 55 = .ok (.isub, 1) := by decide +kernel
theorem dX4_dropOldest_56 : decode cX4_dropOldest 56 = .ok (.aload_n 1, 1) := by decide +kernel
theorem dX4_dropOldest_57 : decode cX4_dropOldest 57 = .ok (.aastore, 1) := by decide +kernel
theorem dX4_dropOldest_58 : decode cX4_dropOldest 58 = .ok (.aload_n 0, 1) := by decide +kernel
theorem dX4_dropOldest_59 : decode cX4_dropOldest 59 = .ok (.dup, 1) := by decide +kernel
theorem dX4_dropOldest_60 : decode cX4_dropOldest 60 = .ok (.getfield 125, 3) := by decide +kernel
theorem dX4_dropOldest_63 : decode cX4_dropOldest 63 = .ok (.iconst 1, 1) := by decide +kernel
theorem dX4_dropOldest_64 : decode cX4_dropOldest 64 = .ok (.isub, 1) := by decide +kernel
theorem dX4_dropOldest_65 : decode cX4_dropOldest 65 = .ok (.putfield 125, 3) := by decide +kernel
theorem dX4_dropOldest_68 : decode cX4_dropOldest 68 = .ok (.return_, 1) := by decide +kernel
theorem dX4_takeWork_0 : decode cX4_takeWork 0 = .ok (.aload_n 0, 1) := by decide +kernel
theorem dX4_takeWork_1 : decode cX4_takeWork 1 = .ok (.getfield 34, 3) := by decide +kernel
theorem dX4_takeWork_4 : decode cX4_takeWork 4 = .ok (.invokevirtual 214, 3) := by decide +kernel
theorem dX4_takeWork_7 : decode cX4_takeWork 7 = .ok (.aload_n 1, 1) := by decide +kernel
theorem dX4_takeWork_8 : decode cX4_takeWork 8 = .ok (.aload_n 0, 1) := by decide +kernel
theorem dX4_takeWork_9 : decode cX4_takeWork 9 = .ok (.getfield 34, 3) := by decide +kernel
theorem dX4_takeWork_12 : decode cX4_takeWork 12 = .ok (.invokevirtual 107, 3) := by decide +kernel
theorem dX4_takeWork_15 : decode cX4_takeWork 15 = .ok (.return_, 1) := by decide +kernel
theorem dX4_nodeNumber_0 : decode cX4_nodeNumber 0 = .ok (.iload_n 2, 1) := by decide +kernel
theorem dX4_nodeNumber_1 : decode cX4_nodeNumber 1 = .ok (.tableswitch 115 0 8 #[51, 58, 65, 71, 78, 85, 92, 99, 107], 51) := by decide +kernel
theorem dX4_nodeNumber_52 : decode cX4_nodeNumber 52 = .ok (.aload_n 0, 1) := by decide +kernel
theorem dX4_nodeNumber_53 : decode cX4_nodeNumber 53 = .ok (.iload_n 1, 1) := by decide +kernel
theorem dX4_nodeNumber_54 : decode cX4_nodeNumber 54 = .ok (.iconst 0, 1) := by decide +kernel
theorem dX4_nodeNumber_55 : decode cX4_nodeNumber 55 = .ok (.invokevirtual 217, 3) := by decide +kernel
theorem dX4_nodeNumber_58 : decode cX4_nodeNumber 58 = .ok (.ireturn, 1) := by decide +kernel
theorem dX4_nodeNumber_59 : decode cX4_nodeNumber 59 = .ok (.aload_n 0, 1) := by decide +kernel
theorem dX4_nodeNumber_60 : decode cX4_nodeNumber 60 = .ok (.iload_n 1, 1) := by decide +kernel
theorem dX4_nodeNumber_61 : decode cX4_nodeNumber 61 = .ok (.iconst 1, 1) := by decide +kernel
theorem dX4_nodeNumber_62 : decode cX4_nodeNumber 62 = .ok (.invokevirtual 217, 3) := by decide +kernel
theorem dX4_nodeNumber_65 : decode cX4_nodeNumber 65 = .ok (.ireturn, 1) := by decide +kernel
theorem dX4_nodeNumber_66 : decode cX4_nodeNumber 66 = .ok (.aload_n 0, 1) := by decide +kernel
theorem dX4_nodeNumber_67 : decode cX4_nodeNumber 67 = .ok (.iload_n 1, 1) := by decide +kernel
theorem dX4_nodeNumber_68 : decode cX4_nodeNumber 68 = .ok (.invokevirtual 220, 3) := by decide +kernel
theorem dX4_nodeNumber_71 : decode cX4_nodeNumber 71 = .ok (.ireturn, 1) := by decide +kernel
theorem dX4_nodeNumber_72 : decode cX4_nodeNumber 72 = .ok (.aload_n 0, 1) := by decide +kernel
theorem dX4_nodeNumber_73 : decode cX4_nodeNumber 73 = .ok (.iload_n 1, 1) := by decide +kernel
theorem dX4_nodeNumber_74 : decode cX4_nodeNumber 74 = .ok (.iconst 2, 1) := by decide +kernel
theorem dX4_nodeNumber_75 : decode cX4_nodeNumber 75 = .ok (.invokevirtual 217, 3) := by decide +kernel
theorem dX4_nodeNumber_78 : decode cX4_nodeNumber 78 = .ok (.ireturn, 1) := by decide +kernel
theorem dX4_nodeNumber_79 : decode cX4_nodeNumber 79 = .ok (.aload_n 0, 1) := by decide +kernel
theorem dX4_nodeNumber_80 : decode cX4_nodeNumber 80 = .ok (.iload_n 1, 1) := by decide +kernel
theorem dX4_nodeNumber_81 : decode cX4_nodeNumber 81 = .ok (.iconst 3, 1) := by decide +kernel
theorem dX4_nodeNumber_82 : decode cX4_nodeNumber 82 = .ok (.invokevirtual 217, 3) := by decide +kernel
theorem dX4_nodeNumber_85 : decode cX4_nodeNumber 85 = .ok (.ireturn, 1) := by decide +kernel
theorem dX4_nodeNumber_86 : decode cX4_nodeNumber 86 = .ok (.aload_n 0, 1) := by decide +kernel
theorem dX4_nodeNumber_87 : decode cX4_nodeNumber 87 = .ok (.iload_n 1, 1) := by decide +kernel
theorem dX4_nodeNumber_88 : decode cX4_nodeNumber 88 = .ok (.iconst 4, 1) := by decide +kernel
theorem dX4_nodeNumber_89 : decode cX4_nodeNumber 89 = .ok (.invokevirtual 217, 3) := by decide +kernel
theorem dX4_nodeNumber_92 : decode cX4_nodeNumber 92 = .ok (.ireturn, 1) := by decide +kernel
theorem dX4_nodeNumber_93 : decode cX4_nodeNumber 93 = .ok (.aload_n 0, 1) := by decide +kernel
theorem dX4_nodeNumber_94 : decode cX4_nodeNumber 94 = .ok (.iload_n 1, 1) := by decide +kernel
theorem dX4_nodeNumber_95 : decode cX4_nodeNumber 95 = .ok (.iconst 5, 1) := by decide +kernel
theorem dX4_nodeNumber_96 : decode cX4_nodeNumber 96 = .ok (.invokevirtual 217, 3) := by decide +kernel
theorem dX4_nodeNumber_99 : decode cX4_nodeNumber 99 = .ok (.ireturn, 1) := by decide +kernel
theorem dX4_nodeNumber_100 : decode cX4_nodeNumber 100 = .ok (.aload_n 0, 1) := by decide +kernel
theorem dX4_nodeNumber_101 : decode cX4_nodeNumber 101 = .ok (.iload_n 1, 1) := by decide +kernel
theorem dX4_nodeNumber_102 : decode cX4_nodeNumber 102 = .ok (.bipush 8, 2) := by decide +kernel
theorem dX4_nodeNumber_104 : decode cX4_nodeNumber 104 = .ok (.invokevirtual 217, 3) := by decide +kernel
theorem dX4_nodeNumber_107 : decode cX4_nodeNumber 107 = .ok (.ireturn, 1) := by decide +kernel
theorem dX4_nodeNumber_108 : decode cX4_nodeNumber 108 = .ok (.aload_n 0, 1) := by decide +kernel
theorem dX4_nodeNumber_109 : decode cX4_nodeNumber 109 = .ok (.iload_n 1, 1) := by decide +kernel
theorem dX4_nodeNumber_110 : decode cX4_nodeNumber 110 = .ok (.bipush 6, 2) := by decide +kernel
theorem dX4_nodeNumber_112 : decode cX4_nodeNumber 112 = .ok (.invokevirtual 217, 3) := by decide +kernel
theorem dX4_nodeNumber_115 : decode cX4_nodeNumber 115 = .ok (.ireturn, 1) := by decide +kernel
theorem dX4_nodeNumber_116 : decode cX4_nodeNumber 116 = .ok (.aload_n 0, 1) := by decide +kernel
theorem dX4_nodeNumber_117 : decode cX4_nodeNumber 117 = .ok (.iload_n 1, 1) := by decide +kernel
theorem dX4_nodeNumber_118 : decode cX4_nodeNumber 118 = .ok (.invokevirtual 223, 3) := by decide +kernel
theorem dX4_nodeNumber_121 : decode cX4_nodeNumber 121 = .ok (.ireturn, 1) := by decide +kernel
theorem dX4_shapeNumber_0 : decode cX4_shapeNumber 0 = .ok (.iload_n 1, 1) := by decide +kernel
theorem dX4_shapeNumber_1 : decode cX4_shapeNumber 1 = .ok (.ifCond .ne 8, 3) := by decide +kernel
theorem dX4_shapeNumber_4 : decode cX4_shapeNumber 4 = .ok (.aload_n 0, 1) := by decide +kernel
theorem dX4_shapeNumber_5 : decode cX4_shapeNumber 5 = .ok (.getfield 226, 3) := by decide +kernel
theorem dX4_shapeNumber_8 : decode cX4_shapeNumber 8 = .ok (.ireturn, 1) := by decide +kernel
theorem dX4_shapeNumber_9 : decode cX4_shapeNumber 9 = .ok (.iload_n 1, 1) := by decide +kernel
theorem dX4_shapeNumber_10 : decode cX4_shapeNumber 10 = .ok (.iconst 1, 1) := by decide +kernel
theorem dX4_shapeNumber_11 : decode cX4_shapeNumber 11 = .ok (.if_icmp .ne 8, 3) := by decide +kernel
theorem dX4_shapeNumber_14 : decode cX4_shapeNumber 14 = .ok (.aload_n 0, 1) := by decide +kernel
theorem dX4_shapeNumber_15 : decode cX4_shapeNumber 15 = .ok (.getfield 92, 3) := by decide +kernel
theorem dX4_shapeNumber_18 : decode cX4_shapeNumber 18 = .ok (.ireturn, 1) := by decide +kernel
theorem dX4_shapeNumber_19 : decode cX4_shapeNumber 19 = .ok (.iload_n 1, 1) := by decide +kernel
theorem dX4_shapeNumber_20 : decode cX4_shapeNumber 20 = .ok (.iconst 5, 1) := by decide +kernel
theorem dX4_shapeNumber_21 : decode cX4_shapeNumber 21 = .ok (.if_icmp .ne 7, 3) := by decide +kernel
theorem dX4_shapeNumber_24 : decode cX4_shapeNumber 24 = .ok (.iconst (-1), 1) := by decide +kernel
theorem dX4_shapeNumber_25 : decode cX4_shapeNumber 25 = .ok (.goto 4, 3) := by decide +kernel
theorem dX4_shapeNumber_28 : decode cX4_shapeNumber 28 = .ok (.iconst 0, 1) := by decide +kernel
theorem dX4_shapeNumber_29 : decode cX4_shapeNumber 29 = .ok (.istore_n 2, 1) := by decide +kernel
theorem dX4_shapeNumber_30 : decode cX4_shapeNumber 30 = .ok (.iconst 0, 1) := by decide +kernel
theorem dX4_shapeNumber_31 : decode cX4_shapeNumber 31 = .ok (.istore_n 3, 1) := by decide +kernel
theorem dX4_shapeNumber_32 : decode cX4_shapeNumber 32 = .ok (.iload_n 3, 1) := by decide +kernel
theorem dX4_shapeNumber_33 : decode cX4_shapeNumber 33 = .ok (.aload_n 0, 1) := by decide +kernel
theorem dX4_shapeNumber_34 : decode cX4_shapeNumber 34 = .ok (.getfield 92, 3) := by decide +kernel
theorem dX4_shapeNumber_37 : decode cX4_shapeNumber 37 = .ok (.if_icmp .ge 78, 3) := by decide +kernel
theorem dX4_shapeNumber_40 : decode cX4_shapeNumber 40 = .ok (.iload_n 1, 1) := by decide +kernel
theorem dX4_shapeNumber_41 : decode cX4_shapeNumber 41 = .ok (.iconst 5, 1) := by decide +kernel
theorem dX4_shapeNumber_42 : decode cX4_shapeNumber 42 = .ok (.if_icmp .ne 17, 3) := by decide +kernel
theorem dX4_shapeNumber_45 : decode cX4_shapeNumber 45 = .ok (.iload_n 2, 1) := by decide +kernel
theorem dX4_shapeNumber_46 : decode cX4_shapeNumber 46 = .ok (.aload_n 0, 1) := by decide +kernel
theorem dX4_shapeNumber_47 : decode cX4_shapeNumber 47 = .ok (.iload_n 3, 1) := by decide +kernel
theorem dX4_shapeNumber_48 : decode cX4_shapeNumber 48 = .ok (.iconst 2, 1) := by decide +kernel
theorem dX4_shapeNumber_49 : decode cX4_shapeNumber 49 = .ok (.invokevirtual 217, 3) := by decide +kernel
theorem dX4_shapeNumber_52 : decode cX4_shapeNumber 52 = .ok (.invokestatic 229, 3) := by decide +kernel
theorem dX4_shapeNumber_55 : decode cX4_shapeNumber 55 = .ok (.istore_n 2, 1) := by decide +kernel
theorem dX4_shapeNumber_56 : decode cX4_shapeNumber 56 = .ok (.goto 53, 3) := by decide +kernel
theorem dX4_shapeNumber_59 : decode cX4_shapeNumber 59 = .ok (.iload_n 1, 1) := by decide +kernel
theorem dX4_shapeNumber_60 : decode cX4_shapeNumber 60 = .ok (.iconst 2, 1) := by decide +kernel
theorem dX4_shapeNumber_61 : decode cX4_shapeNumber 61 = .ok (.if_icmp .ne 14, 3) := by decide +kernel
theorem dX4_shapeNumber_64 : decode cX4_shapeNumber 64 = .ok (.aload_n 0, 1) := by decide +kernel
theorem dX4_shapeNumber_65 : decode cX4_shapeNumber 65 = .ok (.iload_n 3, 1) := by decide +kernel
theorem dX4_shapeNumber_66 : decode cX4_shapeNumber 66 = .ok (.iconst 0, 1) := by decide +kernel
theorem dX4_shapeNumber_67 : decode cX4_shapeNumber 67 = .ok (.invokevirtual 217, 3) := by decide +kernel
theorem dX4_shapeNumber_70 : decode cX4_shapeNumber 70 = .ok (.bipush 7, 2) := by decide +kernel
theorem dX4_shapeNumber_72 : decode cX4_shapeNumber 72 = .ok (.if_icmp .eq 34, 3) := by decide +kernel
theorem dX4_shapeNumber_75 : decode cX4_shapeNumber 75 = .ok (.iload_n 1, 1) := by decide +kernel
theorem dX4_shapeNumber_76 : decode cX4_shapeNumber 76 = .ok (.iconst 3, 1) := by decide +kernel
theorem dX4_shapeNumber_77 : decode cX4_shapeNumber 77 = .ok (.if_icmp .ne 14, 3) := by decide +kernel
theorem dX4_shapeNumber_80 : decode cX4_shapeNumber 80 = .ok (.aload_n 0, 1) := by decide +kernel
theorem dX4_shapeNumber_81 : decode cX4_shapeNumber 81 = .ok (.iload_n 3, 1) := by decide +kernel
theorem dX4_shapeNumber_82 : decode cX4_shapeNumber 82 = .ok (.bipush 8, 2) := by decide +kernel
theorem dX4_shapeNumber_84 : decode cX4_shapeNumber 84 = .ok (.invokevirtual 217, 3) := by decide +kernel
theorem dX4_shapeNumber_87 : decode cX4_shapeNumber 87 = .ok (.iconst 1, 1) := by decide +kernel
theorem dX4_shapeNumber_88 : decode cX4_shapeNumber 88 = .ok (.if_icmp .eq 18, 3) := by decide +kernel
theorem dX4_shapeNumber_91 : decode cX4_shapeNumber 91 = .ok (.iload_n 1, 1) := by decide +kernel
theorem dX4_shapeNumber_92 : decode cX4_shapeNumber 92 = .ok (.iconst 4, 1) := by decide +kernel
theorem dX4_shapeNumber_93 : decode cX4_shapeNumber 93 = .ok (.if_icmp .ne 16, 3) := by decide +kernel
theorem dX4_shapeNumber_96 : decode cX4_shapeNumber 96 = .ok (.aload_n 0, 1) := by decide +kernel
theorem dX4_shapeNumber_97 : decode cX4_shapeNumber 97 = .ok (.iload_n 3, 1) := by decide +kernel
theorem dX4_shapeNumber_98 : decode cX4_shapeNumber 98 = .ok (.iconst 4, 1) := by decide +kernel
theorem dX4_shapeNumber_99 : decode cX4_shapeNumber 99 = .ok (.invokevirtual 217, 3) := by decide +kernel
theorem dX4_shapeNumber_102 : decode cX4_shapeNumber 102 = .ok (.iconst 1, 1) := by decide +kernel
theorem dX4_shapeNumber_103 : decode cX4_shapeNumber 103 = .ok (.if_icmp .ne 6, 3) := by decide +kernel
theorem dX4_shapeNumber_106 : decode cX4_shapeNumber 106 = .ok (.iinc 2 1, 3) := by decide +kernel
theorem dX4_shapeNumber_109 : decode cX4_shapeNumber 109 = .ok (.iinc 3 1, 3) := by decide +kernel
theorem dX4_shapeNumber_112 : decode cX4_shapeNumber 112 = .ok (.goto (-80), 3) := by decide +kernel
theorem dX4_shapeNumber_115 : decode cX4_shapeNumber 115 = .ok (.iload_n 2, 1) := by decide +kernel
theorem dX4_shapeNumber_116 : decode cX4_shapeNumber 116 = .ok (.ireturn, 1) := by decide +kernel
theorem dX4_stateNumber_0 : decode cX4_stateNumber 0 = .ok (.iload_n 1, 1) := by decide +kernel
theorem dX4_stateNumber_1 : decode cX4_stateNumber 1 = .ok (.ifCond .ne 13, 3) := by decide +kernel
theorem dX4_stateNumber_4 : decode cX4_stateNumber 4 = .ok (.aload_n 0, 1) := by decide +kernel
theorem dX4_stateNumber_5 : decode cX4_stateNumber 5 = .ok (.getfield 23, 3) := by decide +kernel
theorem dX4_stateNumber_8 : decode cX4_stateNumber 8 = .ok (.getfield 115, 3) := by decide +kernel
theorem dX4_stateNumber_11 : decode cX4_stateNumber 11 = .ok (.goto 19, 3) := by decide +kernel
theorem dX4_stateNumber_14 : decode cX4_stateNumber 14 = .ok (.iload_n 1, 1) := by decide +kernel
theorem dX4_stateNumber_15 : decode cX4_stateNumber 15 = .ok (.iconst 1, 1) := by decide +kernel
theorem dX4_stateNumber_16 : decode cX4_stateNumber 16 = .ok (.if_icmp .ne 10, 3) := by decide +kernel
theorem dX4_stateNumber_19 : decode cX4_stateNumber 19 = .ok (.aload_n 0, 1) := by decide +kernel
theorem dX4_stateNumber_20 : decode cX4_stateNumber 20 = .ok (.getfield 56, 3) := by decide +kernel
theorem dX4_stateNumber_23 : decode cX4_stateNumber 23 = .ok (.goto 7, 3) := by decide +kernel
theorem dX4_stateNumber_26 : decode cX4_stateNumber 26 = .ok (.aload_n 0, 1) := by decide +kernel
theorem dX4_stateNumber_27 : decode cX4_stateNumber 27 = .ok (.getfield 125, 3) := by decide +kernel
theorem dX4_stateNumber_30 : decode cX4_stateNumber 30 = .ok (.ireturn, 1) := by decide +kernel
theorem dX4_shareOfSure_0 : decode cX4_shareOfSure 0 = .ok (.aload_n 0, 1) := by decide +kernel
theorem dX4_shareOfSure_1 : decode cX4_shareOfSure 1 = .ok (.getfield 92, 3) := by decide +kernel
theorem dX4_shareOfSure_4 : decode cX4_shareOfSure 4 = .ok (.ifCond .gt 5, 3) := by decide +kernel
theorem dX4_shareOfSure_7 : decode cX4_shareOfSure 7 = .ok (.dconst 1, 1) := by decide +kernel
theorem dX4_shareOfSure_8 : decode cX4_shareOfSure 8 = .ok (.dreturn, 1) := by decide +kernel
theorem dX4_shareOfSure_9 : decode cX4_shareOfSure 9 = .ok (.iconst 0, 1) := by decide +kernel
theorem dX4_shareOfSure_10 : decode cX4_shareOfSure 10 = .ok (.istore_n 1, 1) := by decide +kernel
theorem dX4_shareOfSure_11 : decode cX4_shareOfSure 11 = .ok (.iconst 0, 1) := by decide +kernel
theorem dX4_shareOfSure_12 : decode cX4_shareOfSure 12 = .ok (.istore_n 2, 1) := by decide +kernel
theorem dX4_shareOfSure_13 : decode cX4_shareOfSure 13 = .ok (.iload_n 2, 1) := by decide +kernel
theorem dX4_shareOfSure_14 : decode cX4_shareOfSure 14 = .ok (.aload_n 0, 1) := by decide +kernel
theorem dX4_shareOfSure_15 : decode cX4_shareOfSure 15 = .ok (.getfield 92, 3) := by decide +kernel
theorem dX4_shareOfSure_18 : decode cX4_shareOfSure 18 = .ok (.if_icmp .ge 42, 3) := by decide +kernel
theorem dX4_shareOfSure_21 : decode cX4_shareOfSure 21 = .ok (.aload_n 0, 1) := by decide +kernel
theorem dX4_shareOfSure_22 : decode cX4_shareOfSure 22 = .ok (.iload_n 2, 1) := by decide +kernel
theorem dX4_shareOfSure_23 : decode cX4_shareOfSure 23 = .ok (.iconst 4, 1) := by decide +kernel
theorem dX4_shareOfSure_24 : decode cX4_shareOfSure 24 = .ok (.invokevirtual 217, 3) := by decide +kernel
theorem dX4_shareOfSure_27 : decode cX4_shareOfSure 27 = .ok (.ifCond .ne 27, 3) := by decide +kernel
theorem dX4_shareOfSure_30 : decode cX4_shareOfSure 30 = .ok (.aload_n 0, 1) := by decide +kernel
theorem dX4_shareOfSure_31 : decode cX4_shareOfSure 31 = .ok (.iload_n 2, 1) := by decide +kernel
theorem dX4_shareOfSure_32 : decode cX4_shareOfSure 32 = .ok (.iconst 0, 1) := by decide +kernel
theorem dX4_shareOfSure_33 : decode cX4_shareOfSure 33 = .ok (.invokevirtual 217, 3) := by decide +kernel
theorem dX4_shareOfSure_36 : decode cX4_shareOfSure 36 = .ok (.bipush 7, 2) := by decide +kernel
theorem dX4_shareOfSure_38 : decode cX4_shareOfSure 38 = .ok (.if_icmp .eq 16, 3) := by decide +kernel
theorem dX4_shareOfSure_41 : decode cX4_shareOfSure 41 = .ok (.aload_n 0, 1) := by decide +kernel
theorem dX4_shareOfSure_42 : decode cX4_shareOfSure 42 = .ok (.iload_n 2, 1) := by decide +kernel
theorem dX4_shareOfSure_43 : decode cX4_shareOfSure 43 = .ok (.bipush 8, 2) := by decide +kernel
theorem dX4_shareOfSure_45 : decode cX4_shareOfSure 45 = .ok (.invokevirtual 217, 3) := by decide +kernel
theorem dX4_shareOfSure_48 : decode cX4_shareOfSure 48 = .ok (.ifCond .ne 6, 3) := by decide +kernel
theorem dX4_shareOfSure_51 : decode cX4_shareOfSure 51 = .ok (.iinc 1 1, 3) := by decide +kernel
theorem dX4_shareOfSure_54 : decode cX4_shareOfSure 54 = .ok (.iinc 2 1, 3) := by decide +kernel
theorem dX4_shareOfSure_57 : decode cX4_shareOfSure 57 = .ok (.goto (-44), 3) := by decide +kernel
theorem dX4_shareOfSure_60 : decode cX4_shareOfSure 60 = .ok (.iload_n 1, 1) := by decide +kernel
theorem dX4_shareOfSure_61 : decode cX4_shareOfSure 61 = .ok (.i2d, 1) := by decide +kernel
theorem dX4_shareOfSure_62 : decode cX4_shareOfSure 62 = .ok (.aload_n 0, 1) := by decide +kernel
theorem dX4_shareOfSure_63 : decode cX4_shareOfSure 63 = .ok (.getfield 92, 3) := by decide +kernel
theorem dX4_shareOfSure_66 : decode cX4_shareOfSure 66 = .ok (.i2d, 1) := by decide +kernel
theorem dX4_shareOfSure_67 : decode cX4_shareOfSure 67 = .ok (.ddiv, 1) := by decide +kernel
theorem dX4_shareOfSure_68 : decode cX4_shareOfSure 68 = .ok (.dreturn, 1) := by decide +kernel
theorem dX4_joinKinds_0 : decode cX4_joinKinds 0 = .ok (.iload_n 0, 1) := by decide +kernel
theorem dX4_joinKinds_1 : decode cX4_joinKinds 1 = .ok (.iload_n 1, 1) := by decide +kernel
theorem dX4_joinKinds_2 : decode cX4_joinKinds 2 = .ok (.if_icmp .eq 7, 3) := by decide +kernel
theorem dX4_joinKinds_5 : decode cX4_joinKinds 5 = .ok (.iload_n 1, 1) := by decide +kernel
theorem dX4_joinKinds_6 : decode cX4_joinKinds 6 = .ok (.ifCond .ne 5, 3) := by decide +kernel
theorem dX4_joinKinds_9 : decode cX4_joinKinds 9 = .ok (.iload_n 0, 1) := by decide +kernel
theorem dX4_joinKinds_10 : decode cX4_joinKinds 10 = .ok (.ireturn, 1) := by decide +kernel
theorem dX4_joinKinds_11 : decode cX4_joinKinds 11 = .ok (.iload_n 0, 1) := by decide +kernel
theorem dX4_joinKinds_12 : decode cX4_joinKinds 12 = .ok (.ifCond .ne 5, 3) := by decide +kernel
theorem dX4_joinKinds_15 : decode cX4_joinKinds 15 = .ok (.iload_n 1, 1) := by decide +kernel
theorem dX4_joinKinds_16 : decode cX4_joinKinds 16 = .ok (.ireturn, 1) := by decide +kernel
theorem dX4_joinKinds_17 : decode cX4_joinKinds 17 = .ok (.iload_n 0, 1) := by decide +kernel
theorem dX4_joinKinds_18 : decode cX4_joinKinds 18 = .ok (.iconst 4, 1) := by decide +kernel
theorem dX4_joinKinds_19 : decode cX4_joinKinds 19 = .ok (.if_icmp .gt 8, 3) := by decide +kernel
theorem dX4_joinKinds_22 : decode cX4_joinKinds 22 = .ok (.iload_n 1, 1) := by decide +kernel
theorem dX4_joinKinds_23 : decode cX4_joinKinds 23 = .ok (.iconst 4, 1) := by decide +kernel
theorem dX4_joinKinds_24 : decode cX4_joinKinds 24 = .ok (.if_icmp .le 6, 3) := by decide +kernel
theorem dX4_joinKinds_27 : decode cX4_joinKinds 27 = .ok (.bipush 7, 2) := by decide +kernel
theorem dX4_joinKinds_29 : decode cX4_joinKinds 29 = .ok (.ireturn, 1) := by decide +kernel
theorem dX4_joinKinds_30 : decode cX4_joinKinds 30 = .ok (.iload_n 0, 1) := by decide +kernel
theorem dX4_joinKinds_31 : decode cX4_joinKinds 31 = .ok (.iconst 1, 1) := by decide +kernel
theorem dX4_joinKinds_32 : decode cX4_joinKinds 32 = .ok (.if_icmp .eq 18, 3) := by decide +kernel
theorem dX4_joinKinds_35 : decode cX4_joinKinds 35 = .ok (.iload_n 1, 1) := by decide +kernel
theorem dX4_joinKinds_36 : decode cX4_joinKinds 36 = .ok (.iconst 1, 1) := by decide +kernel
theorem dX4_joinKinds_37 : decode cX4_joinKinds 37 = .ok (.if_icmp .eq 13, 3) := by decide +kernel
theorem dX4_joinKinds_40 : decode cX4_joinKinds 40 = .ok (.iload_n 0, 1) := by decide +kernel
theorem dX4_joinKinds_41 : decode cX4_joinKinds 41 = .ok (.iconst 4, 1) := by decide +kernel
theorem dX4_joinKinds_42 : decode cX4_joinKinds 42 = .ok (.if_icmp .eq 8, 3) := by decide +kernel
theorem dX4_joinKinds_45 : decode cX4_joinKinds 45 = .ok (.iload_n 1, 1) := by decide +kernel
theorem dX4_joinKinds_46 : decode cX4_joinKinds 46 = .ok (.iconst 4, 1) := by decide +kernel
theorem dX4_joinKinds_47 : decode cX4_joinKinds 47 = .ok (.if_icmp .ne 7, 3) := by decide +kernel
theorem dX4_joinKinds_50 : decode cX4_joinKinds 50 = .ok (.iconst 4, 1) := by decide +kernel
theorem dX4_joinKinds_51 : decode cX4_joinKinds 51 = .ok (.goto 4, 3) := by decide +kernel
theorem dX4_joinKinds_54 : decode cX4_joinKinds 54 = .ok (.iconst 3, 1) := by decide +kernel
theorem dX4_joinKinds_55 : decode cX4_joinKinds 55 = .ok (.ireturn, 1) := by decide +kernel
theorem dX4_workOutLearned_0 : decode cX4_workOutLearned 0 = .ok (.aload_n 0, 1) := by decide +kernel
theorem dX4_workOutLearned_1 : decode cX4_workOutLearned 1 = .ok (.getfield 16, 3) := by decide +kernel
theorem dX4_workOutLearned_4 : decode cX4_workOutLearned 4 = .ok (.getfield 234, 3) := by decide +kernel
theorem dX4_workOutLearned_7 : decode cX4_workOutLearned 7 = .ok (.astore_n 2, 1) := by decide +kernel
theorem dX4_workOutLearned_8 : decode cX4_workOutLearned 8 = .ok (.aload_n 0, 1) := by decide +kernel
theorem dX4_workOutLearned_9 : decode cX4_workOutLearned 9 = .ok (.getfield 34, 3) := by decide +kernel
theorem dX4_workOutLearned_12 : decode cX4_workOutLearned 12 = .ok (.aload_n 1, 1) := by decide +kernel
theorem dX4_workOutLearned_13 : decode cX4_workOutLearned 13 = .ok (.invokevirtual 107, 3) := by decide +kernel
theorem dX4_workOutLearned_16 : decode cX4_workOutLearned 16 = .ok (.aload_n 0, 1) := by decide +kernel
theorem dX4_workOutLearned_17 : decode cX4_workOutLearned 17 = .ok (.getfield 34, 3) := by decide +kernel
theorem dX4_workOutLearned_20 : decode cX4_workOutLearned 20 = .ok (.aload_n 1, 1) := by decide +kernel
theorem dX4_workOutLearned_21 : decode cX4_workOutLearned 21 = .ok (.getfield 226, 3) := by decide +kernel
theorem dX4_workOutLearned_24 : decode cX4_workOutLearned 24 = .ok (.iconst 1, 1) := by decide +kernel
theorem dX4_workOutLearned_25 : decode cX4_workOutLearned 25 = .ok (.iadd, 1) := by decide +kernel
theorem dX4_workOutLearned_26 : decode cX4_workOutLearned 26 = .ok (.putfield 226, 3) := by decide +kernel
theorem dX4_workOutLearned_29 : decode cX4_workOutLearned 29 = .ok (.iconst 0, 1) := by decide +kernel
theorem dX4_workOutLearned_30 : decode cX4_workOutLearned 30 = .ok (.istore_n 3, 1) := by decide +kernel
theorem dX4_workOutLearned_31 : decode cX4_workOutLearned 31 = .ok (.iload_n 3, 1) := by decide +kernel
theorem dX4_workOutLearned_32 : decode cX4_workOutLearned 32 = .ok (.aload_n 0, 1) := by decide +kernel
theorem dX4_workOutLearned_33 : decode cX4_workOutLearned 33 = .ok (.getfield 34, 3) := by decide +kernel
theorem dX4_workOutLearned_36 : decode cX4_workOutLearned 36 = .ok (.getfield 92, 3) := by decide +kernel
theorem dX4_workOutLearned_39 : decode cX4_workOutLearned 39 = .ok (.if_icmp .ge 20, 3) := by decide +kernel
theorem dX4_workOutLearned_42 : decode cX4_workOutLearned 42 = .ok (.aload_n 0, 1) := by decide +kernel
theorem dX4_workOutLearned_43 : decode cX4_workOutLearned 43 = .ok (.getfield 34, 3) := by decide +kernel
theorem dX4_workOutLearned_46 : decode cX4_workOutLearned 46 = .ok (.iload_n 3, 1) := by decide +kernel
theorem dX4_workOutLearned_47 : decode cX4_workOutLearned 47 = .ok (.bipush 7, 2) := by decide +kernel
theorem dX4_workOutLearned_49 : decode cX4_workOutLearned 49 = .ok (.iload_n 3, 1) := by decide +kernel
theorem dX4_workOutLearned_50 : decode cX4_workOutLearned 50 = .ok (.invokevirtual 245, 3) := by decide +kernel
theorem dX4_workOutLearned_53 : decode cX4_workOutLearned 53 = .ok (.iinc 3 1, 3) := by decide +kernel
theorem dX4_workOutLearned_56 : decode cX4_workOutLearned 56 = .ok (.goto (-25), 3) := by decide +kernel
theorem dX4_workOutLearned_59 : decode cX4_workOutLearned 59 = .ok (.aload_n 2, 1) := by decide +kernel
theorem dX4_workOutLearned_60 : decode cX4_workOutLearned 60 = .ok (.getfield 92, 3) := by decide +kernel
theorem dX4_workOutLearned_63 : decode cX4_workOutLearned 63 = .ok (.istore_n 3, 1) := by decide +kernel
theorem dX4_workOutLearned_64 : decode cX4_workOutLearned 64 = .ok (.iconst 0, 1) := by decide +kernel
theorem dX4_workOutLearned_65 : decode cX4_workOutLearned 65 = .ok (.istore 4, 2) := by decide +kernel
theorem dX4_workOutLearned_67 : decode cX4_workOutLearned 67 = .ok (.iload 4, 2) := by decide +kernel
theorem dX4_workOutLearned_69 : decode cX4_workOutLearned 69 = .ok (.iload_n 3, 1) := by decide +kernel
theorem dX4_workOutLearned_70 : decode cX4_workOutLearned 70 = .ok (.if_icmp .ge 16, 3) := by decide +kernel
theorem dX4_workOutLearned_73 : decode cX4_workOutLearned 73 = .ok (.aload_n 0, 1) := by decide +kernel
theorem dX4_workOutLearned_74 : decode cX4_workOutLearned 74 = .ok (.aload_n 2, 1) := by decide +kernel
theorem dX4_workOutLearned_75 : decode cX4_workOutLearned 75 = .ok (.iload 4, 2) := by decide +kernel
theorem dX4_workOutLearned_77 : decode cX4_workOutLearned 77 = .ok (.invokevirtual 249, 3) := by decide +kernel
theorem dX4_workOutLearned_80 : decode cX4_workOutLearned 80 = .ok (.iinc 4 1, 3) := by decide +kernel
theorem dX4_workOutLearned_83 : decode cX4_workOutLearned 83 = .ok (.goto (-16), 3) := by decide +kernel
theorem dX4_workOutLearned_86 : decode cX4_workOutLearned 86 = .ok (.return_, 1) := by decide +kernel
theorem dX4_showValue_0 : decode cX4_showValue 0 = .ok (.aload_n 1, 1) := by decide +kernel
theorem dX4_showValue_1 : decode cX4_showValue 1 = .ok (.iload_n 2, 1) := by decide +kernel
theorem dX4_showValue_2 : decode cX4_showValue 2 = .ok (.iconst 5, 1) := by decide +kernel
theorem dX4_showValue_3 : decode cX4_showValue 3 = .ok (.invokevirtual 217, 3) := by decide +kernel
theorem dX4_showValue_6 : decode cX4_showValue 6 = .ok (.istore_n 3, 1) := by decide +kernel
theorem dX4_showValue_7 : decode cX4_showValue 7 = .ok (.iload_n 3, 1) := by decide +kernel
theorem dX4_showValue_8 : decode cX4_showValue 8 = .ok (.iconst (-1), 1) := by decide +kernel
theorem dX4_showValue_9 : decode cX4_showValue 9 = .ok (.if_icmp .ne 7, 3) := by decide +kernel
theorem dX4_showValue_12 : decode cX4_showValue 12 = .ok (.iconst (-1), 1) := by decide +kernel
theorem dX4_showValue_13 : decode cX4_showValue 13 = .ok (.goto 10, 3) := by decide +kernel
theorem dX4_showValue_16 : decode cX4_showValue 16 = .ok (.aload_n 1, 1) := by decide +kernel
theorem dX4_showValue_17 : decode cX4_showValue 17 = .ok (.iload_n 3, 1) := by decide +kernel
theorem dX4_showValue_18 : decode cX4_showValue 18 = .ok (.bipush 7, 2) := by decide +kernel
theorem dX4_showValue_20 : decode cX4_showValue 20 = .ok (.invokevirtual 217, 3) := by decide +kernel
theorem dX4_showValue_23 : decode cX4_showValue 23 = .ok (.istore 4, 2) := by decide +kernel
theorem dX4_showValue_25 : decode cX4_showValue 25 = .ok (.aload_n 1, 1) := by decide +kernel
theorem dX4_showValue_26 : decode cX4_showValue 26 = .ok (.iload_n 2, 1) := by decide +kernel
theorem dX4_showValue_27 : decode cX4_showValue 27 = .ok (.bipush 7, 2) := by decide +kernel
theorem dX4_showValue_29 : decode cX4_showValue 29 = .ok (.iconst (-1), 1) := by decide +kernel
theorem dX4_showValue_30 : decode cX4_showValue 30 = .ok (.invokevirtual 245, 3) := by decide +kernel
theorem dX4_showValue_33 : decode cX4_showValue 33 = .ok (.iload_n 3, 1) := by decide +kernel
theorem dX4_showValue_34 : decode cX4_showValue 34 = .ok (.iconst (-1), 1) := by decide +kernel
theorem dX4_showValue_35 : decode cX4_showValue 35 = .ok (.if_icmp .eq 10, 3) := by decide +kernel
theorem dX4_showValue_38 : decode cX4_showValue 38 = .ok (.iload 4, 2) := by decide +kernel
theorem dX4_showValue_40 : decode cX4_showValue 40 = .ok (.iconst (-1), 1) := by decide +kernel
theorem dX4_showValue_41 : decode cX4_showValue 41 = .ok (.if_icmp .ne 4, 3) := by decide +kernel
theorem dX4_showValue_44 : decode cX4_showValue 44 = .ok (.return_, 1) := by decide +kernel
theorem dX4_showValue_45 : decode cX4_showValue 45 = .ok (.aload_n 1, 1) := by decide +kernel
theorem dX4_showValue_46 : decode cX4_showValue 46 = .ok (.iload_n 2, 1) := by decide +kernel
theorem dX4_showValue_47 : decode cX4_showValue 47 = .ok (.iconst 1, 1) := by decide +kernel
theorem dX4_showValue_48 : decode cX4_showValue 48 = .ok (.invokevirtual 217, 3) := by decide +kernel
theorem dX4_showValue_51 : decode cX4_showValue 51 = .ok (.istore 5, 2) := by decide +kernel
theorem dX4_showValue_53 : decode cX4_showValue 53 = .ok (.iload_n 3, 1) := by decide +kernel
theorem dX4_showValue_54 : decode cX4_showValue 54 = .ok (.iconst (-1), 1) := by decide +kernel
theorem dX4_showValue_55 : decode cX4_showValue 55 = .ok (.if_icmp .eq 17, 3) := by decide +kernel
theorem dX4_showValue_58 : decode cX4_showValue 58 = .ok (.aload_n 0, 1) := by decide +kernel
theorem dX4_showValue_59 : decode cX4_showValue 59 = .ok (.getfield 34, 3) := by decide +kernel
theorem dX4_showValue_62 : decode cX4_showValue 62 = .ok (.iload 4, 2) := by decide +kernel
theorem dX4_showValue_64 : decode cX4_showValue 64 = .ok (.iload 5, 2) := by decide +kernel
theorem dX4_showValue_66 : decode cX4_showValue 66 = .ok (.invokevirtual 150, 3) := by decide +kernel
theorem dX4_showValue_69 : decode cX4_showValue 69 = .ok (.goto 18, 3) := by decide +kernel
theorem dX4_showValue_72 : decode cX4_showValue 72 = .ok (.aload_n 0, 1) := by decide +kernel
theorem dX4_showValue_73 : decode cX4_showValue 73 = .ok (.getfield 34, 3) := by decide +kernel
theorem dX4_showValue_76 : decode cX4_showValue 76 = .ok (.getfield 92, 3) := by decide +kernel
theorem dX4_showValue_79 : decode cX4_showValue 79 = .ok (.ifCond .le 7, 3) := by decide +kernel
theorem dX4_showValue_82 : decode cX4_showValue 82 = .ok (.iconst 0, 1) := by decide +kernel
theorem dX4_showValue_83 : decode cX4_showValue 83 = .ok (.goto 4, 3) := by decide +kernel
theorem dX4_showValue_86 : decode cX4_showValue 86 = .ok (.iconst (-1), 1) := by decide +kernel
theorem dX4_showValue_87 : decode cX4_showValue 87 = .ok (.istore 6, 2) := by decide +kernel
theorem dX4_showValue_89 : decode cX4_showValue 89 = .ok (.iload 6, 2) := by decide +kernel
theorem dX4_showValue_91 : decode cX4_showValue 91 = .ok (.iconst (-1), 1) := by decide +kernel
theorem dX4_showValue_92 : decode cX4_showValue 92 = .ok (.if_icmp .ne 7, 3) := by decide +kernel
theorem dX4_showValue_95 : decode cX4_showValue 95 = .ok (.iconst 1, 1) := by decide +kernel
theorem dX4_showValue_96 : decode cX4_showValue 96 = .ok (.goto 4, 3) := by decide +kernel
theorem dX4_showValue_99 : decode cX4_showValue 99 = .ok (.iconst 0, 1) := by decide +kernel
theorem dX4_showValue_100 : decode cX4_showValue 100 = .ok (.istore 7, 2) := by decide +kernel
theorem dX4_showValue_102 : decode cX4_showValue 102 = .ok (.iload 7, 2) := by decide +kernel
theorem dX4_showValue_104 : decode cX4_showValue 104 = .ok (.ifCond .eq 16, 3) := by decide +kernel
theorem dX4_showValue_107 : decode cX4_showValue 107 = .ok (.aload_n 0, 1) := by decide +kernel
theorem dX4_showValue_108 : decode cX4_showValue 108 = .ok (.getfield 34, 3) := by decide +kernel
theorem dX4_showValue_111 : decode cX4_showValue 111 = .ok (.iload 4, 2) := by decide +kernel
theorem dX4_showValue_113 : decode cX4_showValue 113 = .ok (.iload 5, 2) := by decide +kernel
theorem dX4_showValue_115 : decode cX4_showValue 115 = .ok (.invokevirtual 253, 3) := by decide +kernel
theorem dX4_showValue_118 : decode cX4_showValue 118 = .ok (.istore 6, 2) := by decide +kernel
theorem dX4_showValue_120 : decode cX4_showValue 120 = .ok (.aload_n 1, 1) := by decide +kernel
theorem dX4_showValue_121 : decode cX4_showValue 121 = .ok (.iload_n 2, 1) := by decide +kernel
theorem dX4_showValue_122 : decode cX4_showValue 122 = .ok (.iconst 0, 1) := by decide +kernel
theorem dX4_showValue_123 : decode cX4_showValue 123 = .ok (.invokevirtual 217, 3) := by decide +kernel
theorem dX4_showValue_126 : decode cX4_showValue 126 = .ok (.istore 8, 2) := by decide +kernel
theorem dX4_showValue_128 : decode cX4_showValue 128 = .ok (.iload 7, 2) := by decide +kernel
theorem dX4_showValue_130 : decode cX4_showValue 130 = .ok (.ifCond .eq 8, 3) := by decide +kernel
theorem dX4_showValue_133 : decode cX4_showValue 133 = .ok (.iload 8, 2) := by decide +kernel
theorem dX4_showValue_135 : decode cX4_showValue 135 = .ok (.goto 18, 3) := by decide +kernel
theorem dX4_showValue_138 : decode cX4_showValue 138 = .ok (.aload_n 0, 1) := by decide +kernel
theorem dX4_showValue_139 : decode cX4_showValue 139 = .ok (.getfield 34, 3) := by decide +kernel
theorem dX4_showValue_142 : decode cX4_showValue 142 = .ok (.iload 6, 2) := by decide +kernel
theorem dX4_showValue_144 : decode cX4_showValue 144 = .ok (.iconst 0, 1) := by decide +kernel
theorem dX4_showValue_145 : decode cX4_showValue 145 = .ok (.invokevirtual 217, 3) := by decide +kernel
theorem dX4_showValue_148 : decode cX4_showValue 148 = .ok (.iload 8, 2) := by decide +kernel
theorem dX4_showValue_150 : decode cX4_showValue 150 = .ok (.invokestatic 256, 3) := by decide +kernel
theorem dX4_showValue_153 : decode cX4_showValue 153 = .ok (.istore 9, 2) := by decide +kernel
theorem dX4_showValue_155 : decode cX4_showValue 155 = .ok (.aload_n 0, 1) := by decide +kernel
theorem dX4_showValue_156 : decode cX4_showValue 156 = .ok (.getfield 34, 3) := by decide +kernel
theorem dX4_showValue_159 : decode cX4_showValue 159 = .ok (.iload 6, 2) := by decide +kernel
theorem dX4_showValue_161 : decode cX4_showValue 161 = .ok (.iconst 3, 1) := by decide +kernel
theorem dX4_showValue_162 : decode cX4_showValue 162 = .ok (.aload_n 0, 1) := by decide +kernel
theorem dX4_showValue_163 : decode cX4_showValue 163 = .ok (.getfield 34, 3) := by decide +kernel
theorem dX4_showValue_166 : decode cX4_showValue 166 = .ok (.iload 6, 2) := by decide +kernel
theorem dX4_showValue_168 : decode cX4_showValue 168 = .ok (.iconst 3, 1) := by decide +kernel
theorem dX4_showValue_169 : decode cX4_showValue 169 = .ok (.invokevirtual 217, 3) := by decide +kernel
theorem dX4_showValue_172 : decode cX4_showValue 172 = .ok (.iconst 1, 1) := by decide +kernel
theorem dX4_showValue_173 : decode cX4_showValue 173 = .ok (.iadd, 1) := by decide +kernel
theorem dX4_showValue_174 : decode cX4_showValue 174 = .ok (.invokevirtual 245, 3) := by decide +kernel
theorem dX4_showValue_177 : decode cX4_showValue 177 = .ok (.iload 8, 2) := by decide +kernel
theorem dX4_showValue_179 : decode cX4_showValue 179 = .ok (.bipush 6, 2) := by decide +kernel
theorem dX4_showValue_181 : decode cX4_showValue 181 = .ok (.if_icmp .ne 25, 3) := by decide +kernel
theorem dX4_showValue_184 : decode cX4_showValue 184 = .ok (.aload_n 0, 1) := by decide +kernel
theorem dX4_showValue_185 : decode cX4_showValue 185 = .ok (.getfield 34, 3) := by decide +kernel
theorem dX4_showValue_188 : decode cX4_showValue 188 = .ok (.iload 6, 2) := by decide +kernel
theorem dX4_showValue_190 : decode cX4_showValue 190 = .ok (.iconst 5, 1) := by decide +kernel
theorem dX4_showValue_191 : decode cX4_showValue 191 = .ok (.aload_n 0, 1) := by decide +kernel
theorem dX4_showValue_192 : decode cX4_showValue 192 = .ok (.getfield 34, 3) := by decide +kernel
theorem dX4_showValue_195 : decode cX4_showValue 195 = .ok (.iload 6, 2) := by decide +kernel
theorem dX4_showValue_197 : decode cX4_showValue 197 = .ok (.iconst 5, 1) := by decide +kernel
theorem dX4_showValue_198 : decode cX4_showValue 198 = .ok (.invokevirtual 217, 3) := by decide +kernel
theorem dX4_showValue_201 : decode cX4_showValue 201 = .ok (.iconst 1, 1) := by decide +kernel
theorem dX4_showValue_202 : decode cX4_showValue 202 = .ok (.iadd, 1) := by decide +kernel
theorem dX4_showValue_203 : decode cX4_showValue 203 = .ok (.invokevirtual 245, 3) := by decide +kernel
theorem dX4_showValue_206 : decode cX4_showValue 206 = .ok (.iload 8, 2) := by decide +kernel
theorem dX4_showValue_208 : decode cX4_showValue 208 = .ok (.ifCond .ne 14, 3) := by decide +kernel
theorem dX4_showValue_211 : decode cX4_showValue 211 = .ok (.aload_n 0, 1) := by decide +kernel
theorem dX4_showValue_212 : decode cX4_showValue 212 = .ok (.getfield 34, 3) := by decide +kernel
theorem dX4_showValue_215 : decode cX4_showValue 215 = .ok (.iload 6, 2) := by decide +kernel
theorem dX4_showValue_217 : decode cX4_showValue 217 = .ok (.iconst 4, 1) := by decide +kernel
theorem dX4_showValue_218 : decode cX4_showValue 218 = .ok (.iconst 1, 1) := by decide +kernel
theorem dX4_showValue_219 : decode cX4_showValue 219 = .ok (.invokevirtual 245, 3) := by decide +kernel
theorem dX4_showValue_222 : decode cX4_showValue 222 = .ok (.iload 7, 2) := by decide +kernel
theorem dX4_showValue_224 : decode cX4_showValue 224 = .ok (.ifCond .ne 18, 3) := by decide +kernel
theorem dX4_showValue_227 : decode cX4_showValue 227 = .ok (.iload 9, 2) := by decide +kernel
theorem dX4_showValue_229 : decode cX4_showValue 229 = .ok (.aload_n 0, 1) := by decide +kernel
theorem dX4_showValue_230 : decode cX4_showValue 230 = .ok (.getfield 34, 3) := by decide +kernel
theorem dX4_showValue_233 : decode cX4_showValue 233 = .ok (.iload 6, 2) := by decide +kernel
theorem dX4_showValue_235 : decode cX4_showValue 235 = .ok (.iconst 0, 1) := by decide +kernel
theorem dX4_showValue_236 : decode cX4_showValue 236 = .ok (.invokevirtual 217, 3) := by decide +kernel
theorem dX4_showValue_239 : decode cX4_showValue 239 = .ok (.if_icmp .eq 33, 3) := by decide +kernel
theorem dX4_showValue_242 : decode cX4_showValue 242 = .ok (.aload_n 0, 1) := by decide +kernel
theorem dX4_showValue_243 : decode cX4_showValue 243 = .ok (.getfield 34, 3) := by decide +kernel
theorem dX4_showValue_246 : decode cX4_showValue 246 = .ok (.iload 6, 2) := by decide +kernel
theorem dX4_showValue_248 : decode cX4_showValue 248 = .ok (.iconst 0, 1) := by decide +kernel
theorem dX4_showValue_249 : decode cX4_showValue 249 = .ok (.iload 9, 2) := by decide +kernel
theorem dX4_showValue_251 : decode cX4_showValue 251 = .ok (.invokevirtual 245, 3) := by decide +kernel
theorem dX4_showValue_254 : decode cX4_showValue 254 = .ok (.aload_n 0, 1) := by decide +kernel
theorem dX4_showValue_255 : decode cX4_showValue 255 = .ok (.getfield 34, 3) := by decide +kernel
theorem dX4_showValue_258 : decode cX4_showValue 258 = .ok (.iload 6, 2) := by decide +kernel
theorem dX4_showValue_260 : decode cX4_showValue 260 = .ok (.bipush 6, 2) := by decide +kernel
theorem dX4_showValue_262 : decode cX4_showValue 262 = .ok (.aload_n 0, 1) := by decide +kernel
theorem dX4_showValue_263 : decode cX4_showValue 263 = .ok (.getfield 34, 3) := by decide +kernel
theorem dX4_showValue_266 : decode cX4_showValue 266 = .ok (.getfield 226, 3) := by decide +kernel
theorem dX4_showValue_269 : decode cX4_showValue 269 = .ok (.invokevirtual 245, 3) := by decide +kernel
theorem dX4_showValue_272 : decode cX4_showValue 272 = .ok (.iload 9, 2) := by decide +kernel
theorem dX4_showValue_274 : decode cX4_showValue 274 = .ok (.bipush 7, 2) := by decide +kernel
theorem dX4_showValue_276 : decode cX4_showValue 276 = .ok (.if_icmp .ne 15, 3) := by decide +kernel
theorem dX4_showValue_279 : decode cX4_showValue 279 = .ok (.aload_n 0, 1) := by decide +kernel
theorem dX4_showValue_280 : decode cX4_showValue 280 = .ok (.getfield 34, 3) := by decide +kernel
theorem dX4_showValue_283 : decode cX4_showValue 283 = .ok (.iload 6, 2) := by decide +kernel
theorem dX4_showValue_285 : decode cX4_showValue 285 = .ok (.invokevirtual 259, 3) := by decide +kernel
theorem dX4_showValue_288 : decode cX4_showValue 288 = .ok (.goto 12, 3) := by decide +kernel
theorem dX4_showValue_291 : decode cX4_showValue 291 = .ok (.aload_n 1, 1) := by decide +kernel
theorem dX4_showValue_292 : decode cX4_showValue 292 = .ok (.iload_n 2, 1) := by decide +kernel
theorem dX4_showValue_293 : decode cX4_showValue 293 = .ok (.bipush 7, 2) := by decide +kernel
theorem dX4_showValue_295 : decode cX4_showValue 295 = .ok (.iload 6, 2) := by decide +kernel
theorem dX4_showValue_297 : decode cX4_showValue 297 = .ok (.invokevirtual 245, 3) := by decide +kernel
theorem dX4_showValue_300 : decode cX4_showValue 300 = .ok (.return_, 1) := by decide +kernel
theorem dX4_isRefused_0 : decode cX4_isRefused 0 = .ok (.aload_n 0, 1) := by decide +kernel
theorem dX4_isRefused_1 : decode cX4_isRefused 1 = .ok (.getfield 34, 3) := by decide +kernel
theorem dX4_isRefused_4 : decode cX4_isRefused 4 = .ok (.getfield 92, 3) := by decide +kernel
theorem dX4_isRefused_7 : decode cX4_isRefused 7 = .ok (.bipush 30, 2) := by decide +kernel
theorem dX4_isRefused_9 : decode cX4_isRefused 9 = .ok (.if_icmp .gt 22, 3) := by decide +kernel
theorem dX4_isRefused_12 : decode cX4_isRefused 12 = .ok (.aload_n 0, 1) := by decide +kernel
theorem dX4_isRefused_13 : decode cX4_isRefused 13 = .ok (.getfield 23, 3) := by decide +kernel
theorem dX4_isRefused_16 : decode cX4_isRefused 16 = .ok (.getfield 115, 3) := by decide +kernel
theorem dX4_isRefused_19 : decode cX4_isRefused 19 = .ok (.iconst 1, 1) := by decide +kernel
theorem dX4_isRefused_20 : decode cX4_isRefused 20 = .ok (.if_icmp .ne 15, 3) := by decide +kernel
theorem dX4_isRefused_23 : decode cX4_isRefused 23 = .ok (.aload_n 0, 1) := by decide +kernel
theorem dX4_isRefused_24 : decode cX4_isRefused 24 = .ok (.aload_n 1, 1) := by decide +kernel
theorem dX4_isRefused_25 : decode cX4_isRefused 25 = .ok (.invokevirtual 263, 3) := by decide +kernel
theorem dX4_isRefused_28 : decode cX4_isRefused 28 = .ok (.ifCond .eq 7, 3) := by decide +kernel
theorem dX4_isRefused_31 : decode cX4_isRefused 31 = .ok (.iconst 1, 1) := by decide +kernel
theorem dX4_isRefused_32 : decode cX4_isRefused 32 = .ok (.goto 4, 3) := by decide +kernel
theorem dX4_isRefused_35 : decode cX4_isRefused 35 = .ok (.iconst 0, 1) := by decide +kernel
theorem dX4_isRefused_36 : decode cX4_isRefused 36 = .ok (.ireturn, 1) := by decide +kernel
theorem dX4_bringsAny_0 : decode cX4_bringsAny 0 = .ok (.iconst 0, 1) := by decide +kernel
theorem dX4_bringsAny_1 : decode cX4_bringsAny 1 = .ok (.istore_n 2, 1) := by decide +kernel
theorem dX4_bringsAny_2 : decode cX4_bringsAny 2 = .ok (.iload_n 2, 1) := by decide +kernel
theorem dX4_bringsAny_3 : decode cX4_bringsAny 3 = .ok (.aload_n 0, 1) := by decide +kernel
theorem dX4_bringsAny_4 : decode cX4_bringsAny 4 = .ok (.getfield 34, 3) := by decide +kernel
theorem dX4_bringsAny_7 : decode cX4_bringsAny 7 = .ok (.getfield 92, 3) := by decide +kernel
theorem dX4_bringsAny_10 : decode cX4_bringsAny 10 = .ok (.if_icmp .ge 52, 3) := by decide +kernel
theorem dX4_bringsAny_13 : decode cX4_bringsAny 13 = .ok (.aload_n 0, 1) := by decide +kernel
theorem dX4_bringsAny_14 : decode cX4_bringsAny 14 = .ok (.getfield 34, 3) := by decide +kernel
theorem dX4_bringsAny_17 : decode cX4_bringsAny 17 = .ok (.iload_n 2, 1) := by decide +kernel
theorem dX4_bringsAny_18 : decode cX4_bringsAny 18 = .ok (.bipush 7, 2) := by decide +kernel
theorem dX4_bringsAny_20 : decode cX4_bringsAny 20 = .ok (.invokevirtual 217, 3) := by decide +kernel
theorem dX4_bringsAny_23 : decode cX4_bringsAny 23 = .ok (.istore_n 3, 1) := by decide +kernel
theorem dX4_bringsAny_24 : decode cX4_bringsAny 24 = .ok (.aload_n 0, 1) := by decide +kernel
theorem dX4_bringsAny_25 : decode cX4_bringsAny 25 = .ok (.getfield 34, 3) := by decide +kernel
theorem dX4_bringsAny_28 : decode cX4_bringsAny 28 = .ok (.iload_n 2, 1) := by decide +kernel
theorem dX4_bringsAny_29 : decode cX4_bringsAny 29 = .ok (.iconst 0, 1) := by decide +kernel
theorem dX4_bringsAny_30 : decode cX4_bringsAny 30 = .ok (.invokevirtual 217, 3) := by decide +kernel
theorem dX4_bringsAny_33 : decode cX4_bringsAny 33 = .ok (.bipush 7, 2) := by decide +kernel
theorem dX4_bringsAny_35 : decode cX4_bringsAny 35 = .ok (.if_icmp .ne 21, 3) := by decide +kernel
theorem dX4_bringsAny_38 : decode cX4_bringsAny 38 = .ok (.iload_n 3, 1) := by decide +kernel
theorem dX4_bringsAny_39 : decode cX4_bringsAny 39 = .ok (.iconst (-1), 1) := by decide +kernel
theorem dX4_bringsAny_40 : decode cX4_bringsAny 40 = .ok (.if_icmp .eq 14, 3) := by decide +kernel
theorem dX4_bringsAny_43 : decode cX4_bringsAny 43 = .ok (.aload_n 1, 1) := by decide +kernel
theorem dX4_bringsAny_44 : decode cX4_bringsAny 44 = .ok (.iload_n 3, 1) := by decide +kernel
theorem dX4_bringsAny_45 : decode cX4_bringsAny 45 = .ok (.iconst 0, 1) := by decide +kernel
theorem dX4_bringsAny_46 : decode cX4_bringsAny 46 = .ok (.invokevirtual 217, 3) := by decide +kernel
theorem dX4_bringsAny_49 : decode cX4_bringsAny 49 = .ok (.bipush 7, 2) := by decide +kernel
theorem dX4_bringsAny_51 : decode cX4_bringsAny 51 = .ok (.if_icmp .eq 5, 3) := by decide +kernel
theorem dX4_bringsAny_54 : decode cX4_bringsAny 54 = .ok (.iconst 1, 1) := by decide +kernel
theorem dX4_bringsAny_55 : decode cX4_bringsAny 55 = .ok (.ireturn, 1) := by decide +kernel
theorem dX4_bringsAny_56 : decode cX4_bringsAny 56 = .ok (.iinc 2 1, 3) := by decide +kernel
theorem dX4_bringsAny_59 : decode cX4_bringsAny 59 = .ok (.goto (-57), 3) := by decide +kernel
theorem dX4_bringsAny_62 : decode cX4_bringsAny 62 = .ok (.iconst 0, 1) := by decide +kernel
theorem dX4_bringsAny_63 : decode cX4_bringsAny 63 = .ok (.ireturn, 1) := by decide +kernel
theorem dX4_outlookNumber_0 : decode cX4_outlookNumber 0 = .ok (.iload_n 2, 1) := by decide +kernel
theorem dX4_outlookNumber_1 : decode cX4_outlookNumber 1 = .ok (.ifCond .ne 11, 3) := by decide +kernel
theorem dX4_outlookNumber_4 : decode cX4_outlookNumber 4 = .ok (.aload_n 0, 1) := by decide +kernel
theorem dX4_outlookNumber_5 : decode cX4_outlookNumber 5 = .ok (.getfield 34, 3) := by decide +kernel
theorem dX4_outlookNumber_8 : decode cX4_outlookNumber 8 = .ok (.getfield 92, 3) := by decide +kernel
theorem dX4_outlookNumber_11 : decode cX4_outlookNumber 11 = .ok (.ireturn, 1) := by decide +kernel
theorem dX4_outlookNumber_12 : decode cX4_outlookNumber 12 = .ok (.iload_n 2, 1) := by decide +kernel
theorem dX4_outlookNumber_13 : decode cX4_outlookNumber 13 = .ok (.iconst 4, 1) := by decide +kernel
theorem dX4_outlookNumber_14 : decode cX4_outlookNumber 14 = .ok (.if_icmp .ne 17, 3) := by decide +kernel
theorem dX4_outlookNumber_17 : decode cX4_outlookNumber 17 = .ok (.aload_n 0, 1) := by decide +kernel
theorem dX4_outlookNumber_18 : decode cX4_outlookNumber 18 = .ok (.aload_n 1, 1) := by decide +kernel
theorem dX4_outlookNumber_19 : decode cX4_outlookNumber 19 = .ok (.invokevirtual 77, 3) := by decide +kernel
theorem dX4_outlookNumber_22 : decode cX4_outlookNumber 22 = .ok (.ifCond .eq 7, 3) := by decide +kernel
theorem dX4_outlookNumber_25 : decode cX4_outlookNumber 25 = .ok (.iconst 1, 1) := by decide +kernel
theorem dX4_outlookNumber_26 : decode cX4_outlookNumber 26 = .ok (.goto 4, 3) := by decide +kernel
theorem dX4_outlookNumber_29 : decode cX4_outlookNumber 29 = .ok (.iconst 0, 1) := by decide +kernel
theorem dX4_outlookNumber_30 : decode cX4_outlookNumber 30 = .ok (.ireturn, 1) := by decide +kernel
theorem dX4_outlookNumber_31 : decode cX4_outlookNumber 31 = .ok (.iconst 0, 1) := by decide +kernel
theorem dX4_outlookNumber_32 : decode cX4_outlookNumber 32 = .ok (.istore_n 3, 1) := by decide +kernel
theorem dX4_outlookNumber_33 : decode cX4_outlookNumber 33 = .ok (.iconst 0, 1) := by decide +kernel
theorem dX4_outlookNumber_34 : decode cX4_outlookNumber 34 = .ok (.istore 4, 2) := by decide +kernel
theorem dX4_outlookNumber_36 : decode cX4_outlookNumber 36 = .ok (.iconst 0, 1) := by decide +kernel
theorem dX4_outlookNumber_37 : decode cX4_outlookNumber 37 = .ok (.istore 5, 2) := by decide +kernel
theorem dX4_outlookNumber_39 : decode cX4_outlookNumber 39 = .ok (.iconst 0, 1) := by decide +kernel
theorem dX4_outlookNumber_40 : decode cX4_outlookNumber 40 = .ok (.istore 6, 2) := by decide +kernel
theorem dX4_outlookNumber_42 : decode cX4_outlookNumber 42 = .ok (.iload 6, 2) := by decide +kernel
theorem dX4_outlookNumber_44 : decode cX4_outlookNumber 44 = .ok (.aload_n 0, 1) := by decide +kernel
theorem dX4_outlookNumber_45 : decode cX4_outlookNumber 45 = .ok (.getfield 34, 3) := by decide +kernel
theorem dX4_outlookNumber_48 : decode cX4_outlookNumber 48 = .ok (.getfield 92, 3) := by decide +kernel
theorem dX4_outlookNumber_51 : decode cX4_outlookNumber 51 = .ok (.if_icmp .ge 99, 3) := by decide +kernel
theorem dX4_outlookNumber_54 : decode cX4_outlookNumber 54 = .ok (.aload_n 0, 1) := by decide +kernel
theorem dX4_outlookNumber_55 : decode cX4_outlookNumber 55 = .ok (.getfield 34, 3) := by decide +kernel
theorem dX4_outlookNumber_58 : decode cX4_outlookNumber 58 = .ok (.iload 6, 2) := by decide +kernel
theorem dX4_outlookNumber_60 : decode cX4_outlookNumber 60 = .ok (.bipush 7, 2) := by decide +kernel
theorem dX4_outlookNumber_62 : decode cX4_outlookNumber 62 = .ok (.invokevirtual 217, 3) := by decide +kernel
theorem dX4_outlookNumber_65 : decode cX4_outlookNumber 65 = .ok (.istore 7, 2) := by decide +kernel
theorem dX4_outlookNumber_67 : decode cX4_outlookNumber 67 = .ok (.aload_n 0, 1) := by decide +kernel
theorem dX4_outlookNumber_68 : decode cX4_outlookNumber 68 = .ok (.getfield 34, 3) := by decide +kernel
theorem dX4_outlookNumber_71 : decode cX4_outlookNumber 71 = .ok (.iload 6, 2) := by decide +kernel
theorem dX4_outlookNumber_73 : decode cX4_outlookNumber 73 = .ok (.iconst 0, 1) := by decide +kernel
theorem dX4_outlookNumber_74 : decode cX4_outlookNumber 74 = .ok (.invokevirtual 217, 3) := by decide +kernel
theorem dX4_outlookNumber_77 : decode cX4_outlookNumber 77 = .ok (.istore 8, 2) := by decide +kernel
theorem dX4_outlookNumber_79 : decode cX4_outlookNumber 79 = .ok (.iload 7, 2) := by decide +kernel
theorem dX4_outlookNumber_81 : decode cX4_outlookNumber 81 = .ok (.iconst (-1), 1) := by decide +kernel
theorem dX4_outlookNumber_82 : decode cX4_outlookNumber 82 = .ok (.if_icmp .eq 62, 3) := by decide +kernel
theorem dX4_outlookNumber_85 : decode cX4_outlookNumber 85 = .ok (.iinc 3 1, 3) := by decide +kernel
theorem dX4_outlookNumber_88 : decode cX4_outlookNumber 88 = .ok (.iload 8, 2) := by decide +kernel
theorem dX4_outlookNumber_90 : decode cX4_outlookNumber 90 = .ok (.aload_n 1, 1) := by decide +kernel
theorem dX4_outlookNumber_91 : decode cX4_outlookNumber 91 = .ok (.iload 7, 2) := by decide +kernel
theorem dX4_outlookNumber_93 : decode cX4_outlookNumber 93 = .ok (.iconst 0, 1) := by decide +kernel
theorem dX4_outlookNumber_94 : decode cX4_outlookNumber 94 = .ok (.invokevirtual 217, 3) := by decide +kernel
theorem dX4_outlookNumber_97 : decode cX4_outlookNumber 97 = .ok (.if_icmp .eq 7, 3) := by decide +kernel
theorem dX4_outlookNumber_100 : decode cX4_outlookNumber 100 = .ok (.iconst 1, 1) := by decide +kernel
theorem dX4_outlookNumber_101 : decode cX4_outlookNumber 101 = .ok (.goto 4, 3) := by decide +kernel
theorem dX4_outlookNumber_104 : decode cX4_outlookNumber 104 = .ok (.iconst 0, 1) := by decide +kernel
theorem dX4_outlookNumber_105 : decode cX4_outlookNumber 105 = .ok (.istore 9, 2) := by decide +kernel
theorem dX4_outlookNumber_107 : decode cX4_outlookNumber 107 = .ok (.iload 4, 2) := by decide +kernel
theorem dX4_outlookNumber_109 : decode cX4_outlookNumber 109 = .ok (.iload 9, 2) := by decide +kernel
theorem dX4_outlookNumber_111 : decode cX4_outlookNumber 111 = .ok (.ifCond .eq 7, 3) := by decide +kernel
theorem dX4_outlookNumber_114 : decode cX4_outlookNumber 114 = .ok (.iconst 1, 1) := by decide +kernel
theorem dX4_outlookNumber_115 : decode cX4_outlookNumber 115 = .ok (.goto 4, 3) := by decide +kernel
theorem dX4_outlookNumber_118 : decode cX4_outlookNumber 118 = .ok (.iconst 0, 1) := by decide +kernel
theorem dX4_outlookNumber_119 : decode cX4_outlookNumber 119 = .ok (.iadd, 1) := by decide +kernel
theorem dX4_outlookNumber_120 : decode cX4_outlookNumber 120 = .ok (.istore 4, 2) := by decide +kernel
theorem dX4_outlookNumber_122 : decode cX4_outlookNumber 122 = .ok (.iload 5, 2) := by decide +kernel
theorem dX4_outlookNumber_124 : decode cX4_outlookNumber 124 = .ok (.iload 9, 2) := by decide +kernel
theorem dX4_outlookNumber_126 : decode cX4_outlookNumber 126 = .ok (.ifCond .eq 14, 3) := by decide +kernel
theorem dX4_outlookNumber_129 : decode cX4_outlookNumber 129 = .ok (.iload 8, 2) := by decide +kernel
theorem dX4_outlookNumber_131 : decode cX4_outlookNumber 131 = .ok (.bipush 7, 2) := by decide +kernel
theorem dX4_outlookNumber_133 : decode cX4_outlookNumber 133 = .ok (.if_icmp .ne 7, 3) := by decide +kernel
theorem dX4_outlookNumber_136 : decode cX4_outlookNumber 136 = .ok (.iconst 1, 1) := by decide +kernel
theorem dX4_outlookNumber_137 : decode cX4_outlookNumber 137 = .ok (.goto 4, 3) := by decide +kernel
theorem dX4_outlookNumber_140 : decode cX4_outlookNumber 140 = .ok (.iconst 0, 1) := by decide +kernel
theorem dX4_outlookNumber_141 : decode cX4_outlookNumber 141 = .ok (.iadd, 1) := by decide +kernel
theorem dX4_outlookNumber_142 : decode cX4_outlookNumber 142 = .ok (.istore 5, 2) := by decide +kernel
theorem dX4_outlookNumber_144 : decode cX4_outlookNumber 144 = .ok (.iinc 6 1, 3) := by decide +kernel
theorem dX4_outlookNumber_147 : decode cX4_outlookNumber 147 = .ok (.goto (-105), 3) := by decide +kernel
theorem dX4_outlookNumber_150 : decode cX4_outlookNumber 150 = .ok (.iload_n 2, 1) := by decide +kernel
theorem dX4_outlookNumber_151 : decode cX4_outlookNumber 151 = .ok (.iconst 1, 1) := by decide +kernel
theorem dX4_outlookNumber_152 : decode cX4_outlookNumber 152 = .ok (.if_icmp .ne 8, 3) := by decide +kernel
theorem dX4_outlookNumber_155 : decode cX4_outlookNumber 155 = .ok (.iload 4, 2) := by decide +kernel
theorem dX4_outlookNumber_157 : decode cX4_outlookNumber 157 = .ok (.goto 19, 3) := by decide +kernel
theorem dX4_outlookNumber_160 : decode cX4_outlookNumber 160 = .ok (.iload_n 2, 1) := by decide +kernel
theorem dX4_outlookNumber_161 : decode cX4_outlookNumber 161 = .ok (.iconst 2, 1) := by decide +kernel
theorem dX4_outlookNumber_162 : decode cX4_outlookNumber 162 = .ok (.if_icmp .ne 8, 3) := by decide +kernel
theorem dX4_outlookNumber_165 : decode cX4_outlookNumber 165 = .ok (.iload 5, 2) := by decide +kernel
theorem dX4_outlookNumber_167 : decode cX4_outlookNumber 167 = .ok (.goto 9, 3) := by decide +kernel
theorem dX4_outlookNumber_170 : decode cX4_outlookNumber 170 = .ok (.aload_n 1, 1) := by decide +kernel
theorem dX4_outlookNumber_171 : decode cX4_outlookNumber 171 = .ok (.getfield 92, 3) := by decide +kernel
theorem dX4_outlookNumber_174 : decode cX4_outlookNumber 174 = .ok (.iload_n 3, 1) := by decide +kernel
theorem dX4_outlookNumber_175 : decode cX4_outlookNumber 175 = .ok (.isub, 1) := by decide +kernel
theorem dX4_outlookNumber_176 : decode cX4_outlookNumber 176 = .ok (.ireturn, 1) := by decide +kernel
theorem dX4_workOutJoined_0 : decode cX4_workOutJoined 0 = .ok (.aload_n 0, 1) := by decide +kernel
theorem dX4_workOutJoined_1 : decode cX4_workOutJoined 1 = .ok (.getfield 34, 3) := by decide +kernel
theorem dX4_workOutJoined_4 : decode cX4_workOutJoined 4 = .ok (.invokevirtual 101, 3) := by decide +kernel
theorem dX4_workOutJoined_7 : decode cX4_workOutJoined 7 = .ok (.aload_n 0, 1) := by decide +kernel
theorem dX4_workOutJoined_8 : decode cX4_workOutJoined 8 = .ok (.getfield 34, 3) := by decide +kernel
theorem dX4_workOutJoined_11 : decode cX4_workOutJoined 11 = .ok (.aload_n 1, 1) := by decide +kernel
theorem dX4_workOutJoined_12 : decode cX4_workOutJoined 12 = .ok (.getfield 226, 3) := by decide +kernel
theorem dX4_workOutJoined_15 : decode cX4_workOutJoined 15 = .ok (.aload_n 2, 1) := by decide +kernel
theorem dX4_workOutJoined_16 : decode cX4_workOutJoined 16 = .ok (.getfield 226, 3) := by decide +kernel
theorem dX4_workOutJoined_19 : decode cX4_workOutJoined 19 = .ok (.iadd, 1) := by decide +kernel
theorem dX4_workOutJoined_20 : decode cX4_workOutJoined 20 = .ok (.putfield 226, 3) := by decide +kernel
theorem dX4_workOutJoined_23 : decode cX4_workOutJoined 23 = .ok (.aload_n 1, 1) := by decide +kernel
theorem dX4_workOutJoined_24 : decode cX4_workOutJoined 24 = .ok (.getfield 92, 3) := by decide +kernel
theorem dX4_workOutJoined_27 : decode cX4_workOutJoined 27 = .ok (.ifCond .gt 10, 3) := by decide +kernel
theorem dX4_workOutJoined_30 : decode cX4_workOutJoined 30 = .ok (.aload_n 2, 1) := by decide +kernel
theorem dX4_workOutJoined_31 : decode cX4_workOutJoined 31 = .ok (.getfield 92, 3) := by decide +kernel
theorem dX4_workOutJoined_34 : decode cX4_workOutJoined 34 = .ok (.ifCond .le 37, 3) := by decide +kernel
theorem dX4_workOutJoined_37 : decode cX4_workOutJoined 37 = .ok (.aload_n 0, 1) := by decide +kernel
theorem dX4_workOutJoined_38 : decode cX4_workOutJoined 38 = .ok (.getfield 34, 3) := by decide +kernel
theorem dX4_workOutJoined_41 : decode cX4_workOutJoined 41 = .ok (.aload_n 1, 1) := by decide +kernel
theorem dX4_workOutJoined_42 : decode cX4_workOutJoined 42 = .ok (.aload_n 1, 1) := by decide +kernel
theorem dX4_workOutJoined_43 : decode cX4_workOutJoined 43 = .ok (.getfield 92, 3) := by decide +kernel
theorem dX4_workOutJoined_46 : decode cX4_workOutJoined 46 = .ok (.ifCond .le 7, 3) := by decide +kernel
theorem dX4_workOutJoined_49 : decode cX4_workOutJoined 49 = .ok (.iconst 0, 1) := by decide +kernel
theorem dX4_workOutJoined_50 : decode cX4_workOutJoined 50 = .ok (.goto 4, 3) := by decide +kernel
theorem dX4_workOutJoined_53 : decode cX4_workOutJoined 53 = .ok (.iconst (-1), 1) := by decide +kernel
theorem dX4_workOutJoined_54 : decode cX4_workOutJoined 54 = .ok (.aload_n 2, 1) := by decide +kernel
theorem dX4_workOutJoined_55 : decode cX4_workOutJoined 55 = .ok (.aload_n 2, 1) := by decide +kernel
theorem dX4_workOutJoined_56 : decode cX4_workOutJoined 56 = .ok (.getfield 92, 3) := by decide +kernel
theorem dX4_workOutJoined_59 : decode cX4_workOutJoined 59 = .ok (.ifCond .le 7, 3) := by decide +kernel
theorem dX4_workOutJoined_62 : decode cX4_workOutJoined 62 = .ok (.iconst 0, 1) := by decide +kernel
theorem dX4_workOutJoined_63 : decode cX4_workOutJoined 63 = .ok (.goto 4, 3) := by decide +kernel
theorem dX4_workOutJoined_66 : decode cX4_workOutJoined 66 = .ok (.iconst (-1), 1) := by decide +kernel
theorem dX4_workOutJoined_67 : decode cX4_workOutJoined 67 = .ok (.iconst 0, 1) := by decide +kernel
theorem dX4_workOutJoined_68 : decode cX4_workOutJoined 68 = .ok (.invokestatic 266, 3) := by decide +kernel
theorem dX4_workOutJoined_71 : decode cX4_workOutJoined 71 = .ok (.return_, 1) := by decide +kernel
theorem dX4_joinNodes_0 : decode cX4_joinNodes 0 = .ok (.iload 5, 2) := by decide +kernel
theorem dX4_joinNodes_2 : decode cX4_joinNodes 2 = .ok (.iconst 4, 1) := by decide +kernel
theorem dX4_joinNodes_3 : decode cX4_joinNodes 3 = .ok (.if_icmp .le 4, 3) := by decide +kernel
theorem dX4_joinNodes_6 : decode cX4_joinNodes 6 = .ok (.return_, 1) := by decide +kernel
theorem dX4_joinNodes_7 : decode cX4_joinNodes 7 = .ok (.iload_n 2, 1) := by decide +kernel
theorem dX4_joinNodes_8 : decode cX4_joinNodes 8 = .ok (.iconst (-1), 1) := by decide +kernel
theorem dX4_joinNodes_9 : decode cX4_joinNodes 9 = .ok (.if_icmp .eq 7, 3) := by decide +kernel
theorem dX4_joinNodes_12 : decode cX4_joinNodes 12 = .ok (.iconst 1, 1) := by decide +kernel
theorem dX4_joinNodes_13 : decode cX4_joinNodes 13 = .ok (.goto 4, 3) := by decide +kernel
theorem dX4_joinNodes_16 : decode cX4_joinNodes 16 = .ok (.iconst 0, 1) := by decide +kernel
theorem dX4_joinNodes_17 : decode cX4_joinNodes 17 = .ok (.istore 6, 2) := by decide +kernel
theorem dX4_joinNodes_19 : decode cX4_joinNodes 19 = .ok (.aload_n 1, 1) := by decide +kernel
theorem dX4_joinNodes_20 : decode cX4_joinNodes 20 = .ok (.iload_n 2, 1) := by decide +kernel
theorem dX4_joinNodes_21 : decode cX4_joinNodes 21 = .ok (.iconst 0, 1) := by decide +kernel
theorem dX4_joinNodes_22 : decode cX4_joinNodes 22 = .ok (.invokevirtual 217, 3) := by decide +kernel
theorem dX4_joinNodes_25 : decode cX4_joinNodes 25 = .ok (.istore 7, 2) := by decide +kernel
theorem dX4_joinNodes_27 : decode cX4_joinNodes 27 = .ok (.iload 7, 2) := by decide +kernel
theorem dX4_joinNodes_29 : decode cX4_joinNodes 29 = .ok (.aload_n 3, 1) := by decide +kernel
theorem dX4_joinNodes_30 : decode cX4_joinNodes 30 = .ok (.iload 4, 2) := by decide +kernel
theorem dX4_joinNodes_32 : decode cX4_joinNodes 32 = .ok (.iconst 0, 1) := by decide +kernel
theorem dX4_joinNodes_33 : decode cX4_joinNodes 33 = .ok (.invokevirtual 217, 3) := by decide +kernel
theorem dX4_joinNodes_36 : decode cX4_joinNodes 36 = .ok (.invokestatic 256, 3) := by decide +kernel
theorem dX4_joinNodes_39 : decode cX4_joinNodes 39 = .ok (.istore 8, 2) := by decide +kernel
theorem dX4_joinNodes_41 : decode cX4_joinNodes 41 = .ok (.iload 6, 2) := by decide +kernel
theorem dX4_joinNodes_43 : decode cX4_joinNodes 43 = .ok (.ifCond .eq 14, 3) := by decide +kernel
theorem dX4_joinNodes_46 : decode cX4_joinNodes 46 = .ok (.iload 8, 2) := by decide +kernel
theorem dX4_joinNodes_48 : decode cX4_joinNodes 48 = .ok (.iload 7, 2) := by decide +kernel
theorem dX4_joinNodes_50 : decode cX4_joinNodes 50 = .ok (.if_icmp .ne 7, 3) := by decide +kernel
theorem dX4_joinNodes_53 : decode cX4_joinNodes 53 = .ok (.iconst 1, 1) := by decide +kernel
theorem dX4_joinNodes_54 : decode cX4_joinNodes 54 = .ok (.goto 4, 3) := by decide +kernel
theorem dX4_joinNodes_57 : decode cX4_joinNodes 57 = .ok (.iconst 0, 1) := by decide +kernel
theorem dX4_joinNodes_58 : decode cX4_joinNodes 58 = .ok (.istore 9, 2) := by decide +kernel
theorem dX4_joinNodes_60 : decode cX4_joinNodes 60 = .ok (.iload 6, 2) := by decide +kernel
theorem dX4_joinNodes_62 : decode cX4_joinNodes 62 = .ok (.ifCond .eq 12, 3) := by decide +kernel
theorem dX4_joinNodes_65 : decode cX4_joinNodes 65 = .ok (.aload_n 1, 1) := by decide +kernel
theorem dX4_joinNodes_66 : decode cX4_joinNodes 66 = .ok (.iload_n 2, 1) := by decide +kernel
theorem dX4_joinNodes_67 : decode cX4_joinNodes 67 = .ok (.iconst 1, 1) := by decide +kernel
theorem dX4_joinNodes_68 : decode cX4_joinNodes 68 = .ok (.invokevirtual 217, 3) := by decide +kernel
theorem dX4_joinNodes_71 : decode cX4_joinNodes 71 = .ok (.goto 10, 3) := by decide +kernel
theorem dX4_joinNodes_74 : decode cX4_joinNodes 74 = .ok (.aload_n 3, 1) := by decide +kernel
theorem dX4_joinNodes_75 : decode cX4_joinNodes 75 = .ok (.iload 4, 2) := by decide +kernel
theorem dX4_joinNodes_77 : decode cX4_joinNodes 77 = .ok (.iconst 1, 1) := by decide +kernel
theorem dX4_joinNodes_78 : decode cX4_joinNodes 78 = .ok (.invokevirtual 217, 3) := by decide +kernel
theorem dX4_joinNodes_81 : decode cX4_joinNodes 81 = .ok (.istore 10, 2) := by decide +kernel
theorem dX4_joinNodes_83 : decode cX4_joinNodes 83 = .ok (.aload_n 0, 1) := by decide +kernel
theorem dX4_joinNodes_84 : decode cX4_joinNodes 84 = .ok (.iload 10, 2) := by decide +kernel
theorem dX4_joinNodes_86 : decode cX4_joinNodes 86 = .ok (.iload 5, 2) := by decide +kernel
theorem dX4_joinNodes_88 : decode cX4_joinNodes 88 = .ok (.invokevirtual 270, 3) := by decide +kernel
theorem dX4_joinNodes_91 : decode cX4_joinNodes 91 = .ok (.istore 11, 2) := by decide +kernel
theorem dX4_joinNodes_93 : decode cX4_joinNodes 93 = .ok (.aload_n 0, 1) := by decide +kernel
theorem dX4_joinNodes_94 : decode cX4_joinNodes 94 = .ok (.iload 11, 2) := by decide +kernel
theorem dX4_joinNodes_96 : decode cX4_joinNodes 96 = .ok (.iconst 0, 1) := by decide +kernel
theorem dX4_joinNodes_97 : decode cX4_joinNodes 97 = .ok (.iload 8, 2) := by decide +kernel
theorem dX4_joinNodes_99 : decode cX4_joinNodes 99 = .ok (.invokevirtual 245, 3) := by decide +kernel
theorem dX4_joinNodes_102 : decode cX4_joinNodes 102 = .ok (.aload_n 0, 1) := by decide +kernel
theorem dX4_joinNodes_103 : decode cX4_joinNodes 103 = .ok (.iload 11, 2) := by decide +kernel
theorem dX4_joinNodes_105 : decode cX4_joinNodes 105 = .ok (.iconst 3, 1) := by decide +kernel
theorem dX4_joinNodes_106 : decode cX4_joinNodes 106 = .ok (.aload_n 1, 1) := by decide +kernel
theorem dX4_joinNodes_107 : decode cX4_joinNodes 107 = .ok (.iload_n 2, 1) := by decide +kernel
theorem dX4_joinNodes_108 : decode cX4_joinNodes 108 = .ok (.iconst 3, 1) := by decide +kernel
theorem dX4_joinNodes_109 : decode cX4_joinNodes 109 = .ok (.invokevirtual 217, 3) := by decide +kernel
theorem dX4_joinNodes_112 : decode cX4_joinNodes 112 = .ok (.aload_n 3, 1) := by decide +kernel
theorem dX4_joinNodes_113 : decode cX4_joinNodes 113 = .ok (.iload 4, 2) := by decide +kernel
theorem dX4_joinNodes_115 : decode cX4_joinNodes 115 = .ok (.iconst 3, 1) := by decide +kernel
theorem dX4_joinNodes_116 : decode cX4_joinNodes 116 = .ok (.invokevirtual 217, 3) := by decide +kernel
theorem dX4_joinNodes_119 : decode cX4_joinNodes 119 = .ok (.iadd, 1) := by decide +kernel
theorem dX4_joinNodes_120 : decode cX4_joinNodes 120 = .ok (.invokevirtual 245, 3) := by decide +kernel
theorem dX4_joinNodes_123 : decode cX4_joinNodes 123 = .ok (.aload_n 0, 1) := by decide +kernel
theorem dX4_joinNodes_124 : decode cX4_joinNodes 124 = .ok (.iload 11, 2) := by decide +kernel
theorem dX4_joinNodes_126 : decode cX4_joinNodes 126 = .ok (.iconst 4, 1) := by decide +kernel
theorem dX4_joinNodes_127 : decode cX4_joinNodes 127 = .ok (.aload_n 1, 1) := by decide +kernel
theorem dX4_joinNodes_128 : decode cX4_joinNodes 128 = .ok (.iload_n 2, 1) := by decide +kernel
theorem dX4_joinNodes_129 : decode cX4_joinNodes 129 = .ok (.iconst 4, 1) := by decide +kernel
theorem dX4_joinNodes_130 : decode cX4_joinNodes 130 = .ok (.invokevirtual 217, 3) := by decide +kernel
theorem dX4_joinNodes_133 : decode cX4_joinNodes 133 = .ok (.aload_n 3, 1) := by decide +kernel
theorem dX4_joinNodes_134 : decode cX4_joinNodes 134 = .ok (.iload 4, 2) := by decide +kernel
theorem dX4_joinNodes_136 : decode cX4_joinNodes 136 = .ok (.iconst 4, 1) := by decide +kernel
theorem dX4_joinNodes_137 : decode cX4_joinNodes 137 = .ok (.invokevirtual 217, 3) := by decide +kernel
theorem dX4_joinNodes_140 : decode cX4_joinNodes 140 = .ok (.invokestatic 229, 3) := by decide +kernel
theorem dX4_joinNodes_143 : decode cX4_joinNodes 143 = .ok (.invokevirtual 245, 3) := by decide +kernel
theorem dX4_joinNodes_146 : decode cX4_joinNodes 146 = .ok (.aload_n 0, 1) := by decide +kernel
theorem dX4_joinNodes_147 : decode cX4_joinNodes 147 = .ok (.iload 11, 2) := by decide +kernel
theorem dX4_joinNodes_149 : decode cX4_joinNodes 149 = .ok (.iconst 5, 1) := by decide +kernel
theorem dX4_joinNodes_150 : decode cX4_joinNodes 150 = .ok (.aload_n 1, 1) := by decide +kernel
theorem dX4_joinNodes_151 : decode cX4_joinNodes 151 = .ok (.iload_n 2, 1) := by decide +kernel
theorem dX4_joinNodes_152 : decode cX4_joinNodes 152 = .ok (.iconst 5, 1) := by decide +kernel
theorem dX4_joinNodes_153 : decode cX4_joinNodes 153 = .ok (.invokevirtual 217, 3) := by decide +kernel
theorem dX4_joinNodes_156 : decode cX4_joinNodes 156 = .ok (.aload_n 3, 1) := by decide +kernel
theorem dX4_joinNodes_157 : decode cX4_joinNodes 157 = .ok (.iload 4, 2) := by decide +kernel
theorem dX4_joinNodes_159 : decode cX4_joinNodes 159 = .ok (.iconst 5, 1) := by decide +kernel
theorem dX4_joinNodes_160 : decode cX4_joinNodes 160 = .ok (.invokevirtual 217, 3) := by decide +kernel
theorem dX4_joinNodes_163 : decode cX4_joinNodes 163 = .ok (.iadd, 1) := by decide +kernel
theorem dX4_joinNodes_164 : decode cX4_joinNodes 164 = .ok (.invokevirtual 245, 3) := by decide +kernel
theorem dX4_joinNodes_167 : decode cX4_joinNodes 167 = .ok (.aload_n 0, 1) := by decide +kernel
theorem dX4_joinNodes_168 : decode cX4_joinNodes 168 = .ok (.iload 11, 2) := by decide +kernel
theorem dX4_joinNodes_170 : decode cX4_joinNodes 170 = .ok (.bipush 6, 2) := by decide +kernel
theorem dX4_joinNodes_172 : decode cX4_joinNodes 172 = .ok (.iload 9, 2) := by decide +kernel
theorem dX4_joinNodes_174 : decode cX4_joinNodes 174 = .ok (.ifCond .eq 13, 3) := by decide +kernel
theorem dX4_joinNodes_177 : decode cX4_joinNodes 177 = .ok (.aload_n 1, 1) := by decide +kernel
theorem dX4_joinNodes_178 : decode cX4_joinNodes 178 = .ok (.iload_n 2, 1) := by decide +kernel
theorem dX4_joinNodes_179 : decode cX4_joinNodes 179 = .ok (.bipush 6, 2) := by decide +kernel
theorem dX4_joinNodes_181 : decode cX4_joinNodes 181 = .ok (.invokevirtual 217, 3) := by decide +kernel
theorem dX4_joinNodes_184 : decode cX4_joinNodes 184 = .ok (.goto 16, 3) := by decide +kernel
theorem dX4_joinNodes_187 : decode cX4_joinNodes 187 = .ok (.aload_n 1, 1) := by decide +kernel
theorem dX4_joinNodes_188 : decode cX4_joinNodes 188 = .ok (.getfield 226, 3) := by decide +kernel
theorem dX4_joinNodes_191 : decode cX4_joinNodes 191 = .ok (.aload_n 3, 1) := by decide +kernel
theorem dX4_joinNodes_192 : decode cX4_joinNodes 192 = .ok (.iload 4, 2) := by decide +kernel
theorem dX4_joinNodes_194 : decode cX4_joinNodes 194 = .ok (.bipush 6, 2) := by decide +kernel
theorem dX4_joinNodes_196 : decode cX4_joinNodes 196 = .ok (.invokevirtual 217, 3) := by decide +kernel
theorem dX4_joinNodes_199 : decode cX4_joinNodes 199 = .ok (.iadd, 1) := by decide +kernel
theorem dX4_joinNodes_200 : decode cX4_joinNodes 200 = .ok (.invokevirtual 245, 3) := by decide +kernel
theorem dX4_joinNodes_203 : decode cX4_joinNodes 203 = .ok (.iload 8, 2) := by decide +kernel
theorem dX4_joinNodes_205 : decode cX4_joinNodes 205 = .ok (.bipush 7, 2) := by decide +kernel
theorem dX4_joinNodes_207 : decode cX4_joinNodes 207 = .ok (.if_icmp .ne 4, 3) := by decide +kernel
theorem dX4_joinNodes_210 : decode cX4_joinNodes 210 = .ok (.return_, 1) := by decide +kernel
theorem dX4_joinNodes_211 : decode cX4_joinNodes 211 = .ok (.iconst 0, 1) := by decide +kernel
theorem dX4_joinNodes_212 : decode cX4_joinNodes 212 = .ok (.istore 12, 2) := by decide +kernel
theorem dX4_joinNodes_214 : decode cX4_joinNodes 214 = .ok (.iload 12, 2) := by decide +kernel
theorem dX4_joinNodes_216 : decode cX4_joinNodes 216 = .ok (.bipush 8, 2) := by decide +kernel
theorem dX4_joinNodes_218 : decode cX4_joinNodes 218 = .ok (.if_icmp .gt 54, 3) := by decide +kernel
theorem dX4_joinNodes_221 : decode cX4_joinNodes 221 = .ok (.aload_n 1, 1) := by decide +kernel
theorem dX4_joinNodes_222 : decode cX4_joinNodes 222 = .ok (.iload_n 2, 1) := by decide +kernel
theorem dX4_joinNodes_223 : decode cX4_joinNodes 223 = .ok (.iload 12, 2) := by decide +kernel
theorem dX4_joinNodes_225 : decode cX4_joinNodes 225 = .ok (.invokevirtual 150, 3) := by decide +kernel
theorem dX4_joinNodes_228 : decode cX4_joinNodes 228 = .ok (.istore 13, 2) := by decide +kernel
theorem dX4_joinNodes_230 : decode cX4_joinNodes 230 = .ok (.aload_n 3, 1) := by decide +kernel
theorem dX4_joinNodes_231 : decode cX4_joinNodes 231 = .ok (.iload 4, 2) := by decide +kernel
theorem dX4_joinNodes_233 : decode cX4_joinNodes 233 = .ok (.iload 12, 2) := by decide +kernel
theorem dX4_joinNodes_235 : decode cX4_joinNodes 235 = .ok (.invokevirtual 150, 3) := by decide +kernel
theorem dX4_joinNodes_238 : decode cX4_joinNodes 238 = .ok (.istore 14, 2) := by decide +kernel
theorem dX4_joinNodes_240 : decode cX4_joinNodes 240 = .ok (.iload 13, 2) := by decide +kernel
theorem dX4_joinNodes_242 : decode cX4_joinNodes 242 = .ok (.iconst (-1), 1) := by decide +kernel
theorem dX4_joinNodes_243 : decode cX4_joinNodes 243 = .ok (.if_icmp .ne 9, 3) := by decide +kernel
theorem dX4_joinNodes_246 : decode cX4_joinNodes 246 = .ok (.iload 14, 2) := by decide +kernel
theorem dX4_joinNodes_248 : decode cX4_joinNodes 248 = .ok (.iconst (-1), 1) := by decide +kernel
theorem dX4_joinNodes_249 : decode cX4_joinNodes 249 = .ok (.if_icmp .eq 17, 3) := by decide +kernel
theorem dX4_joinNodes_252 : decode cX4_joinNodes 252 = .ok (.aload_n 0, 1) := by decide +kernel
theorem dX4_joinNodes_253 : decode cX4_joinNodes 253 = .ok (.aload_n 1, 1) := by decide +kernel
theorem dX4_joinNodes_254 : decode cX4_joinNodes 254 = .ok (.iload 13, 2) := by decide +kernel
theorem dX4_joinNodes_256 : decode cX4_joinNodes 256 = .ok (.aload_n 3, 1) := by decide +kernel
theorem dX4_joinNodes_257 : decode cX4_joinNodes 257 = .ok (.iload 14, 2) := by decide +kernel
theorem dX4_joinNodes_259 : decode cX4_joinNodes 259 = .ok (.iload 5, 2) := by decide +kernel
theorem dX4_joinNodes_261 : decode cX4_joinNodes 261 = .ok (.iconst 1, 1) := by decide +kernel
theorem dX4_joinNodes_262 : decode cX4_joinNodes 262 = .ok (.iadd, 1) := by decide +kernel
theorem dX4_joinNodes_263 : decode cX4_joinNodes 263 = .ok (.invokestatic 266, 3) := by decide +kernel
theorem dX4_joinNodes_266 : decode cX4_joinNodes 266 = .ok (.iinc 12 1, 3) := by decide +kernel
theorem dX4_joinNodes_269 : decode cX4_joinNodes 269 = .ok (.goto (-55), 3) := by decide +kernel
theorem dX4_joinNodes_272 : decode cX4_joinNodes 272 = .ok (.return_, 1) := by decide +kernel
theorem dX4_coversOther_0 : decode cX4_coversOther 0 = .ok (.aload_n 0, 1) := by decide +kernel
theorem dX4_coversOther_1 : decode cX4_coversOther 1 = .ok (.getfield 23, 3) := by decide +kernel
theorem dX4_coversOther_4 : decode cX4_coversOther 4 = .ok (.iload_n 1, 1) := by decide +kernel
theorem dX4_coversOther_5 : decode cX4_coversOther 5 = .ok (.invokevirtual 69, 3) := by decide +kernel
theorem dX4_coversOther_8 : decode cX4_coversOther 8 = .ok (.astore_n 2, 1) := by decide +kernel
theorem dX4_coversOther_9 : decode cX4_coversOther 9 = .ok (.aload_n 0, 1) := by decide +kernel
theorem dX4_coversOther_10 : decode cX4_coversOther 10 = .ok (.getfield 23, 3) := by decide +kernel
theorem dX4_coversOther_13 : decode cX4_coversOther 13 = .ok (.iconst 1, 1) := by decide +kernel
theorem dX4_coversOther_14 : decode cX4_coversOther 14 = .ok (.iload_n 1, 1) := by decide +kernel
theorem dX4_coversOther_15 : decode cX4_coversOther 15 = .ok (.isub, 1) := by decide +kernel
theorem dX4_coversOther_16 : decode cX4_coversOther 16 = .ok (.invokevirtual 69, 3) := by decide +kernel
theorem dX4_coversOther_19 : decode cX4_coversOther 19 = .ok (.astore_n 3, 1) := by decide +kernel
theorem dX4_coversOther_20 : decode cX4_coversOther 20 = .ok (.aload_n 2, 1) := by decide +kernel
theorem dX4_coversOther_21 : decode cX4_coversOther 21 = .ok (.getfield 92, 3) := by decide +kernel
theorem dX4_coversOther_24 : decode cX4_coversOther 24 = .ok (.ifCond .eq 10, 3) := by decide +kernel
theorem dX4_coversOther_27 : decode cX4_coversOther 27 = .ok (.aload_n 3, 1) := by decide +kernel
theorem dX4_coversOther_28 : decode cX4_coversOther 28 = .ok (.getfield 92, 3) := by decide +kernel
theorem dX4_coversOther_31 : decode cX4_coversOther 31 = .ok (.ifCond .ne 16, 3) := by decide +kernel
theorem dX4_coversOther_34 : decode cX4_coversOther 34 = .ok (.aload_n 3, 1) := by decide +kernel
theorem dX4_coversOther_35 : decode cX4_coversOther 35 = .ok (.getfield 92, 3) := by decide +kernel
theorem dX4_coversOther_38 : decode cX4_coversOther 38 = .ok (.ifCond .ne 7, 3) := by decide +kernel
theorem dX4_coversOther_41 : decode cX4_coversOther 41 = .ok (.iconst 1, 1) := by decide +kernel
theorem dX4_coversOther_42 : decode cX4_coversOther 42 = .ok (.goto 4, 3) := by decide +kernel
theorem dX4_coversOther_45 : decode cX4_coversOther 45 = .ok (.iconst 0, 1) := by decide +kernel
theorem dX4_coversOther_46 : decode cX4_coversOther 46 = .ok (.ireturn, 1) := by decide +kernel
theorem dX4_coversOther_47 : decode cX4_coversOther 47 = .ok (.aload_n 2, 1) := by decide +kernel
theorem dX4_coversOther_48 : decode cX4_coversOther 48 = .ok (.iconst 0, 1) := by decide +kernel
theorem dX4_coversOther_49 : decode cX4_coversOther 49 = .ok (.aload_n 3, 1) := by decide +kernel
theorem dX4_coversOther_50 : decode cX4_coversOther 50 = .ok (.iconst 0, 1) := by decide +kernel
theorem dX4_coversOther_51 : decode cX4_coversOther 51 = .ok (.iconst 0, 1) := by decide +kernel
theorem dX4_coversOther_52 : decode cX4_coversOther 52 = .ok (.invokestatic 273, 3) := by decide +kernel
theorem dX4_coversOther_55 : decode cX4_coversOther 55 = .ok (.ireturn, 1) := by decide +kernel
theorem dX4_coversNode_0 : decode cX4_coversNode 0 = .ok (.iload 4, 2) := by decide +kernel
theorem dX4_coversNode_2 : decode cX4_coversNode 2 = .ok (.iconst 4, 1) := by decide +kernel
theorem dX4_coversNode_3 : decode cX4_coversNode 3 = .ok (.if_icmp .le 5, 3) := by decide +kernel
theorem dX4_coversNode_6 : decode cX4_coversNode 6 = .ok (.iconst 0, 1) := by decide +kernel
theorem dX4_coversNode_7 : decode cX4_coversNode 7 = .ok (.ireturn, 1) := by decide +kernel
theorem dX4_coversNode_8 : decode cX4_coversNode 8 = .ok (.aload_n 0, 1) := by decide +kernel
theorem dX4_coversNode_9 : decode cX4_coversNode 9 = .ok (.iload_n 1, 1) := by decide +kernel
theorem dX4_coversNode_10 : decode cX4_coversNode 10 = .ok (.iconst 0, 1) := by decide +kernel
theorem dX4_coversNode_11 : decode cX4_coversNode 11 = .ok (.invokevirtual 217, 3) := by decide +kernel
theorem dX4_coversNode_14 : decode cX4_coversNode 14 = .ok (.istore 5, 2) := by decide +kernel
theorem dX4_coversNode_16 : decode cX4_coversNode 16 = .ok (.aload_n 2, 1) := by decide +kernel
theorem dX4_coversNode_17 : decode cX4_coversNode 17 = .ok (.iload_n 3, 1) := by decide +kernel
theorem dX4_coversNode_18 : decode cX4_coversNode 18 = .ok (.iconst 0, 1) := by decide +kernel
theorem dX4_coversNode_19 : decode cX4_coversNode 19 = .ok (.invokevirtual 217, 3) := by decide +kernel
theorem dX4_coversNode_22 : decode cX4_coversNode 22 = .ok (.istore 6, 2) := by decide +kernel
theorem dX4_coversNode_24 : decode cX4_coversNode 24 = .ok (.iload 5, 2) := by decide +kernel
theorem dX4_coversNode_26 : decode cX4_coversNode 26 = .ok (.iload 6, 2) := by decide +kernel
theorem dX4_coversNode_28 : decode cX4_coversNode 28 = .ok (.invokestatic 256, 3) := by decide +kernel
theorem dX4_coversNode_31 : decode cX4_coversNode 31 = .ok (.iload 5, 2) := by decide +kernel
theorem dX4_coversNode_33 : decode cX4_coversNode 33 = .ok (.if_icmp .ne 18, 3) := by decide +kernel
theorem dX4_coversNode_36 : decode cX4_coversNode 36 = .ok (.aload_n 2, 1) := by decide +kernel
theorem dX4_coversNode_37 : decode cX4_coversNode 37 = .ok (.iload_n 3, 1) := by decide +kernel
theorem dX4_coversNode_38 : decode cX4_coversNode 38 = .ok (.iconst 4, 1) := by decide +kernel
theorem dX4_coversNode_39 : decode cX4_coversNode 39 = .ok (.invokevirtual 217, 3) := by decide +kernel
theorem dX4_coversNode_42 : decode cX4_coversNode 42 = .ok (.aload_n 0, 1) := by decide +kernel
theorem dX4_coversNode_43 : decode cX4_coversNode 43 = .ok (.iload_n 1, 1) := by decide +kernel
theorem dX4_coversNode_44 : decode cX4_coversNode 44 = .ok (.iconst 4, 1) := by decide +kernel
theorem dX4_coversNode_45 : decode cX4_coversNode 45 = .ok (.invokevirtual 217, 3) := by decide +kernel
theorem dX4_coversNode_48 : decode cX4_coversNode 48 = .ok (.if_icmp .le 5, 3) := by decide +kernel
theorem dX4_coversNode_51 : decode cX4_coversNode 51 = .ok (.iconst 0, 1) := by decide +kernel
theorem dX4_coversNode_52 : decode cX4_coversNode 52 = .ok (.ireturn, 1) := by decide +kernel
theorem dX4_coversNode_53 : decode cX4_coversNode 53 = .ok (.iload 5, 2) := by decide +kernel
theorem dX4_coversNode_55 : decode cX4_coversNode 55 = .ok (.bipush 7, 2) := by decide +kernel
theorem dX4_coversNode_57 : decode cX4_coversNode 57 = .ok (.if_icmp .ne 5, 3) := by decide +kernel
theorem dX4_coversNode_60 : decode cX4_coversNode 60 = .ok (.iconst 1, 1) := by decide +kernel
theorem dX4_coversNode_61 : decode cX4_coversNode 61 = .ok (.ireturn, 1) := by decide +kernel
theorem dX4_coversNode_62 : decode cX4_coversNode 62 = .ok (.iconst 0, 1) := by decide +kernel
theorem dX4_coversNode_63 : decode cX4_coversNode 63 = .ok (.istore 7, 2) := by decide +kernel
theorem dX4_coversNode_65 : decode cX4_coversNode 65 = .ok (.iload 7, 2) := by decide +kernel
theorem dX4_coversNode_67 : decode cX4_coversNode 67 = .ok (.bipush 8, 2) := by decide +kernel
theorem dX4_coversNode_69 : decode cX4_coversNode 69 = .ok (.if_icmp .gt 84, 3) := by decide +kernel
theorem dX4_coversNode_72 : decode cX4_coversNode 72 = .ok (.aload_n 0, 1) := by decide +kernel
theorem dX4_coversNode_73 : decode cX4_coversNode 73 = .ok (.iload_n 1, 1) := by decide +kernel
theorem dX4_coversNode_74 : decode cX4_coversNode 74 = .ok (.iload 7, 2) := by decide +kernel
theorem dX4_coversNode_76 : decode cX4_coversNode 76 = .ok (.invokevirtual 150, 3) := by decide +kernel
theorem dX4_coversNode_79 : decode cX4_coversNode 79 = .ok (.istore 8, 2) := by decide +kernel
theorem dX4_coversNode_81 : decode cX4_coversNode 81 = .ok (.aload_n 2, 1) := by decide +kernel
theorem dX4_coversNode_82 : decode cX4_coversNode 82 = .ok (.iload_n 3, 1) := by decide +kernel
theorem dX4_coversNode_83 : decode cX4_coversNode 83 = .ok (.iload 7, 2) := by decide +kernel
theorem dX4_coversNode_85 : decode cX4_coversNode 85 = .ok (.invokevirtual 150, 3) := by decide +kernel
theorem dX4_coversNode_88 : decode cX4_coversNode 88 = .ok (.istore 9, 2) := by decide +kernel
theorem dX4_coversNode_90 : decode cX4_coversNode 90 = .ok (.iload 9, 2) := by decide +kernel
theorem dX4_coversNode_92 : decode cX4_coversNode 92 = .ok (.iconst (-1), 1) := by decide +kernel
theorem dX4_coversNode_93 : decode cX4_coversNode 93 = .ok (.if_icmp .eq 27, 3) := by decide +kernel
theorem dX4_coversNode_96 : decode cX4_coversNode 96 = .ok (.iload 8, 2) := by decide +kernel
theorem dX4_coversNode_98 : decode cX4_coversNode 98 = .ok (.iconst (-1), 1) := by decide +kernel
theorem dX4_coversNode_99 : decode cX4_coversNode 99 = .ok (.if_icmp .eq 19, 3) := by decide +kernel
theorem dX4_coversNode_102 : decode cX4_coversNode 102 = .ok (.aload_n 0, 1) := by decide +kernel
theorem dX4_coversNode_103 : decode cX4_coversNode 103 = .ok (.iload 8, 2) := by decide +kernel
theorem dX4_coversNode_105 : decode cX4_coversNode 105 = .ok (.aload_n 2, 1) := by decide +kernel
theorem dX4_coversNode_106 : decode cX4_coversNode 106 = .ok (.iload 9, 2) := by decide +kernel
theorem dX4_coversNode_108 : decode cX4_coversNode 108 = .ok (.iload 4, 2) := by decide +kernel
theorem dX4_coversNode_110 : decode cX4_coversNode 110 = .ok (.iconst 1, 1) := by decide +kernel
theorem dX4_coversNode_111 : decode cX4_coversNode 111 = .ok (.iadd, 1) := by decide +kernel
theorem dX4_coversNode_112 : decode cX4_coversNode 112 = .ok (.invokestatic 273, 3) := by decide +kernel
theorem dX4_coversNode_115 : decode cX4_coversNode 115 = .ok (.ifCond .ne 5, 3) := by decide +kernel
theorem dX4_coversNode_118 : decode cX4_coversNode 118 = .ok (.iconst 0, 1) := by decide +kernel
theorem dX4_coversNode_119 : decode cX4_coversNode 119 = .ok (.ireturn, 1) := by decide +kernel
theorem dX4_coversNode_120 : decode cX4_coversNode 120 = .ok (.iload 6, 2) := by decide +kernel
theorem dX4_coversNode_122 : decode cX4_coversNode 122 = .ok (.bipush 6, 2) := by decide +kernel
theorem dX4_coversNode_124 : decode cX4_coversNode 124 = .ok (.if_icmp .ne 23, 3) := by decide +kernel
theorem dX4_coversNode_127 : decode cX4_coversNode 127 = .ok (.aload_n 0, 1) := by decide +kernel
theorem dX4_coversNode_128 : decode cX4_coversNode 128 = .ok (.iload 8, 2) := by decide +kernel
theorem dX4_coversNode_130 : decode cX4_coversNode 130 = .ok (.invokestatic 277, 3) := by decide +kernel
theorem dX4_coversNode_133 : decode cX4_coversNode 133 = .ok (.ifCond .eq 14, 3) := by decide +kernel
theorem dX4_coversNode_136 : decode cX4_coversNode 136 = .ok (.aload_n 2, 1) := by decide +kernel
theorem dX4_coversNode_137 : decode cX4_coversNode 137 = .ok (.iload 9, 2) := by decide +kernel
theorem dX4_coversNode_139 : decode cX4_coversNode 139 = .ok (.invokestatic 277, 3) := by decide +kernel
theorem dX4_coversNode_142 : decode cX4_coversNode 142 = .ok (.ifCond .ne 5, 3) := by decide +kernel
theorem dX4_coversNode_145 : decode cX4_coversNode 145 = .ok (.iconst 0, 1) := by decide +kernel
theorem dX4_coversNode_146 : decode cX4_coversNode 146 = .ok (.ireturn, 1) := by decide +kernel
theorem dX4_coversNode_147 : decode cX4_coversNode 147 = .ok (.iinc 7 1, 3) := by decide +kernel
theorem dX4_coversNode_150 : decode cX4_coversNode 150 = .ok (.goto (-85), 3) := by decide +kernel
theorem dX4_coversNode_153 : decode cX4_coversNode 153 = .ok (.iconst 1, 1) := by decide +kernel
theorem dX4_coversNode_154 : decode cX4_coversNode 154 = .ok (.ireturn, 1) := by decide +kernel
theorem dX4_mustBeThere_0 : decode cX4_mustBeThere 0 = .ok (.aload_n 0, 1) := by decide +kernel
theorem dX4_mustBeThere_1 : decode cX4_mustBeThere 1 = .ok (.iload_n 1, 1) := by decide +kernel
theorem dX4_mustBeThere_2 : decode cX4_mustBeThere 2 = .ok (.invokevirtual 137, 3) := by decide +kernel
theorem dX4_mustBeThere_5 : decode cX4_mustBeThere 5 = .ok (.ifCond .eq 28, 3) := by decide +kernel
theorem dX4_mustBeThere_8 : decode cX4_mustBeThere 8 = .ok (.aload_n 0, 1) := by decide +kernel
theorem dX4_mustBeThere_9 : decode cX4_mustBeThere 9 = .ok (.iload_n 1, 1) := by decide +kernel
theorem dX4_mustBeThere_10 : decode cX4_mustBeThere 10 = .ok (.iconst 1, 1) := by decide +kernel
theorem dX4_mustBeThere_11 : decode cX4_mustBeThere 11 = .ok (.invokevirtual 217, 3) := by decide +kernel
theorem dX4_mustBeThere_14 : decode cX4_mustBeThere 14 = .ok (.bipush 8, 2) := by decide +kernel
theorem dX4_mustBeThere_16 : decode cX4_mustBeThere 16 = .ok (.if_icmp .ge 17, 3) := by decide +kernel
theorem dX4_mustBeThere_19 : decode cX4_mustBeThere 19 = .ok (.aload_n 0, 1) := by decide +kernel
theorem dX4_mustBeThere_20 : decode cX4_mustBeThere 20 = .ok (.iload_n 1, 1) := by decide +kernel
theorem dX4_mustBeThere_21 : decode cX4_mustBeThere 21 = .ok (.bipush 8, 2) := by decide +kernel
theorem dX4_mustBeThere_23 : decode cX4_mustBeThere 23 = .ok (.invokevirtual 217, 3) := by decide +kernel
theorem dX4_mustBeThere_26 : decode cX4_mustBeThere 26 = .ok (.ifCond .ne 7, 3) := by decide +kernel
theorem dX4_mustBeThere_29 : decode cX4_mustBeThere 29 = .ok (.iconst 1, 1) := by decide +kernel
theorem dX4_mustBeThere_30 : decode cX4_mustBeThere 30 = .ok (.goto 4, 3) := by decide +kernel
theorem dX4_mustBeThere_33 : decode cX4_mustBeThere 33 = .ok (.iconst 0, 1) := by decide +kernel
theorem dX4_mustBeThere_34 : decode cX4_mustBeThere 34 = .ok (.ireturn, 1) := by decide +kernel
theorem dJ9_max_7cf53_0 : decode cJ9_max_7cf53 0 = .ok (.iload_n 0, 1) := by decide +kernel
theorem dJ9_max_7cf53_1 : decode cJ9_max_7cf53 1 = .ok (.iload_n 1, 1) := by decide +kernel
theorem dJ9_max_7cf53_2 : decode cJ9_max_7cf53 2 = .ok (.if_icmp .lt 7, 3) := by decide +kernel
theorem dJ9_max_7cf53_5 : decode cJ9_max_7cf53 5 = .ok (.iload_n 0, 1) := by decide +kernel
theorem dJ9_max_7cf53_6 : decode cJ9_max_7cf53 6 = .ok (.goto 4, 3) := by decide +kernel
theorem dJ9_max_7cf53_9 : decode cJ9_max_7cf53 9 = .ok (.iload_n 1, 1) := by decide +kernel
theorem dJ9_max_7cf53_10 : decode cJ9_max_7cf53 10 = .ok (.ireturn, 1) := by decide +kernel
