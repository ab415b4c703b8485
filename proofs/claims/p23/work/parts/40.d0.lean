/-! ===== decode rows ===== -/
theorem dX0_init_0 : decode cX0_init 0 = .ok (.aload_n 0, 1) := by decide +kernel
theorem dX0_init_1 : decode cX0_init 1 = .ok (.invokespecial 1, 3) := by decide +kernel
theorem dX0_init_4 : decode cX0_init 4 = .ok (.return_, 1) := by decide +kernel
theorem dX1_init_0 : decode cX1_init 0 = .ok (.aload_n 0, 1) := by decide +kernel
theorem dX1_init_1 : decode cX1_init 1 = .ok (.invokespecial 3, 3) := by decide +kernel
theorem dX1_init_4 : decode cX1_init 4 = .ok (.aload_n 0, 1) := by decide +kernel
theorem dX1_init_5 : decode cX1_init 5 = .ok (.new 9, 3) := by decide +kernel
theorem dX1_init_8 : decode cX1_init 8 = .ok (.dup, 1) := by decide +kernel
theorem dX1_init_9 : decode cX1_init 9 = .ok (.invokespecial 11, 3) := by decide +kernel
theorem dX1_init_12 : decode cX1_init 12 = .ok (.putfield 12, 3) := by decide +kernel
theorem dX1_init_15 : decode cX1_init 15 = .ok (.return_, 1) := by decide +kernel
theorem dX1_read_0 : decode cX1_read 0 = .ok (.aload_n 0, 1) := by decide +kernel
theorem dX1_read_1 : decode cX1_read 1 = .ok (.getfield 12, 3) := by decide +kernel
theorem dX1_read_4 : decode cX1_read 4 = .ok (.invokevirtual 18, 3) := by decide +kernel
theorem dX1_read_7 : decode cX1_read 7 = .ok (.aload_n 0, 1) := by decide +kernel
theorem dX1_read_8 : decode cX1_read 8 = .ok (.iconst 0, 1) := by decide +kernel
theorem dX1_read_9 : decode cX1_read 9 = .ok (.putfield 21, 3) := by decide +kernel
theorem dX1_read_12 : decode cX1_read 12 = .ok (.aload_n 0, 1) := by decide +kernel
theorem dX1_read_13 : decode cX1_read 13 = .ok (.iconst (-1), 1) := by decide +kernel
theorem dX1_read_14 : decode cX1_read 14 = .ok (.putfield 25, 3) := by decide +kernel
theorem dX1_read_17 : decode cX1_read 17 = .ok (.aload_n 0, 1) := by decide +kernel
theorem dX1_read_18 : decode cX1_read 18 = .ok (.iconst (-1), 1) := by decide +kernel
theorem dX1_read_19 : decode cX1_read 19 = .ok (.putfield 28, 3) := by decide +kernel
theorem dX1_read_22 : decode cX1_read 22 = .ok (.aload_n 0, 1) := by decide +kernel
theorem dX1_read_23 : decode cX1_read 23 = .ok (.iconst 0, 1) := by decide +kernel
theorem dX1_read_24 : decode cX1_read 24 = .ok (.putfield 31, 3) := by decide +kernel
theorem dX1_read_27 : decode cX1_read 27 = .ok (.aload_n 0, 1) := by decide +kernel
theorem dX1_read_28 : decode cX1_read 28 = .ok (.iload_n 2, 1) := by decide +kernel
theorem dX1_read_29 : decode cX1_read 29 = .ok (.putfield 34, 3) := by decide +kernel
theorem dX1_read_32 : decode cX1_read 32 = .ok (.iconst 0, 1) := by decide +kernel
theorem dX1_read_33 : decode cX1_read 33 = .ok (.istore_n 3, 1) := by decide +kernel
theorem dX1_read_34 : decode cX1_read 34 = .ok (.iload_n 3, 1) := by decide +kernel
theorem dX1_read_35 : decode cX1_read 35 = .ok (.iload_n 2, 1) := by decide +kernel
theorem dX1_read_36 : decode cX1_read 36 = .ok (.if_icmp .ge 37, 3) := by decide +kernel
theorem dX1_read_39 : decode cX1_read 39 = .ok (.iload_n 3, 1) := by decide +kernel
theorem dX1_read_40 : decode cX1_read 40 = .ok (.aload_n 1, 1) := by decide +kernel
theorem dX1_read_41 : decode cX1_read 41 = .ok (.arraylength, 1) := by decide +kernel
theorem dX1_read_42 : decode cX1_read 42 = .ok (.if_icmp .ge 31, 3) := by decide +kernel
theorem dX1_read_45 : decode cX1_read 45 = .ok (.aload_n 0, 1) := by decide +kernel
theorem dX1_read_46 : decode cX1_read 46 = .ok (.iload_n 3, 1) := by decide +kernel
theorem dX1_read_47 : decode cX1_read 47 = .ok (.putfield 37, 3) := by decide +kernel
theorem dX1_read_50 : decode cX1_read 50 = .ok (.aload_n 0, 1) := by decide +kernel
theorem dX1_read_51 : decode cX1_read 51 = .ok (.aload_n 1, 1) := by decide +kernel
theorem dX1_read_52 : decode cX1_read 52 = .ok (.iload_n 3, 1) := by decide +kernel
theorem dX1_read_53 : decode cX1_read 53 = .ok (.iaload, 1) := by decide +kernel
theorem dX1_read_54 : decode cX1_read 54 = .ok (.invokevirtual 40, 3) := by decide +kernel
theorem dX1_read_57 : decode cX1_read 57 = .ok (.ifCond .ne 10, 3) := by decide +kernel
theorem dX1_read_60 : decode cX1_read 60 = .ok (.aload_n 0, 1) := by decide +kernel
theorem dX1_read_61 : decode cX1_read 61 = .ok (.iload_n 3, 1) := by decide +kernel
theorem dX1_read_62 : decode cX1_read 62 = .ok (.putfield 34, 3) := by decide +kernel
theorem dX1_read_65 : decode cX1_read 65 = .ok (.iconst 0, 1) := by decide +kernel
theorem dX1_read_66 : decode cX1_read 66 = .ok (.ireturn, 1) := by decide +kernel
theorem dX1_read_67 : decode cX1_read 67 = .ok (.iinc 3 1, 3) := by decide +kernel
theorem dX1_read_70 : decode cX1_read 70 = .ok (.goto (-36), 3) := by decide +kernel
theorem dX1_read_73 : decode cX1_read 73 = .ok (.aload_n 0, 1) := by decide +kernel
theorem dX1_read_74 : decode cX1_read 74 = .ok (.getfield 21, 3) := by decide +kernel
theorem dX1_read_77 : decode cX1_read 77 = .ok (.bipush 12, 2) := by decide +kernel
theorem dX1_read_79 : decode cX1_read 79 = .ok (.if_icmp .ne 7, 3) := by decide +kernel
theorem dX1_read_82 : decode cX1_read 82 = .ok (.iconst 1, 1) := by decide +kernel
theorem dX1_read_83 : decode cX1_read 83 = .ok (.goto 4, 3) := by decide +kernel
theorem dX1_read_86 : decode cX1_read 86 = .ok (.iconst 0, 1) := by decide +kernel
theorem dX1_read_87 : decode cX1_read 87 = .ok (.ireturn, 1) := by decide +kernel
theorem dX1_take_0 : decode cX1_take 0 = .ok (.aload_n 0, 1) := by decide +kernel
theorem dX1_take_1 : decode cX1_take 1 = .ok (.iload_n 1, 1) := by decide +kernel
theorem dX1_take_2 : decode cX1_take 2 = .ok (.invokevirtual 44, 3) := by decide +kernel
theorem dX1_take_5 : decode cX1_take 5 = .ok (.ifCond .eq 11, 3) := by decide +kernel
theorem dX1_take_8 : decode cX1_take 8 = .ok (.aload_n 0, 1) := by decide +kernel
theorem dX1_take_9 : decode cX1_take 9 = .ok (.aload_n 0, 1) := by decide +kernel
theorem dX1_take_10 : decode cX1_take 10 = .ok (.invokevirtual 47, 3) := by decide +kernel
theorem dX1_take_13 : decode cX1_take 13 = .ok (.putfield 21, 3) := by decide +kernel
theorem dX1_take_16 : decode cX1_take 16 = .ok (.aload_n 0, 1) := by decide +kernel
theorem dX1_take_17 : decode cX1_take 17 = .ok (.getfield 21, 3) := by decide +kernel
theorem dX1_take_20 : decode cX1_take 20 = .ok (.tableswitch 146 0 12 #[68, 88, 94, 100, 119, 146, 146, 146, 146, 146, 146, 138, 144], 68) := by decide +kernel
theorem dX1_take_88 : decode cX1_take 88 = .ok (.iload_n 1, 1) := by decide +kernel
theorem dX1_take_89 : decode cX1_take 89 = .ok (.bipush 40, 2) := by decide +kernel
theorem dX1_take_91 : decode cX1_take 91 = .ok (.if_icmp .ne 15, 3) := by decide +kernel
theorem dX1_take_94 : decode cX1_take 94 = .ok (.aload_n 0, 1) := by decide +kernel
theorem dX1_take_95 : decode cX1_take 95 = .ok (.iload_n 1, 1) := by decide +kernel
theorem dX1_take_96 : decode cX1_take 96 = .ok (.invokevirtual 51, 3) := by decide +kernel
theorem dX1_take_99 : decode cX1_take 99 = .ok (.ifCond .eq 7, 3) := by decide +kernel
theorem dX1_take_102 : decode cX1_take 102 = .ok (.iconst 1, 1) := by decide +kernel
theorem dX1_take_103 : decode cX1_take 103 = .ok (.goto 4, 3) := by decide +kernel
theorem dX1_take_106 : decode cX1_take 106 = .ok (.iconst 0, 1) := by decide +kernel
theorem dX1_take_107 : decode cX1_take 107 = .ok (.ireturn, 1) := by decide +kernel
theorem dX1_take_108 : decode cX1_take 108 = .ok (.aload_n 0, 1) := by decide +kernel
theorem dX1_take_109 : decode cX1_take 109 = .ok (.iload_n 1, 1) := by decide +kernel
theorem dX1_take_110 : decode cX1_take 110 = .ok (.invokevirtual 54, 3) := by decide +kernel
theorem dX1_take_113 : decode cX1_take 113 = .ok (.ireturn, 1) := by decide +kernel
theorem dX1_take_114 : decode cX1_take 114 = .ok (.aload_n 0, 1) := by decide +kernel
theorem dX1_take_115 : decode cX1_take 115 = .ok (.iload_n 1, 1) := by decide +kernel
theorem dX1_take_116 : decode cX1_take 116 = .ok (.invokevirtual 51, 3) := by decide +kernel
theorem dX1_take_119 : decode cX1_take 119 = .ok (.ireturn, 1) := by decide +kernel
theorem dX1_take_120 : decode cX1_take 120 = .ok (.iload_n 1, 1) := by decide +kernel
theorem dX1_take_121 : decode cX1_take 121 = .ok (.bipush 93, 2) := by decide +kernel
theorem dX1_take_123 : decode cX1_take 123 = .ok (.if_icmp .ne 10, 3) := by decide +kernel
theorem dX1_take_126 : decode cX1_take 126 = .ok (.aload_n 0, 1) := by decide +kernel
theorem dX1_take_127 : decode cX1_take 127 = .ok (.invokevirtual 57, 3) := by decide +kernel
theorem dX1_take_130 : decode cX1_take 130 = .ok (.goto 8, 3) := by decide +kernel
theorem dX1_take_133 : decode cX1_take 133 = .ok (.aload_n 0, 1) := by decide +kernel
theorem dX1_take_134 : decode cX1_take 134 = .ok (.iload_n 1, 1) := by decide +kernel
theorem dX1_take_135 : decode cX1_take 135 = .ok (.invokevirtual 51, 3) := by decide +kernel
theorem dX1_take_138 : decode cX1_take 138 = .ok (.ireturn, 1) := by decide +kernel
theorem dX1_take_139 : decode cX1_take 139 = .ok (.iload_n 1, 1) := by decide +kernel
theorem dX1_take_140 : decode cX1_take 140 = .ok (.bipush 93, 2) := by decide +kernel
theorem dX1_take_142 : decode cX1_take 142 = .ok (.if_icmp .ne 10, 3) := by decide +kernel
theorem dX1_take_145 : decode cX1_take 145 = .ok (.aload_n 0, 1) := by decide +kernel
theorem dX1_take_146 : decode cX1_take 146 = .ok (.invokevirtual 57, 3) := by decide +kernel
theorem dX1_take_149 : decode cX1_take 149 = .ok (.goto 8, 3) := by decide +kernel
theorem dX1_take_152 : decode cX1_take 152 = .ok (.aload_n 0, 1) := by decide +kernel
theorem dX1_take_153 : decode cX1_take 153 = .ok (.iload_n 1, 1) := by decide +kernel
theorem dX1_take_154 : decode cX1_take 154 = .ok (.invokevirtual 61, 3) := by decide +kernel
theorem dX1_take_157 : decode cX1_take 157 = .ok (.ireturn, 1) := by decide +kernel
theorem dX1_take_158 : decode cX1_take 158 = .ok (.aload_n 0, 1) := by decide +kernel
theorem dX1_take_159 : decode cX1_take 159 = .ok (.iload_n 1, 1) := by decide +kernel
theorem dX1_take_160 : decode cX1_take 160 = .ok (.invokevirtual 64, 3) := by decide +kernel
theorem dX1_take_163 : decode cX1_take 163 = .ok (.ireturn, 1) := by decide +kernel
theorem dX1_take_164 : decode cX1_take 164 = .ok (.iconst 0, 1) := by decide +kernel
theorem dX1_take_165 : decode cX1_take 165 = .ok (.ireturn, 1) := by decide +kernel
theorem dX1_take_166 : decode cX1_take 166 = .ok (.aload_n 0, 1) := by decide +kernel
theorem dX1_take_167 : decode cX1_take 167 = .ok (.iload_n 1, 1) := by decide +kernel
theorem dX1_take_168 : decode cX1_take 168 = .ok (.invokevirtual 67, 3) := by decide +kernel
theorem dX1_take_171 : decode cX1_take 171 = .ok (.ireturn, 1) := by decide +kernel
theorem dX1_endsNumber_0 : decode cX1_endsNumber 0 = .ok (.aload_n 0, 1) := by decide +kernel
theorem dX1_endsNumber_1 : decode cX1_endsNumber 1 = .ok (.getfield 21, 3) := by decide +kernel
theorem dX1_endsNumber_4 : decode cX1_endsNumber 4 = .ok (.bipush 7, 2) := by decide +kernel
theorem dX1_endsNumber_6 : decode cX1_endsNumber 6 = .ok (.if_icmp .eq 21, 3) := by decide +kernel
theorem dX1_endsNumber_9 : decode cX1_endsNumber 9 = .ok (.aload_n 0, 1) := by decide +kernel
theorem dX1_endsNumber_10 : decode cX1_endsNumber 10 = .ok (.getfield 21, 3) := by decide +kernel
theorem dX1_endsNumber_13 : decode cX1_endsNumber 13 = .ok (.bipush 8, 2) := by decide +kernel
theorem dX1_endsNumber_15 : decode cX1_endsNumber 15 = .ok (.if_icmp .eq 12, 3) := by decide +kernel
theorem dX1_endsNumber_18 : decode cX1_endsNumber 18 = .ok (.aload_n 0, 1) := by decide +kernel
theorem dX1_endsNumber_19 : decode cX1_endsNumber 19 = .ok (.getfield 21, 3) := by decide +kernel
theorem dX1_endsNumber_22 : decode cX1_endsNumber 22 = .ok (.bipush 10, 2) := by decide +kernel
theorem dX1_endsNumber_24 : decode cX1_endsNumber 24 = .ok (.if_icmp .ne 7, 3) := by decide +kernel
theorem dX1_endsNumber_27 : decode cX1_endsNumber 27 = .ok (.iconst 1, 1) := by decide +kernel
theorem dX1_endsNumber_28 : decode cX1_endsNumber 28 = .ok (.goto 4, 3) := by decide +kernel
theorem dX1_endsNumber_31 : decode cX1_endsNumber 31 = .ok (.iconst 0, 1) := by decide +kernel
theorem dX1_endsNumber_32 : decode cX1_endsNumber 32 = .ok (.istore_n 2, 1) := by decide +kernel
theorem dX1_endsNumber_33 : decode cX1_endsNumber 33 = .ok (.iload_n 1, 1) := by decide +kernel
theorem dX1_endsNumber_34 : decode cX1_endsNumber 34 = .ok (.invokestatic 70, 3) := by decide +kernel
theorem dX1_endsNumber_37 : decode cX1_endsNumber 37 = .ok (.ifCond .ne 9, 3) := by decide +kernel
theorem dX1_endsNumber_40 : decode cX1_endsNumber 40 = .ok (.iload_n 1, 1) := by decide +kernel
theorem dX1_endsNumber_41 : decode cX1_endsNumber 41 = .ok (.bipush 46, 2) := by decide +kernel
theorem dX1_endsNumber_43 : decode cX1_endsNumber 43 = .ok (.if_icmp .ne 7, 3) := by decide +kernel
theorem dX1_endsNumber_46 : decode cX1_endsNumber 46 = .ok (.iconst 1, 1) := by decide +kernel
theorem dX1_endsNumber_47 : decode cX1_endsNumber 47 = .ok (.goto 4, 3) := by decide +kernel
theorem dX1_endsNumber_50 : decode cX1_endsNumber 50 = .ok (.iconst 0, 1) := by decide +kernel
theorem dX1_endsNumber_51 : decode cX1_endsNumber 51 = .ok (.istore_n 3, 1) := by decide +kernel
theorem dX1_endsNumber_52 : decode cX1_endsNumber 52 = .ok (.iload_n 2, 1) := by decide +kernel
theorem dX1_endsNumber_53 : decode cX1_endsNumber 53 = .ok (.ifCond .eq 11, 3) := by decide +kernel
theorem dX1_endsNumber_56 : decode cX1_endsNumber 56 = .ok (.iload_n 3, 1) := by decide +kernel
theorem dX1_endsNumber_57 : decode cX1_endsNumber 57 = .ok (.ifCond .ne 7, 3) := by decide +kernel
theorem dX1_endsNumber_60 : decode cX1_endsNumber 60 = .ok (.iconst 1, 1) := by decide +kernel
theorem dX1_endsNumber_61 : decode cX1_endsNumber 61 = .ok (.goto 4, 3) := by decide +kernel
theorem dX1_endsNumber_64 : decode cX1_endsNumber 64 = .ok (.iconst 0, 1) := by decide +kernel
theorem dX1_endsNumber_65 : decode cX1_endsNumber 65 = .ok (.ireturn, 1) := by decide +kernel
theorem dX1_takePart_0 : decode cX1_takePart 0 = .ok (.iload_n 1, 1) := by decide +kernel
theorem dX1_takePart_1 : decode cX1_takePart 1 = .ok (.bipush 41, 2) := by decide +kernel
theorem dX1_takePart_3 : decode cX1_takePart 3 = .ok (.if_icmp .ne 8, 3) := by decide +kernel
theorem dX1_takePart_6 : decode cX1_takePart 6 = .ok (.aload_n 0, 1) := by decide +kernel
theorem dX1_takePart_7 : decode cX1_takePart 7 = .ok (.invokevirtual 57, 3) := by decide +kernel
theorem dX1_takePart_10 : decode cX1_takePart 10 = .ok (.ireturn, 1) := by decide +kernel
theorem dX1_takePart_11 : decode cX1_takePart 11 = .ok (.iload_n 1, 1) := by decide +kernel
theorem dX1_takePart_12 : decode cX1_takePart 12 = .ok (.bipush 65, 2) := by decide +kernel
theorem dX1_takePart_14 : decode cX1_takePart 14 = .ok (.if_icmp .lt 9, 3) := by decide +kernel
theorem dX1_takePart_17 : decode cX1_takePart 17 = .ok (.iload_n 1, 1) := by decide +kernel
theorem dX1_takePart_18 : decode cX1_takePart 18 = .ok (.bipush 73, 2) := by decide +kernel
theorem dX1_takePart_20 : decode cX1_takePart 20 = .ok (.if_icmp .lt 5, 3) := by decide +kernel
theorem dX1_takePart_23 : decode cX1_takePart 23 = .ok (.iconst 0, 1) := by decide +kernel
theorem dX1_takePart_24 : decode cX1_takePart 24 = .ok (.ireturn, 1) := by decide +kernel
theorem dX1_takePart_25 : decode cX1_takePart 25 = .ok (.aload_n 0, 1) := by decide +kernel
theorem dX1_takePart_26 : decode cX1_takePart 26 = .ok (.iload_n 1, 1) := by decide +kernel
theorem dX1_takePart_27 : decode cX1_takePart 27 = .ok (.bipush 65, 2) := by decide +kernel
theorem dX1_takePart_29 : decode cX1_takePart 29 = .ok (.isub, 1) := by decide +kernel
theorem dX1_takePart_30 : decode cX1_takePart 30 = .ok (.putfield 28, 3) := by decide +kernel
theorem dX1_takePart_33 : decode cX1_takePart 33 = .ok (.aload_n 0, 1) := by decide +kernel
theorem dX1_takePart_34 : decode cX1_takePart 34 = .ok (.getfield 12, 3) := by decide +kernel
theorem dX1_takePart_37 : decode cX1_takePart 37 = .ok (.aload_n 0, 1) := by decide +kernel
theorem dX1_takePart_38 : decode cX1_takePart 38 = .ok (.getfield 25, 3) := by decide +kernel
theorem dX1_takePart_41 : decode cX1_takePart 41 = .ok (.bipush 6, 2) := by decide +kernel
theorem dX1_takePart_43 : decode cX1_takePart 43 = .ok (.invokevirtual 73, 3) := by decide +kernel
theorem dX1_takePart_46 : decode cX1_takePart 46 = .ok (.istore_n 2, 1) := by decide +kernel
theorem dX1_takePart_47 : decode cX1_takePart 47 = .ok (.iconst 1, 1) := by decide +kernel
theorem dX1_takePart_48 : decode cX1_takePart 48 = .ok (.aload_n 0, 1) := by decide +kernel
theorem dX1_takePart_49 : decode cX1_takePart 49 = .ok (.getfield 28, 3) := by decide +kernel
theorem dX1_takePart_52 : decode cX1_takePart 52 = .ok (.ishl, 1) := by decide +kernel
theorem dX1_takePart_53 : decode cX1_takePart 53 = .ok (.istore_n 3, 1) := by decide +kernel
theorem dX1_takePart_54 : decode cX1_takePart 54 = .ok (.aload_n 0, 1) := by decide +kernel
theorem dX1_takePart_55 : decode cX1_takePart 55 = .ok (.getfield 12, 3) := by decide +kernel
theorem dX1_takePart_58 : decode cX1_takePart 58 = .ok (.aload_n 0, 1) := by decide +kernel
theorem dX1_takePart_59 : decode cX1_takePart 59 = .ok (.getfield 25, 3) := by decide +kernel
theorem dX1_takePart_62 : decode cX1_takePart 62 = .ok (.bipush 6, 2) := by decide +kernel
theorem dX1_takePart_64 : decode cX1_takePart 64 = .ok (.iload_n 2, 1) := by decide +kernel
theorem dX1_takePart_65 : decode cX1_takePart 65 = .ok (.iload_n 3, 1) := by decide +kernel
theorem dX1_takePart_66 : decode cX1_takePart 66 = .ok (.ior, 1) := by decide +kernel
theorem dX1_takePart_67 : decode cX1_takePart 67 = .ok (.invokevirtual 77, 3) := by decide +kernel
theorem dX1_takePart_70 : decode cX1_takePart 70 = .ok (.aload_n 0, 1) := by decide +kernel
theorem dX1_takePart_71 : decode cX1_takePart 71 = .ok (.iconst 2, 1) := by decide +kernel
theorem dX1_takePart_72 : decode cX1_takePart 72 = .ok (.putfield 21, 3) := by decide +kernel
theorem dX1_takePart_75 : decode cX1_takePart 75 = .ok (.iload_n 2, 1) := by decide +kernel
theorem dX1_takePart_76 : decode cX1_takePart 76 = .ok (.iload_n 3, 1) := by decide +kernel
theorem dX1_takePart_77 : decode cX1_takePart 77 = .ok (.iand, 1) := by decide +kernel
theorem dX1_takePart_78 : decode cX1_takePart 78 = .ok (.ifCond .ne 7, 3) := by decide +kernel
theorem dX1_takePart_81 : decode cX1_takePart 81 = .ok (.iconst 1, 1) := by decide +kernel
theorem dX1_takePart_82 : decode cX1_takePart 82 = .ok (.goto 4, 3) := by decide +kernel
theorem dX1_takePart_85 : decode cX1_takePart 85 = .ok (.iconst 0, 1) := by decide +kernel
theorem dX1_takePart_86 : decode cX1_takePart 86 = .ok (.ireturn, 1) := by decide +kernel
theorem dX1_takeComma_0 : decode cX1_takeComma 0 = .ok (.aload_n 0, 1) := by decide +kernel
theorem dX1_takeComma_1 : decode cX1_takeComma 1 = .ok (.iconst 2, 1) := by decide +kernel
theorem dX1_takeComma_2 : decode cX1_takeComma 2 = .ok (.putfield 21, 3) := by decide +kernel
theorem dX1_takeComma_5 : decode cX1_takeComma 5 = .ok (.iload_n 1, 1) := by decide +kernel
theorem dX1_takeComma_6 : decode cX1_takeComma 6 = .ok (.bipush 44, 2) := by decide +kernel
theorem dX1_takeComma_8 : decode cX1_takeComma 8 = .ok (.if_icmp .ne 7, 3) := by decide +kernel
theorem dX1_takeComma_11 : decode cX1_takeComma 11 = .ok (.iconst 1, 1) := by decide +kernel
theorem dX1_takeComma_12 : decode cX1_takeComma 12 = .ok (.goto 4, 3) := by decide +kernel
theorem dX1_takeComma_15 : decode cX1_takeComma 15 = .ok (.iconst 0, 1) := by decide +kernel
theorem dX1_takeComma_16 : decode cX1_takeComma 16 = .ok (.ireturn, 1) := by decide +kernel
theorem dX1_takeValue_0 : decode cX1_takeValue 0 = .ok (.iload_n 1, 1) := by decide +kernel
theorem dX1_takeValue_1 : decode cX1_takeValue 1 = .ok (.invokestatic 81, 3) := by decide +kernel
theorem dX1_takeValue_4 : decode cX1_takeValue 4 = .ok (.istore_n 2, 1) := by decide +kernel
theorem dX1_takeValue_5 : decode cX1_takeValue 5 = .ok (.iload_n 2, 1) := by decide +kernel
theorem dX1_takeValue_6 : decode cX1_takeValue 6 = .ok (.iconst 5, 1) := by decide +kernel
theorem dX1_takeValue_7 : decode cX1_takeValue 7 = .ok (.if_icmp .eq 9, 3) := by decide +kernel
theorem dX1_takeValue_10 : decode cX1_takeValue 10 = .ok (.iload_n 2, 1) := by decide +kernel
theorem dX1_takeValue_11 : decode cX1_takeValue 11 = .ok (.bipush 6, 2) := by decide +kernel
theorem dX1_takeValue_13 : decode cX1_takeValue 13 = .ok (.if_icmp .ne 7, 3) := by decide +kernel
theorem dX1_takeValue_16 : decode cX1_takeValue 16 = .ok (.iconst 1, 1) := by decide +kernel
theorem dX1_takeValue_17 : decode cX1_takeValue 17 = .ok (.goto 4, 3) := by decide +kernel
theorem dX1_takeValue_20 : decode cX1_takeValue 20 = .ok (.iconst 0, 1) := by decide +kernel
theorem dX1_takeValue_21 : decode cX1_takeValue 21 = .ok (.istore_n 3, 1) := by decide +kernel
theorem dX1_takeValue_22 : decode cX1_takeValue 22 = .ok (.iload_n 2, 1) := by decide +kernel
theorem dX1_takeValue_23 : decode cX1_takeValue 23 = .ok (.iconst (-1), 1) := by decide +kernel
theorem dX1_takeValue_24 : decode cX1_takeValue 24 = .ok (.if_icmp .eq 15, 3) := by decide +kernel
theorem dX1_takeValue_27 : decode cX1_takeValue 27 = .ok (.iload_n 3, 1) := by decide +kernel
theorem dX1_takeValue_28 : decode cX1_takeValue 28 = .ok (.ifCond .eq 13, 3) := by decide +kernel
theorem dX1_takeValue_31 : decode cX1_takeValue 31 = .ok (.aload_n 0, 1) := by decide +kernel
theorem dX1_takeValue_32 : decode cX1_takeValue 32 = .ok (.invokevirtual 85, 3) := by decide +kernel
theorem dX1_takeValue_35 : decode cX1_takeValue 35 = .ok (.iconst 4, 1) := by decide +kernel
theorem dX1_takeValue_36 : decode cX1_takeValue 36 = .ok (.if_icmp .lt 5, 3) := by decide +kernel
theorem dX1_takeValue_39 : decode cX1_takeValue 39 = .ok (.iconst 0, 1) := by decide +kernel
theorem dX1_takeValue_40 : decode cX1_takeValue 40 = .ok (.ireturn, 1) := by decide +kernel
theorem dX1_takeValue_41 : decode cX1_takeValue 41 = .ok (.aload_n 0, 1) := by decide +kernel
theorem dX1_takeValue_42 : decode cX1_takeValue 42 = .ok (.getfield 12, 3) := by decide +kernel
theorem dX1_takeValue_45 : decode cX1_takeValue 45 = .ok (.aload_n 0, 1) := by decide +kernel
theorem dX1_takeValue_46 : decode cX1_takeValue 46 = .ok (.getfield 25, 3) := by decide +kernel
theorem dX1_takeValue_49 : decode cX1_takeValue 49 = .ok (.iconst 0, 1) := by decide +kernel
theorem dX1_takeValue_50 : decode cX1_takeValue 50 = .ok (.invokevirtual 73, 3) := by decide +kernel
theorem dX1_takeValue_53 : decode cX1_takeValue 53 = .ok (.iconst 5, 1) := by decide +kernel
theorem dX1_takeValue_54 : decode cX1_takeValue 54 = .ok (.if_icmp .ne 7, 3) := by decide +kernel
theorem dX1_takeValue_57 : decode cX1_takeValue 57 = .ok (.iconst 1, 1) := by decide +kernel
theorem dX1_takeValue_58 : decode cX1_takeValue 58 = .ok (.goto 4, 3) := by decide +kernel
theorem dX1_takeValue_61 : decode cX1_takeValue 61 = .ok (.iconst 0, 1) := by decide +kernel
theorem dX1_takeValue_62 : decode cX1_takeValue 62 = .ok (.istore 4, 2) := by decide +kernel
theorem dX1_takeValue_64 : decode cX1_takeValue 64 = .ok (.aload_n 0, 1) := by decide +kernel
theorem dX1_takeValue_65 : decode cX1_takeValue 65 = .ok (.getfield 12, 3) := by decide +kernel
theorem dX1_takeValue_68 : decode cX1_takeValue 68 = .ok (.iload 4, 2) := by decide +kernel
theorem dX1_takeValue_70 : decode cX1_takeValue 70 = .ok (.ifCond .eq 8, 3) := by decide +kernel
theorem dX1_takeValue_73 : decode cX1_takeValue 73 = .ok (.bipush 8, 2) := by decide +kernel
theorem dX1_takeValue_75 : decode cX1_takeValue 75 = .ok (.goto 7, 3) := by decide +kernel
theorem dX1_takeValue_78 : decode cX1_takeValue 78 = .ok (.aload_n 0, 1) := by decide +kernel
theorem dX1_takeValue_79 : decode cX1_takeValue 79 = .ok (.getfield 28, 3) := by decide +kernel
theorem dX1_takeValue_82 : decode cX1_takeValue 82 = .ok (.aload_n 0, 1) := by decide +kernel
theorem dX1_takeValue_83 : decode cX1_takeValue 83 = .ok (.invokevirtual 85, 3) := by decide +kernel
theorem dX1_takeValue_86 : decode cX1_takeValue 86 = .ok (.invokevirtual 88, 3) := by decide +kernel
theorem dX1_takeValue_89 : decode cX1_takeValue 89 = .ok (.istore 5, 2) := by decide +kernel
theorem dX1_takeValue_91 : decode cX1_takeValue 91 = .ok (.aload_n 0, 1) := by decide +kernel
theorem dX1_takeValue_92 : decode cX1_takeValue 92 = .ok (.getfield 12, 3) := by decide +kernel
theorem dX1_takeValue_95 : decode cX1_takeValue 95 = .ok (.iload 5, 2) := by decide +kernel
theorem dX1_takeValue_97 : decode cX1_takeValue 97 = .ok (.iconst 0, 1) := by decide +kernel
theorem dX1_takeValue_98 : decode cX1_takeValue 98 = .ok (.iload_n 2, 1) := by decide +kernel
theorem dX1_takeValue_99 : decode cX1_takeValue 99 = .ok (.invokevirtual 77, 3) := by decide +kernel
theorem dX1_takeValue_102 : decode cX1_takeValue 102 = .ok (.aload_n 0, 1) := by decide +kernel
theorem dX1_takeValue_103 : decode cX1_takeValue 103 = .ok (.getfield 12, 3) := by decide +kernel
theorem dX1_takeValue_106 : decode cX1_takeValue 106 = .ok (.iload 5, 2) := by decide +kernel
theorem dX1_takeValue_108 : decode cX1_takeValue 108 = .ok (.iconst 3, 1) := by decide +kernel
theorem dX1_takeValue_109 : decode cX1_takeValue 109 = .ok (.aload_n 0, 1) := by decide +kernel
theorem dX1_takeValue_110 : decode cX1_takeValue 110 = .ok (.getfield 37, 3) := by decide +kernel
theorem dX1_takeValue_113 : decode cX1_takeValue 113 = .ok (.invokevirtual 77, 3) := by decide +kernel
theorem dX1_takeValue_116 : decode cX1_takeValue 116 = .ok (.aload_n 0, 1) := by decide +kernel
theorem dX1_takeValue_117 : decode cX1_takeValue 117 = .ok (.getfield 12, 3) := by decide +kernel
theorem dX1_takeValue_120 : decode cX1_takeValue 120 = .ok (.iload 5, 2) := by decide +kernel
theorem dX1_takeValue_122 : decode cX1_takeValue 122 = .ok (.iconst 5, 1) := by decide +kernel
theorem dX1_takeValue_123 : decode cX1_takeValue 123 = .ok (.aload_n 0, 1) := by decide +kernel
theorem dX1_takeValue_124 : decode cX1_takeValue 124 = .ok (.getfield 25, 3) := by decide +kernel
theorem dX1_takeValue_127 : decode cX1_takeValue 127 = .ok (.invokevirtual 77, 3) := by decide +kernel
theorem dX1_takeValue_130 : decode cX1_takeValue 130 = .ok (.aload_n 0, 1) := by decide +kernel
theorem dX1_takeValue_131 : decode cX1_takeValue 131 = .ok (.iload_n 3, 1) := by decide +kernel
theorem dX1_takeValue_132 : decode cX1_takeValue 132 = .ok (.ifCond .eq 8, 3) := by decide +kernel
theorem dX1_takeValue_135 : decode cX1_takeValue 135 = .ok (.iload 5, 2) := by decide +kernel
theorem dX1_takeValue_137 : decode cX1_takeValue 137 = .ok (.goto 7, 3) := by decide +kernel
theorem dX1_takeValue_140 : decode cX1_takeValue 140 = .ok (.aload_n 0, 1) := by decide +kernel
theorem dX1_takeValue_141 : decode cX1_takeValue 141 = .ok (.getfield 25, 3) := by decide +kernel
theorem dX1_takeValue_144 : decode cX1_takeValue 144 = .ok (.putfield 25, 3) := by decide +kernel
theorem dX1_takeValue_147 : decode cX1_takeValue 147 = .ok (.aload_n 0, 1) := by decide +kernel
theorem dX1_takeValue_148 : decode cX1_takeValue 148 = .ok (.iload_n 2, 1) := by decide +kernel
theorem dX1_takeValue_149 : decode cX1_takeValue 149 = .ok (.iconst 2, 1) := by decide +kernel
theorem dX1_takeValue_150 : decode cX1_takeValue 150 = .ok (.if_icmp .ne 7, 3) := by decide +kernel
theorem dX1_takeValue_153 : decode cX1_takeValue 153 = .ok (.iconst 1, 1) := by decide +kernel
theorem dX1_takeValue_154 : decode cX1_takeValue 154 = .ok (.goto 4, 3) := by decide +kernel
theorem dX1_takeValue_157 : decode cX1_takeValue 157 = .ok (.iconst 0, 1) := by decide +kernel
theorem dX1_takeValue_158 : decode cX1_takeValue 158 = .ok (.putfield 31, 3) := by decide +kernel
theorem dX1_takeValue_161 : decode cX1_takeValue 161 = .ok (.aload_n 0, 1) := by decide +kernel
theorem dX1_takeValue_162 : decode cX1_takeValue 162 = .ok (.aload_n 0, 1) := by decide +kernel
theorem dX1_takeValue_163 : decode cX1_takeValue 163 = .ok (.iload_n 2, 1) := by decide +kernel
theorem dX1_takeValue_164 : decode cX1_takeValue 164 = .ok (.iload_n 1, 1) := by decide +kernel
theorem dX1_takeValue_165 : decode cX1_takeValue 165 = .ok (.invokevirtual 91, 3) := by decide +kernel
theorem dX1_takeValue_168 : decode cX1_takeValue 168 = .ok (.putfield 21, 3) := by decide +kernel
theorem dX1_takeValue_171 : decode cX1_takeValue 171 = .ok (.iconst 1, 1) := by decide +kernel
theorem dX1_takeValue_172 : decode cX1_takeValue 172 = .ok (.ireturn, 1) := by decide +kernel
theorem dX1_stateInValue_0 : decode cX1_stateInValue 0 = .ok (.iload_n 1, 1) := by decide +kernel
theorem dX1_stateInValue_1 : decode cX1_stateInValue 1 = .ok (.tableswitch 66 2 6 #[42, 66, 39, 37, 35], 35) := by decide +kernel
theorem dX1_stateInValue_36 : decode cX1_stateInValue 36 = .ok (.iconst 1, 1) := by decide +kernel
theorem dX1_stateInValue_37 : decode cX1_stateInValue 37 = .ok (.ireturn, 1) := by decide +kernel
theorem dX1_stateInValue_38 : decode cX1_stateInValue 38 = .ok (.iconst 3, 1) := by decide +kernel
theorem dX1_stateInValue_39 : decode cX1_stateInValue 39 = .ok (.ireturn, 1) := by decide +kernel
theorem dX1_stateInValue_40 : decode cX1_stateInValue 40 = .ok (.bipush 11, 2) := by decide +kernel
theorem dX1_stateInValue_42 : decode cX1_stateInValue 42 = .ok (.ireturn, 1) := by decide +kernel
theorem dX1_stateInValue_43 : decode cX1_stateInValue 43 = .ok (.iload_n 2, 1) := by decide +kernel
theorem dX1_stateInValue_44 : decode cX1_stateInValue 44 = .ok (.bipush 45, 2) := by decide +kernel
theorem dX1_stateInValue_46 : decode cX1_stateInValue 46 = .ok (.if_icmp .ne 7, 3) := by decide +kernel
theorem dX1_stateInValue_49 : decode cX1_stateInValue 49 = .ok (.iconst 5, 1) := by decide +kernel
theorem dX1_stateInValue_50 : decode cX1_stateInValue 50 = .ok (.goto 16, 3) := by decide +kernel
theorem dX1_stateInValue_53 : decode cX1_stateInValue 53 = .ok (.iload_n 2, 1) := by decide +kernel
theorem dX1_stateInValue_54 : decode cX1_stateInValue 54 = .ok (.bipush 48, 2) := by decide +kernel
theorem dX1_stateInValue_56 : decode cX1_stateInValue 56 = .ok (.if_icmp .ne 8, 3) := by decide +kernel
theorem dX1_stateInValue_59 : decode cX1_stateInValue 59 = .ok (.bipush 7, 2) := by decide +kernel
theorem dX1_stateInValue_61 : decode cX1_stateInValue 61 = .ok (.goto 5, 3) := by decide +kernel
theorem dX1_stateInValue_64 : decode cX1_stateInValue 64 = .ok (.bipush 8, 2) := by decide +kernel
theorem dX1_stateInValue_66 : decode cX1_stateInValue 66 = .ok (.ireturn, 1) := by decide +kernel
theorem dX1_stateInValue_67 : decode cX1_stateInValue 67 = .ok (.aload_n 0, 1) := by decide +kernel
theorem dX1_stateInValue_68 : decode cX1_stateInValue 68 = .ok (.invokevirtual 47, 3) := by decide +kernel
theorem dX1_stateInValue_71 : decode cX1_stateInValue 71 = .ok (.ireturn, 1) := by decide +kernel
theorem dX1_kindAt_0 : decode cX1_kindAt 0 = .ok (.iload_n 0, 1) := by decide +kernel
theorem dX1_kindAt_1 : decode cX1_kindAt 1 = .ok (.lookupswitch 72 #[(39, 64), (40, 59), (91, 62), (102, 70), (110, 66), (116, 68)], 59) := by decide +kernel
theorem dX1_kindAt_60 : decode cX1_kindAt 60 = .ok (.bipush 6, 2) := by decide +kernel
theorem dX1_kindAt_62 : decode cX1_kindAt 62 = .ok (.ireturn, 1) := by decide +kernel
theorem dX1_kindAt_63 : decode cX1_kindAt 63 = .ok (.iconst 5, 1) := by decide +kernel
theorem dX1_kindAt_64 : decode cX1_kindAt 64 = .ok (.ireturn, 1) := by decide +kernel
theorem dX1_kindAt_65 : decode cX1_kindAt 65 = .ok (.iconst 4, 1) := by decide +kernel
theorem dX1_kindAt_66 : decode cX1_kindAt 66 = .ok (.ireturn, 1) := by decide +kernel
theorem dX1_kindAt_67 : decode cX1_kindAt 67 = .ok (.iconst 0, 1) := by decide +kernel
theorem dX1_kindAt_68 : decode cX1_kindAt 68 = .ok (.ireturn, 1) := by decide +kernel
theorem dX1_kindAt_69 : decode cX1_kindAt 69 = .ok (.iconst 1, 1) := by decide +kernel
theorem dX1_kindAt_70 : decode cX1_kindAt 70 = .ok (.ireturn, 1) := by decide +kernel
theorem dX1_kindAt_71 : decode cX1_kindAt 71 = .ok (.iconst 1, 1) := by decide +kernel
theorem dX1_kindAt_72 : decode cX1_kindAt 72 = .ok (.ireturn, 1) := by decide +kernel
theorem dX1_kindAt_73 : decode cX1_kindAt 73 = .ok (.iload_n 0, 1) := by decide +kernel
theorem dX1_kindAt_74 : decode cX1_kindAt 74 = .ok (.bipush 45, 2) := by decide +kernel
theorem dX1_kindAt_76 : decode cX1_kindAt 76 = .ok (.if_icmp .eq 10, 3) := by decide +kernel
theorem dX1_kindAt_79 : decode cX1_kindAt 79 = .ok (.iload_n 0, 1) := by decide +kernel
theorem dX1_kindAt_80 : decode cX1_kindAt 80 = .ok (.invokestatic 70, 3) := by decide +kernel
theorem dX1_kindAt_83 : decode cX1_kindAt 83 = .ok (.ifCond .eq 7, 3) := by decide +kernel
theorem dX1_kindAt_86 : decode cX1_kindAt 86 = .ok (.iconst 2, 1) := by decide +kernel
theorem dX1_kindAt_87 : decode cX1_kindAt 87 = .ok (.goto 4, 3) := by decide +kernel
theorem dX1_kindAt_90 : decode cX1_kindAt 90 = .ok (.iconst (-1), 1) := by decide +kernel
theorem dX1_kindAt_91 : decode cX1_kindAt 91 = .ok (.ireturn, 1) := by decide +kernel
theorem dX1_isDigit_0 : decode cX1_isDigit 0 = .ok (.iload_n 0, 1) := by decide +kernel
theorem dX1_isDigit_1 : decode cX1_isDigit 1 = .ok (.bipush 48, 2) := by decide +kernel
theorem dX1_isDigit_3 : decode cX1_isDigit 3 = .ok (.if_icmp .lt 13, 3) := by decide +kernel
theorem dX1_isDigit_6 : decode cX1_isDigit 6 = .ok (.iload_n 0, 1) := by decide +kernel
theorem dX1_isDigit_7 : decode cX1_isDigit 7 = .ok (.bipush 57, 2) := by decide +kernel
theorem dX1_isDigit_9 : decode cX1_isDigit 9 = .ok (.if_icmp .gt 7, 3) := by decide +kernel
theorem dX1_isDigit_12 : decode cX1_isDigit 12 = .ok (.iconst 1, 1) := by decide +kernel
theorem dX1_isDigit_13 : decode cX1_isDigit 13 = .ok (.goto 4, 3) := by decide +kernel
theorem dX1_isDigit_16 : decode cX1_isDigit 16 = .ok (.iconst 0, 1) := by decide +kernel
theorem dX1_isDigit_17 : decode cX1_isDigit 17 = .ok (.ireturn, 1) := by decide +kernel
theorem dX1_takeInWord_0 : decode cX1_takeInWord 0 = .ok (.iload_n 1, 1) := by decide +kernel
theorem dX1_takeInWord_1 : decode cX1_takeInWord 1 = .ok (.bipush 39, 2) := by decide +kernel
theorem dX1_takeInWord_3 : decode cX1_takeInWord 3 = .ok (.if_icmp .ne 20, 3) := by decide +kernel
theorem dX1_takeInWord_6 : decode cX1_takeInWord 6 = .ok (.aload_n 0, 1) := by decide +kernel
theorem dX1_takeInWord_7 : decode cX1_takeInWord 7 = .ok (.getfield 31, 3) := by decide +kernel
theorem dX1_takeInWord_10 : decode cX1_takeInWord 10 = .ok (.ifCond .le 13, 3) := by decide +kernel
theorem dX1_takeInWord_13 : decode cX1_takeInWord 13 = .ok (.aload_n 0, 1) := by decide +kernel
theorem dX1_takeInWord_14 : decode cX1_takeInWord 14 = .ok (.aload_n 0, 1) := by decide +kernel
theorem dX1_takeInWord_15 : decode cX1_takeInWord 15 = .ok (.invokevirtual 47, 3) := by decide +kernel
theorem dX1_takeInWord_18 : decode cX1_takeInWord 18 = .ok (.putfield 21, 3) := by decide +kernel
theorem dX1_takeInWord_21 : decode cX1_takeInWord 21 = .ok (.iconst 1, 1) := by decide +kernel
theorem dX1_takeInWord_22 : decode cX1_takeInWord 22 = .ok (.ireturn, 1) := by decide +kernel
theorem dX1_takeInWord_23 : decode cX1_takeInWord 23 = .ok (.aload_n 0, 1) := by decide +kernel
theorem dX1_takeInWord_24 : decode cX1_takeInWord 24 = .ok (.dup, 1) := by decide +kernel
theorem dX1_takeInWord_25 : decode cX1_takeInWord 25 = .ok (.getfield 31, 3) := by decide +kernel
theorem dX1_takeInWord_28 : decode cX1_takeInWord 28 = .ok (.iconst 1, 1) := by decide +kernel
theorem dX1_takeInWord_29 : decode cX1_takeInWord 29 = .ok (.iadd, 1) := by decide +kernel
theorem dX1_takeInWord_30 : decode cX1_takeInWord 30 = .ok (.putfield 31, 3) := by decide +kernel
theorem dX1_takeInWord_33 : decode cX1_takeInWord 33 = .ok (.aload_n 0, 1) := by decide +kernel
theorem dX1_takeInWord_34 : decode cX1_takeInWord 34 = .ok (.getfield 31, 3) := by decide +kernel
theorem dX1_takeInWord_37 : decode cX1_takeInWord 37 = .ok (.iconst 5, 1) := by decide +kernel
theorem dX1_takeInWord_38 : decode cX1_takeInWord 38 = .ok (.if_icmp .gt 19, 3) := by decide +kernel
theorem dX1_takeInWord_41 : decode cX1_takeInWord 41 = .ok (.iload_n 1, 1) := by decide +kernel
theorem dX1_takeInWord_42 : decode cX1_takeInWord 42 = .ok (.bipush 97, 2) := by decide +kernel
theorem dX1_takeInWord_44 : decode cX1_takeInWord 44 = .ok (.if_icmp .lt 13, 3) := by decide +kernel
theorem dX1_takeInWord_47 : decode cX1_takeInWord 47 = .ok (.iload_n 1, 1) := by decide +kernel
theorem dX1_takeInWord_48 : decode cX1_takeInWord 48 = .ok (.bipush 122, 2) := by decide +kernel
theorem dX1_takeInWord_50 : decode cX1_takeInWord 50 = .ok (.if_icmp .gt 7, 3) := by decide +kernel
theorem dX1_takeInWord_53 : decode cX1_takeInWord 53 = .ok (.iconst 1, 1) := by decide +kernel
theorem dX1_takeInWord_54 : decode cX1_takeInWord 54 = .ok (.goto 4, 3) := by decide +kernel
theorem dX1_takeInWord_57 : decode cX1_takeInWord 57 = .ok (.iconst 0, 1) := by decide +kernel
theorem dX1_takeInWord_58 : decode cX1_takeInWord 58 = .ok (.ireturn, 1) := by decide +kernel
theorem dX1_takeInNumber_0 : decode cX1_takeInNumber 0 = .ok (.iload_n 1, 1) := by decide +kernel
theorem dX1_takeInNumber_1 : decode cX1_takeInNumber 1 = .ok (.bipush 46, 2) := by decide +kernel
theorem dX1_takeInNumber_3 : decode cX1_takeInNumber 3 = .ok (.if_icmp .ne 8, 3) := by decide +kernel
theorem dX1_takeInNumber_6 : decode cX1_takeInNumber 6 = .ok (.aload_n 0, 1) := by decide +kernel
theorem dX1_takeInNumber_7 : decode cX1_takeInNumber 7 = .ok (.invokevirtual 94, 3) := by decide +kernel
theorem dX1_takeInNumber_10 : decode cX1_takeInNumber 10 = .ok (.ireturn, 1) := by decide +kernel
theorem dX1_takeInNumber_11 : decode cX1_takeInNumber 11 = .ok (.aload_n 0, 1) := by decide +kernel
theorem dX1_takeInNumber_12 : decode cX1_takeInNumber 12 = .ok (.getfield 21, 3) := by decide +kernel
theorem dX1_takeInNumber_15 : decode cX1_takeInNumber 15 = .ok (.tableswitch 132 5 10 #[37, 132, 132, 59, 90, 101], 37) := by decide +kernel
theorem dX1_takeInNumber_52 : decode cX1_takeInNumber 52 = .ok (.aload_n 0, 1) := by decide +kernel
theorem dX1_takeInNumber_53 : decode cX1_takeInNumber 53 = .ok (.iload_n 1, 1) := by decide +kernel
theorem dX1_takeInNumber_54 : decode cX1_takeInNumber 54 = .ok (.bipush 48, 2) := by decide +kernel
theorem dX1_takeInNumber_56 : decode cX1_takeInNumber 56 = .ok (.if_icmp .ne 8, 3) := by decide +kernel
theorem dX1_takeInNumber_59 : decode cX1_takeInNumber 59 = .ok (.bipush 6, 2) := by decide +kernel
theorem dX1_takeInNumber_61 : decode cX1_takeInNumber 61 = .ok (.goto 5, 3) := by decide +kernel
theorem dX1_takeInNumber_64 : decode cX1_takeInNumber 64 = .ok (.bipush 8, 2) := by decide +kernel
theorem dX1_takeInNumber_66 : decode cX1_takeInNumber 66 = .ok (.putfield 21, 3) := by decide +kernel
theorem dX1_takeInNumber_69 : decode cX1_takeInNumber 69 = .ok (.iload_n 1, 1) := by decide +kernel
theorem dX1_takeInNumber_70 : decode cX1_takeInNumber 70 = .ok (.invokestatic 70, 3) := by decide +kernel
theorem dX1_takeInNumber_73 : decode cX1_takeInNumber 73 = .ok (.ireturn, 1) := by decide +kernel
theorem dX1_takeInNumber_74 : decode cX1_takeInNumber 74 = .ok (.aload_n 0, 1) := by decide +kernel
theorem dX1_takeInNumber_75 : decode cX1_takeInNumber 75 = .ok (.dup, 1) := by decide +kernel
theorem dX1_takeInNumber_76 : decode cX1_takeInNumber 76 = .ok (.getfield 31, 3) := by decide +kernel
theorem dX1_takeInNumber_79 : decode cX1_takeInNumber 79 = .ok (.iconst 1, 1) := by decide +kernel
theorem dX1_takeInNumber_80 : decode cX1_takeInNumber 80 = .ok (.iadd, 1) := by decide +kernel
theorem dX1_takeInNumber_81 : decode cX1_takeInNumber 81 = .ok (.putfield 31, 3) := by decide +kernel
theorem dX1_takeInNumber_84 : decode cX1_takeInNumber 84 = .ok (.aload_n 0, 1) := by decide +kernel
theorem dX1_takeInNumber_85 : decode cX1_takeInNumber 85 = .ok (.getfield 31, 3) := by decide +kernel
theorem dX1_takeInNumber_88 : decode cX1_takeInNumber 88 = .ok (.iconst 4, 1) := by decide +kernel
theorem dX1_takeInNumber_89 : decode cX1_takeInNumber 89 = .ok (.if_icmp .gt 14, 3) := by decide +kernel
theorem dX1_takeInNumber_92 : decode cX1_takeInNumber 92 = .ok (.iload_n 1, 1) := by decide +kernel
theorem dX1_takeInNumber_93 : decode cX1_takeInNumber 93 = .ok (.invokestatic 70, 3) := by decide +kernel
theorem dX1_takeInNumber_96 : decode cX1_takeInNumber 96 = .ok (.ifCond .eq 7, 3) := by decide +kernel
theorem dX1_takeInNumber_99 : decode cX1_takeInNumber 99 = .ok (.iconst 1, 1) := by decide +kernel
theorem dX1_takeInNumber_100 : decode cX1_takeInNumber 100 = .ok (.goto 4, 3) := by decide +kernel
theorem dX1_takeInNumber_103 : decode cX1_takeInNumber 103 = .ok (.iconst 0, 1) := by decide +kernel
theorem dX1_takeInNumber_104 : decode cX1_takeInNumber 104 = .ok (.ireturn, 1) := by decide +kernel
theorem dX1_takeInNumber_105 : decode cX1_takeInNumber 105 = .ok (.aload_n 0, 1) := by decide +kernel
theorem dX1_takeInNumber_106 : decode cX1_takeInNumber 106 = .ok (.bipush 10, 2) := by decide +kernel
theorem dX1_takeInNumber_108 : decode cX1_takeInNumber 108 = .ok (.putfield 21, 3) := by decide +kernel
theorem dX1_takeInNumber_111 : decode cX1_takeInNumber 111 = .ok (.iload_n 1, 1) := by decide +kernel
theorem dX1_takeInNumber_112 : decode cX1_takeInNumber 112 = .ok (.invokestatic 70, 3) := by decide +kernel
theorem dX1_takeInNumber_115 : decode cX1_takeInNumber 115 = .ok (.ireturn, 1) := by decide +kernel
theorem dX1_takeInNumber_116 : decode cX1_takeInNumber 116 = .ok (.aload_n 0, 1) := by decide +kernel
theorem dX1_takeInNumber_117 : decode cX1_takeInNumber 117 = .ok (.dup, 1) := by decide +kernel
theorem dX1_takeInNumber_118 : decode cX1_takeInNumber 118 = .ok (.getfield 31, 3) := by decide +kernel
theorem dX1_takeInNumber_121 : decode cX1_takeInNumber 121 = .ok (.iconst 1, 1) := by decide +kernel
theorem dX1_takeInNumber_122 : decode cX1_takeInNumber 122 = .ok (.iadd, 1) := by decide +kernel
theorem dX1_takeInNumber_123 : decode cX1_takeInNumber 123 = .ok (.putfield 31, 3) := by decide +kernel
theorem dX1_takeInNumber_126 : decode cX1_takeInNumber 126 = .ok (.aload_n 0, 1) := by decide +kernel
theorem dX1_takeInNumber_127 : decode cX1_takeInNumber 127 = .ok (.getfield 31, 3) := by decide +kernel
theorem dX1_takeInNumber_130 : decode cX1_takeInNumber 130 = .ok (.iconst 2, 1) := by decide +kernel
theorem dX1_takeInNumber_131 : decode cX1_takeInNumber 131 = .ok (.if_icmp .gt 14, 3) := by decide +kernel
theorem dX1_takeInNumber_134 : decode cX1_takeInNumber 134 = .ok (.iload_n 1, 1) := by decide +kernel
theorem dX1_takeInNumber_135 : decode cX1_takeInNumber 135 = .ok (.invokestatic 70, 3) := by decide +kernel
theorem dX1_takeInNumber_138 : decode cX1_takeInNumber 138 = .ok (.ifCond .eq 7, 3) := by decide +kernel
theorem dX1_takeInNumber_141 : decode cX1_takeInNumber 141 = .ok (.iconst 1, 1) := by decide +kernel
theorem dX1_takeInNumber_142 : decode cX1_takeInNumber 142 = .ok (.goto 4, 3) := by decide +kernel
theorem dX1_takeInNumber_145 : decode cX1_takeInNumber 145 = .ok (.iconst 0, 1) := by decide +kernel
theorem dX1_takeInNumber_146 : decode cX1_takeInNumber 146 = .ok (.ireturn, 1) := by decide +kernel
theorem dX1_takeInNumber_147 : decode cX1_takeInNumber 147 = .ok (.iconst 0, 1) := by decide +kernel
theorem dX1_takeInNumber_148 : decode cX1_takeInNumber 148 = .ok (.ireturn, 1) := by decide +kernel
theorem dX1_takePoint_0 : decode cX1_takePoint 0 = .ok (.aload_n 0, 1) := by decide +kernel
theorem dX1_takePoint_1 : decode cX1_takePoint 1 = .ok (.getfield 21, 3) := by decide +kernel
theorem dX1_takePoint_4 : decode cX1_takePoint 4 = .ok (.bipush 6, 2) := by decide +kernel
theorem dX1_takePoint_6 : decode cX1_takePoint 6 = .ok (.if_icmp .eq 21, 3) := by decide +kernel
theorem dX1_takePoint_9 : decode cX1_takePoint 9 = .ok (.aload_n 0, 1) := by decide +kernel
theorem dX1_takePoint_10 : decode cX1_takePoint 10 = .ok (.getfield 21, 3) := by decide +kernel
theorem dX1_takePoint_13 : decode cX1_takePoint 13 = .ok (.bipush 7, 2) := by decide +kernel
theorem dX1_takePoint_15 : decode cX1_takePoint 15 = .ok (.if_icmp .eq 12, 3) := by decide +kernel
theorem dX1_takePoint_18 : decode cX1_takePoint 18 = .ok (.aload_n 0, 1) := by decide +kernel
theorem dX1_takePoint_19 : decode cX1_takePoint 19 = .ok (.getfield 21, 3) := by decide +kernel
theorem dX1_takePoint_22 : decode cX1_takePoint 22 = .ok (.bipush 8, 2) := by decide +kernel
theorem dX1_takePoint_24 : decode cX1_takePoint 24 = .ok (.if_icmp .ne 7, 3) := by decide +kernel
theorem dX1_takePoint_27 : decode cX1_takePoint 27 = .ok (.iconst 1, 1) := by decide +kernel
theorem dX1_takePoint_28 : decode cX1_takePoint 28 = .ok (.goto 4, 3) := by decide +kernel
theorem dX1_takePoint_31 : decode cX1_takePoint 31 = .ok (.iconst 0, 1) := by decide +kernel
theorem dX1_takePoint_32 : decode cX1_takePoint 32 = .ok (.istore_n 1, 1) := by decide +kernel
theorem dX1_takePoint_33 : decode cX1_takePoint 33 = .ok (.aload_n 0, 1) := by decide +kernel
theorem dX1_takePoint_34 : decode cX1_takePoint 34 = .ok (.getfield 12, 3) := by decide +kernel
theorem dX1_takePoint_37 : decode cX1_takePoint 37 = .ok (.aload_n 0, 1) := by decide +kernel
theorem dX1_takePoint_38 : decode cX1_takePoint 38 = .ok (.getfield 12, 3) := by decide +kernel
theorem dX1_takePoint_41 : decode cX1_takePoint 41 = .ok (.getfield 97, 3) := by decide +kernel
theorem dX1_takePoint_44 : decode cX1_takePoint 44 = .ok (.iconst 1, 1) := by decide +kernel
theorem dX1_takePoint_45 : decode cX1_takePoint 45 = .ok (.isub, 1) := by decide +kernel
theorem dX1_takePoint_46 : decode cX1_takePoint 46 = .ok (.iconst 0, 1) := by decide +kernel
theorem dX1_takePoint_47 : decode cX1_takePoint 47 = .ok (.iconst 3, 1) := by decide +kernel
theorem dX1_takePoint_48 : decode cX1_takePoint 48 = .ok (.invokevirtual 77, 3) := by decide +kernel
theorem dX1_takePoint_51 : decode cX1_takePoint 51 = .ok (.aload_n 0, 1) := by decide +kernel
theorem dX1_takePoint_52 : decode cX1_takePoint 52 = .ok (.bipush 9, 2) := by decide +kernel
theorem dX1_takePoint_54 : decode cX1_takePoint 54 = .ok (.putfield 21, 3) := by decide +kernel
theorem dX1_takePoint_57 : decode cX1_takePoint 57 = .ok (.aload_n 0, 1) := by decide +kernel
theorem dX1_takePoint_58 : decode cX1_takePoint 58 = .ok (.iconst 1, 1) := by decide +kernel
theorem dX1_takePoint_59 : decode cX1_takePoint 59 = .ok (.putfield 31, 3) := by decide +kernel
theorem dX1_takePoint_62 : decode cX1_takePoint 62 = .ok (.iload_n 1, 1) := by decide +kernel
theorem dX1_takePoint_63 : decode cX1_takePoint 63 = .ok (.ireturn, 1) := by decide +kernel
theorem dX1_stateBehindValue_0 : decode cX1_stateBehindValue 0 = .ok (.aload_n 0, 1) := by decide +kernel
theorem dX1_stateBehindValue_1 : decode cX1_stateBehindValue 1 = .ok (.getfield 25, 3) := by decide +kernel
theorem dX1_stateBehindValue_4 : decode cX1_stateBehindValue 4 = .ok (.iconst (-1), 1) := by decide +kernel
theorem dX1_stateBehindValue_5 : decode cX1_stateBehindValue 5 = .ok (.if_icmp .ne 6, 3) := by decide +kernel
theorem dX1_stateBehindValue_8 : decode cX1_stateBehindValue 8 = .ok (.bipush 12, 2) := by decide +kernel
theorem dX1_stateBehindValue_10 : decode cX1_stateBehindValue 10 = .ok (.ireturn, 1) := by decide +kernel
theorem dX1_stateBehindValue_11 : decode cX1_stateBehindValue 11 = .ok (.aload_n 0, 1) := by decide +kernel
theorem dX1_stateBehindValue_12 : decode cX1_stateBehindValue 12 = .ok (.getfield 12, 3) := by decide +kernel
theorem dX1_stateBehindValue_15 : decode cX1_stateBehindValue 15 = .ok (.aload_n 0, 1) := by decide +kernel
theorem dX1_stateBehindValue_16 : decode cX1_stateBehindValue 16 = .ok (.getfield 25, 3) := by decide +kernel
theorem dX1_stateBehindValue_19 : decode cX1_stateBehindValue 19 = .ok (.iconst 0, 1) := by decide +kernel
theorem dX1_stateBehindValue_20 : decode cX1_stateBehindValue 20 = .ok (.invokevirtual 73, 3) := by decide +kernel
theorem dX1_stateBehindValue_23 : decode cX1_stateBehindValue 23 = .ok (.bipush 6, 2) := by decide +kernel
theorem dX1_stateBehindValue_25 : decode cX1_stateBehindValue 25 = .ok (.if_icmp .ne 7, 3) := by decide +kernel
theorem dX1_stateBehindValue_28 : decode cX1_stateBehindValue 28 = .ok (.iconst 1, 1) := by decide +kernel
theorem dX1_stateBehindValue_29 : decode cX1_stateBehindValue 29 = .ok (.goto 4, 3) := by decide +kernel
theorem dX1_stateBehindValue_32 : decode cX1_stateBehindValue 32 = .ok (.iconst 4, 1) := by decide +kernel
theorem dX1_stateBehindValue_33 : decode cX1_stateBehindValue 33 = .ok (.ireturn, 1) := by decide +kernel
theorem dX1_closeValue_0 : decode cX1_closeValue 0 = .ok (.aload_n 0, 1) := by decide +kernel
theorem dX1_closeValue_1 : decode cX1_closeValue 1 = .ok (.getfield 12, 3) := by decide +kernel
theorem dX1_closeValue_4 : decode cX1_closeValue 4 = .ok (.aload_n 0, 1) := by decide +kernel
theorem dX1_closeValue_5 : decode cX1_closeValue 5 = .ok (.getfield 25, 3) := by decide +kernel
theorem dX1_closeValue_8 : decode cX1_closeValue 8 = .ok (.iconst 4, 1) := by decide +kernel
theorem dX1_closeValue_9 : decode cX1_closeValue 9 = .ok (.aload_n 0, 1) := by decide +kernel
theorem dX1_closeValue_10 : decode cX1_closeValue 10 = .ok (.getfield 37, 3) := by decide +kernel
theorem dX1_closeValue_13 : decode cX1_closeValue 13 = .ok (.invokevirtual 77, 3) := by decide +kernel
theorem dX1_closeValue_16 : decode cX1_closeValue 16 = .ok (.aload_n 0, 1) := by decide +kernel
theorem dX1_closeValue_17 : decode cX1_closeValue 17 = .ok (.aload_n 0, 1) := by decide +kernel
theorem dX1_closeValue_18 : decode cX1_closeValue 18 = .ok (.getfield 12, 3) := by decide +kernel
theorem dX1_closeValue_21 : decode cX1_closeValue 21 = .ok (.aload_n 0, 1) := by decide +kernel
theorem dX1_closeValue_22 : decode cX1_closeValue 22 = .ok (.getfield 25, 3) := by decide +kernel
theorem dX1_closeValue_25 : decode cX1_closeValue 25 = .ok (.iconst 5, 1) := by decide +kernel
theorem dX1_closeValue_26 : decode cX1_closeValue 26 = .ok (.invokevirtual 73, 3) := by decide +kernel
theorem dX1_closeValue_29 : decode cX1_closeValue 29 = .ok (.putfield 25, 3) := by decide +kernel
theorem dX1_closeValue_32 : decode cX1_closeValue 32 = .ok (.aload_n 0, 1) := by decide +kernel
theorem dX1_closeValue_33 : decode cX1_closeValue 33 = .ok (.aload_n 0, 1) := by decide +kernel
theorem dX1_closeValue_34 : decode cX1_closeValue 34 = .ok (.invokevirtual 47, 3) := by decide +kernel
theorem dX1_closeValue_37 : decode cX1_closeValue 37 = .ok (.putfield 21, 3) := by decide +kernel
theorem dX1_closeValue_40 : decode cX1_closeValue 40 = .ok (.iconst 1, 1) := by decide +kernel
theorem dX1_closeValue_41 : decode cX1_closeValue 41 = .ok (.ireturn, 1) := by decide +kernel
theorem dX1_depthOfNext_0 : decode cX1_depthOfNext 0 = .ok (.aload_n 0, 1) := by decide +kernel
theorem dX1_depthOfNext_1 : decode cX1_depthOfNext 1 = .ok (.getfield 25, 3) := by decide +kernel
theorem dX1_depthOfNext_4 : decode cX1_depthOfNext 4 = .ok (.iconst (-1), 1) := by decide +kernel
theorem dX1_depthOfNext_5 : decode cX1_depthOfNext 5 = .ok (.if_icmp .ne 7, 3) := by decide +kernel
theorem dX1_depthOfNext_8 : decode cX1_depthOfNext 8 = .ok (.iconst 0, 1) := by decide +kernel
theorem dX1_depthOfNext_9 : decode cX1_depthOfNext 9 = .ok (.goto 17, 3) := by decide +kernel
theorem dX1_depthOfNext_12 : decode cX1_depthOfNext 12 = .ok (.aload_n 0, 1) := by decide +kernel
theorem dX1_depthOfNext_13 : decode cX1_depthOfNext 13 = .ok (.getfield 12, 3) := by decide +kernel
theorem dX1_depthOfNext_16 : decode cX1_depthOfNext 16 = .ok (.aload_n 0, 1) := by decide +kernel
theorem dX1_depthOfNext_17 : decode cX1_depthOfNext 17 = .ok (.getfield 25, 3) := by decide +kernel
theorem dX1_depthOfNext_20 : decode cX1_depthOfNext 20 = .ok (.iconst 2, 1) := by decide +kernel
theorem dX1_depthOfNext_21 : decode cX1_depthOfNext 21 = .ok (.invokevirtual 73, 3) := by decide +kernel
theorem dX1_depthOfNext_24 : decode cX1_depthOfNext 24 = .ok (.iconst 1, 1) := by decide +kernel
theorem dX1_depthOfNext_25 : decode cX1_depthOfNext 25 = .ok (.iadd, 1) := by decide +kernel
theorem dX1_depthOfNext_26 : decode cX1_depthOfNext 26 = .ok (.ireturn, 1) := by decide +kernel
theorem dX2_init_0 : decode cX2_init 0 = .ok (.aload_n 0, 1) := by decide +kernel
theorem dX2_init_1 : decode cX2_init 1 = .ok (.invokespecial 1, 3) := by decide +kernel
theorem dX2_init_4 : decode cX2_init 4 = .ok (.aload_n 0, 1) := by decide +kernel
theorem dX2_init_5 : decode cX2_init 5 = .ok (.new 7, 3) := by decide +kernel
theorem dX2_init_8 : decode cX2_init 8 = .ok (.dup, 1) := by decide +kernel
theorem dX2_init_9 : decode cX2_init 9 = .ok (.invokespecial 9, 3) := by decide +kernel
theorem dX2_init_12 : decode cX2_init 12 = .ok (.putfield 10, 3) := by decide +kernel
theorem dX2_init_15 : decode cX2_init 15 = .ok (.aload_n 0, 1) := by decide +kernel
theorem dX2_init_16 : decode cX2_init 16 = .ok (.new 7, 3) := by decide +kernel
theorem dX2_init_19 : decode cX2_init 19 = .ok (.dup, 1) := by decide +kernel
theorem dX2_init_20 : decode cX2_init 20 = .ok (.invokespecial 9, 3) := by decide +kernel
theorem dX2_init_23 : decode cX2_init 23 = .ok (.putfield 16, 3) := by decide +kernel
theorem dX2_init_26 : decode cX2_init 26 = .ok (.return_, 1) := by decide +kernel
theorem dX2_tree_0 : decode cX2_tree 0 = .ok (.iload_n 1, 1) := by decide +kernel
theorem dX2_tree_1 : decode cX2_tree 1 = .ok (.ifCond .ne 10, 3) := by decide +kernel
theorem dX2_tree_4 : decode cX2_tree 4 = .ok (.aload_n 0, 1) := by decide +kernel
theorem dX2_tree_5 : decode cX2_tree 5 = .ok (.getfield 10, 3) := by decide +kernel
theorem dX2_tree_8 : decode cX2_tree 8 = .ok (.goto 7, 3) := by decide +kernel
theorem dX2_tree_11 : decode cX2_tree 11 = .ok (.aload_n 0, 1) := by decide +kernel
theorem dX2_tree_12 : decode cX2_tree 12 = .ok (.getfield 16, 3) := by decide +kernel
theorem dX2_tree_15 : decode cX2_tree 15 = .ok (.areturn, 1) := by decide +kernel
theorem dX2_copyFrom_0 : decode cX2_copyFrom 0 = .ok (.aload_n 0, 1) := by decide +kernel
theorem dX2_copyFrom_1 : decode cX2_copyFrom 1 = .ok (.getfield 10, 3) := by decide +kernel
theorem dX2_copyFrom_4 : decode cX2_copyFrom 4 = .ok (.aload_n 1, 1) := by decide +kernel
theorem dX2_copyFrom_5 : decode cX2_copyFrom 5 = .ok (.getfield 10, 3) := by decide +kernel
theorem dX2_copyFrom_8 : decode cX2_copyFrom 8 = .ok (.invokevirtual 19, 3) := by decide +kernel
theorem dX2_copyFrom_11 : decode cX2_copyFrom 11 = .ok (.aload_n 0, 1) := by decide +kernel
theorem dX2_copyFrom_12 : decode cX2_copyFrom 12 = .ok (.getfield 16, 3) := by decide +kernel
theorem dX2_copyFrom_15 : decode cX2_copyFrom 15 = .ok (.aload_n 1, 1) := by decide +kernel
theorem dX2_copyFrom_16 : decode cX2_copyFrom 16 = .ok (.getfield 16, 3) := by decide +kernel
theorem dX2_copyFrom_19 : decode cX2_copyFrom 19 = .ok (.invokevirtual 19, 3) := by decide +kernel
theorem dX2_copyFrom_22 : decode cX2_copyFrom 22 = .ok (.aload_n 0, 1) := by decide +kernel
theorem dX2_copyFrom_23 : decode cX2_copyFrom 23 = .ok (.aload_n 1, 1) := by decide +kernel
theorem dX2_copyFrom_24 : decode cX2_copyFrom 24 = .ok (.getfield 23, 3) := by decide +kernel
theorem dX2_copyFrom_27 : decode cX2_copyFrom 27 = .ok (.putfield 23, 3) := by decide +kernel
theorem dX2_copyFrom_30 : decode cX2_copyFrom 30 = .ok (.return_, 1) := by decide +kernel
theorem dX3_init_0 : decode cX3_init 0 = .ok (.aload_n 0, 1) := by decide +kernel
theorem dX3_init_1 : decode cX3_init 1 = .ok (.invokespecial 3, 3) := by decide +kernel
theorem dX3_init_4 : decode cX3_init 4 = .ok (.aload_n 0, 1) := by decide +kernel
theorem dX3_init_5 : decode cX3_init 5 = .ok (.sipush 576, 3) := by decide +kernel
theorem dX3_init_8 : decode cX3_init 8 = .ok (.newarray .int, 2) := by decide +kernel
theorem dX3_init_10 : decode cX3_init 10 = .ok (.putfield 11, 3) := by decide +kernel
theorem dX3_init_13 : decode cX3_init 13 = .ok (.return_, 1) := by decide +kernel
theorem dX3_has_0 : decode cX3_has 0 = .ok (.iload_n 1, 1) := by decide +kernel
theorem dX3_has_1 : decode cX3_has 1 = .ok (.ifCond .lt 15, 3) := by decide +kernel
theorem dX3_has_4 : decode cX3_has 4 = .ok (.iload_n 1, 1) := by decide +kernel
theorem dX3_has_5 : decode cX3_has 5 = .ok (.aload_n 0, 1) := by decide +kernel
theorem dX3_has_6 : decode cX3_has 6 = .ok (.getfield 15, 3) := by decide +kernel
theorem dX3_has_9 : decode cX3_has 9 = .ok (.if_icmp .ge 7, 3) := by decide +kernel
theorem dX3_has_12 : decode cX3_has 12 = .ok (.iconst 1, 1) := by decide +kernel
theorem dX3_has_13 : decode cX3_has 13 = .ok (.goto 4, 3) := by decide +kernel
theorem dX3_has_16 : decode cX3_has 16 = .ok (.iconst 0, 1) := by decide +kernel
theorem dX3_has_17 : decode cX3_has 17 = .ok (.ireturn, 1) := by decide +kernel
theorem dX3_get_0 : decode cX3_get 0 = .ok (.iload_n 1, 1) := by decide +kernel
theorem dX3_get_1 : decode cX3_get 1 = .ok (.bipush 9, 2) := by decide +kernel
theorem dX3_get_3 : decode cX3_get 3 = .ok (.imul, 1) := by decide +kernel
theorem dX3_get_4 : decode cX3_get 4 = .ok (.iload_n 2, 1) := by decide +kernel
theorem dX3_get_5 : decode cX3_get 5 = .ok (.iadd, 1) := by decide +kernel
theorem dX3_get_6 : decode cX3_get 6 = .ok (.istore_n 3, 1) := by decide +kernel
theorem dX3_get_7 : decode cX3_get 7 = .ok (.iload_n 1, 1) := by decide +kernel
theorem dX3_get_8 : decode cX3_get 8 = .ok (.ifCond .lt 28, 3) := by decide +kernel
theorem dX3_get_11 : decode cX3_get 11 = .ok (.iload_n 1, 1) := by decide +kernel
theorem dX3_get_12 : decode cX3_get 12 = .ok (.aload_n 0, 1) := by decide +kernel
theorem dX3_get_13 : decode cX3_get 13 = .ok (.getfield 15, 3) := by decide +kernel
theorem dX3_get_16 : decode cX3_get 16 = .ok (.if_icmp .ge 20, 3) := by decide +kernel
theorem dX3_get_19 : decode cX3_get 19 = .ok (.iload_n 3, 1) := by decide +kernel
theorem dX3_get_20 : decode cX3_get 20 = .ok (.ifCond .lt 16, 3) := by decide +kernel
theorem dX3_get_23 : decode cX3_get 23 = .ok (.iload_n 3, 1) := by decide +kernel
theorem dX3_get_24 : decode cX3_get 24 = .ok (.aload_n 0, 1) := by decide +kernel
theorem dX3_get_25 : decode cX3_get 25 = .ok (.getfield 11, 3) := by decide +kernel
theorem dX3_get_28 : decode cX3_get 28 = .ok (.arraylength, 1) := by decide +kernel
theorem dX3_get_29 : decode cX3_get 29 = .ok (.if_icmp .ge 7, 3) := by decide +kernel
theorem dX3_get_32 : decode cX3_get 32 = .ok (.iconst 1, 1) := by decide +kernel
theorem dX3_get_33 : decode cX3_get 33 = .ok (.goto 4, 3) := by decide +kernel
theorem dX3_get_36 : decode cX3_get 36 = .ok (.iconst 0, 1) := by decide +kernel
theorem dX3_get_37 : decode cX3_get 37 = .ok (.istore 4, 2) := by decide +kernel
theorem dX3_get_39 : decode cX3_get 39 = .ok (.iload 4, 2) := by decide +kernel
theorem dX3_get_41 : decode cX3_get 41 = .ok (.ifCond .eq 12, 3) := by decide +kernel
theorem dX3_get_44 : decode cX3_get 44 = .ok (.aload_n 0, 1) := by decide +kernel
theorem dX3_get_45 : decode cX3_get 45 = .ok (.getfield 11, 3) := by decide +kernel
theorem dX3_get_48 : decode cX3_get 48 = .ok (.iload_n 3, 1) := by decide +kernel
theorem dX3_get_49 : decode cX3_get 49 = .ok (.iaload, 1) := by decide +kernel
theorem dX3_get_50 : decode cX3_get 50 = .ok (.goto 4, 3) := by decide +kernel
theorem dX3_get_53 : decode cX3_get 53 = .ok (.iconst 0, 1) := by decide +kernel
theorem dX3_get_54 : decode cX3_get 54 = .ok (.ireturn, 1) := by decide +kernel
theorem dX3_put_0 : decode cX3_put 0 = .ok (.iload_n 1, 1) := by decide +kernel
theorem dX3_put_1 : decode cX3_put 1 = .ok (.bipush 9, 2) := by decide +kernel
theorem dX3_put_3 : decode cX3_put 3 = .ok (.imul, 1) := by decide +kernel
theorem dX3_put_4 : decode cX3_put 4 = .ok (.iload_n 2, 1) := by decide +kernel
theorem dX3_put_5 : decode cX3_put 5 = .ok (.iadd, 1) := by decide +kernel
theorem dX3_put_6 : decode cX3_put 6 = .ok (.istore 4, 2) := by decide +kernel
theorem dX3_put_8 : decode cX3_put 8 = .ok (.iload_n 1, 1) := by decide +kernel
theorem dX3_put_9 : decode cX3_put 9 = .ok (.ifCond .lt 34, 3) := by decide +kernel
theorem dX3_put_12 : decode cX3_put 12 = .ok (.iload_n 1, 1) := by decide +kernel
theorem dX3_put_13 : decode cX3_put 13 = .ok (.aload_n 0, 1) := by decide +kernel
theorem dX3_put_14 : decode cX3_put 14 = .ok (.getfield 15, 3) := by decide +kernel
theorem dX3_put_17 : decode cX3_put 17 = .ok (.if_icmp .ge 26, 3) := by decide +kernel
theorem dX3_put_20 : decode cX3_put 20 = .ok (.iload 4, 2) := by decide +kernel
theorem dX3_put_22 : decode cX3_put 22 = .ok (.ifCond .lt 21, 3) := by decide +kernel
theorem dX3_put_25 : decode cX3_put 25 = .ok (.iload 4, 2) := by decide +kernel
theorem dX3_put_27 : decode cX3_put 27 = .ok (.aload_n 0, 1) := by decide +kernel
theorem dX3_put_28 : decode cX3_put 28 = .ok (.getfield 11, 3) := by decide +kernel
theorem dX3_put_31 : decode cX3_put 31 = .ok (.arraylength, 1) := by decide +kernel
theorem dX3_put_32 : decode cX3_put 32 = .ok (.if_icmp .ge 11, 3) := by decide +kernel
theorem dX3_put_35 : decode cX3_put 35 = .ok (.aload_n 0, 1) := by decide +kernel
theorem dX3_put_36 : decode cX3_put 36 = .ok (.getfield 11, 3) := by decide +kernel
theorem dX3_put_39 : decode cX3_put 39 = .ok (.iload 4, 2) := by decide +kernel
theorem dX3_put_41 : decode cX3_put 41 = .ok (.iload_n 3, 1) := by decide +kernel
theorem dX3_put_42 : decode cX3_put 42 = .ok (.iastore, 1) := by decide +kernel
theorem dX3_put_43 : decode cX3_put 43 = .ok (.return_, 1) := by decide +kernel
theorem dX3_clear_0 : decode cX3_clear 0 = .ok (.aload_n 0, 1) := by decide +kernel
theorem dX3_clear_1 : decode cX3_clear 1 = .ok (.iconst 0, 1) := by decide +kernel
theorem dX3_clear_2 : decode cX3_clear 2 = .ok (.putfield 15, 3) := by decide +kernel
theorem dX3_clear_5 : decode cX3_clear 5 = .ok (.aload_n 0, 1) := by decide +kernel
theorem dX3_clear_6 : decode cX3_clear 6 = .ok (.iconst 0, 1) := by decide +kernel
theorem dX3_clear_7 : decode cX3_clear 7 = .ok (.putfield 19, 3) := by decide +kernel
theorem dX3_clear_10 : decode cX3_clear 10 = .ok (.return_, 1) := by decide +kernel
theorem dX3_copyFrom_0 : decode cX3_copyFrom 0 = .ok (.aload_n 1, 1) := by decide +kernel
theorem dX3_copyFrom_1 : decode cX3_copyFrom 1 = .ok (.getfield 11, 3) := by decide +kernel
theorem dX3_copyFrom_4 : decode cX3_copyFrom 4 = .ok (.iconst 0, 1) := by decide +kernel
theorem dX3_copyFrom_5 : decode cX3_copyFrom 5 = .ok (.aload_n 0, 1) := by decide +kernel
theorem dX3_copyFrom_6 : decode cX3_copyFrom 6 = .ok (.getfield 11, 3) := by decide +kernel
theorem dX3_copyFrom_9 : decode cX3_copyFrom 9 = .ok (.iconst 0, 1) := by decide +kernel
theorem dX3_copyFrom_10 : decode cX3_copyFrom 10 = .ok (.aload_n 1, 1) := by decide +kernel
theorem dX3_copyFrom_11 : decode cX3_copyFrom 11 = .ok (.getfield 15, 3) := by decide +kernel
theorem dX3_copyFrom_14 : decode cX3_copyFrom 14 = .ok (.invokestatic 22, 3) := by decide +kernel
theorem dX3_copyFrom_17 : decode cX3_copyFrom 17 = .ok (.aload_n 0, 1) := by decide +kernel
theorem dX3_copyFrom_18 : decode cX3_copyFrom 18 = .ok (.aload_n 1, 1) := by decide +kernel
theorem dX3_copyFrom_19 : decode cX3_copyFrom 19 = .ok (.getfield 15, 3) := by decide +kernel
theorem dX3_copyFrom_22 : decode cX3_copyFrom 22 = .ok (.putfield 15, 3) := by decide +kernel
theorem dX3_copyFrom_25 : decode cX3_copyFrom 25 = .ok (.aload_n 0, 1) := by decide +kernel
theorem dX3_copyFrom_26 : decode cX3_copyFrom 26 = .ok (.aload_n 1, 1) := by decide +kernel
theorem dX3_copyFrom_27 : decode cX3_copyFrom 27 = .ok (.getfield 19, 3) := by decide +kernel
theorem dX3_copyFrom_30 : decode cX3_copyFrom 30 = .ok (.putfield 19, 3) := by decide +kernel
theorem dX3_copyFrom_33 : decode cX3_copyFrom 33 = .ok (.return_, 1) := by decide +kernel
theorem dX3_moveCells_0 : decode cX3_moveCells 0 = .ok (.iload_n 1, 1) := by decide +kernel
theorem dX3_moveCells_1 : decode cX3_moveCells 1 = .ok (.bipush 9, 2) := by decide +kernel
theorem dX3_moveCells_3 : decode cX3_moveCells 3 = .ok (.imul, 1) := by decide +kernel
theorem dX3_moveCells_4 : decode cX3_moveCells 4 = .ok (.istore 5, 2) := by decide +kernel
theorem dX3_moveCells_6 : decode cX3_moveCells 6 = .ok (.iload_n 3, 1) := by decide +kernel
theorem dX3_moveCells_7 : decode cX3_moveCells 7 = .ok (.bipush 9, 2) := by decide +kernel
theorem dX3_moveCells_9 : decode cX3_moveCells 9 = .ok (.imul, 1) := by decide +kernel
theorem dX3_moveCells_10 : decode cX3_moveCells 10 = .ok (.istore 6, 2) := by decide +kernel
theorem dX3_moveCells_12 : decode cX3_moveCells 12 = .ok (.iload 4, 2) := by decide +kernel
theorem dX3_moveCells_14 : decode cX3_moveCells 14 = .ok (.bipush 9, 2) := by decide +kernel
theorem dX3_moveCells_16 : decode cX3_moveCells 16 = .ok (.imul, 1) := by decide +kernel
theorem dX3_moveCells_17 : decode cX3_moveCells 17 = .ok (.istore 7, 2) := by decide +kernel
theorem dX3_moveCells_19 : decode cX3_moveCells 19 = .ok (.iload 5, 2) := by decide +kernel
theorem dX3_moveCells_21 : decode cX3_moveCells 21 = .ok (.ifCond .lt 44, 3) := by decide +kernel
theorem dX3_moveCells_24 : decode cX3_moveCells 24 = .ok (.iload 6, 2) := by decide +kernel
theorem dX3_moveCells_26 : decode cX3_moveCells 26 = .ok (.ifCond .lt 39, 3) := by decide +kernel
theorem dX3_moveCells_29 : decode cX3_moveCells 29 = .ok (.iload 7, 2) := by decide +kernel
theorem dX3_moveCells_31 : decode cX3_moveCells 31 = .ok (.ifCond .le 34, 3) := by decide +kernel
theorem dX3_moveCells_34 : decode cX3_moveCells 34 = .ok (.iload 7, 2) := by decide +kernel
theorem dX3_moveCells_36 : decode cX3_moveCells 36 = .ok (.aload_n 0, 1) := by decide +kernel
theorem dX3_moveCells_37 : decode cX3_moveCells 37 = .ok (.arraylength, 1) := by decide +kernel
theorem dX3_moveCells_38 : decode cX3_moveCells 38 = .ok (.iload 5, 2) := by decide +kernel
theorem dX3_moveCells_40 : decode cX3_moveCells 40 = .ok (.isub, 1) := by decide +kernel
theorem dX3_moveCells_41 : decode cX3_moveCells 41 = .ok (.if_icmp .gt 24, 3) := by decide +kernel
theorem dX3_moveCells_44 : decode cX3_moveCells 44 = .ok (.iload 7, 2) := by decide +kernel
theorem dX3_moveCells_46 : decode cX3_moveCells 46 = .ok (.aload_n 2, 1) := by decide +kernel
theorem dX3_moveCells_47 : decode cX3_moveCells 47 = .ok (.arraylength, 1) := by decide +kernel
theorem dX3_moveCells_48 : decode cX3_moveCells 48 = .ok (.iload 6, 2) := by decide +kernel
theorem dX3_moveCells_50 : decode cX3_moveCells 50 = .ok (.isub, 1) := by decide +kernel
theorem dX3_moveCells_51 : decode cX3_moveCells 51 = .ok (.if_icmp .gt 14, 3) := by decide +kernel
theorem dX3_moveCells_54 : decode cX3_moveCells 54 = .ok (.aload_n 0, 1) := by decide +kernel
theorem dX3_moveCells_55 : decode cX3_moveCells 55 = .ok (.iload 5, 2) := by decide +kernel
theorem dX3_moveCells_57 : decode cX3_moveCells 57 = .ok (.aload_n 2, 1) := by decide +kernel
theorem dX3_moveCells_58 : decode cX3_moveCells 58 = .ok (.iload 6, 2) := by decide +kernel
theorem dX3_moveCells_60 : decode cX3_moveCells 60 = .ok (.iload 7, 2) := by decide +kernel
theorem dX3_moveCells_62 : decode cX3_moveCells 62 = .ok (.invokestatic 26, 3) := by decide +kernel
theorem dX3_moveCells_65 : decode cX3_moveCells 65 = .ok (.return_, 1) := by decide +kernel
theorem dX3_behind_0 : decode cX3_behind 0 = .ok (.aload_n 0, 1) := by decide +kernel
theorem dX3_behind_1 : decode cX3_behind 1 = .ok (.iload_n 1, 1) := by decide +kernel
theorem dX3_behind_2 : decode cX3_behind 2 = .ok (.iconst 2, 1) := by decide +kernel
theorem dX3_behind_3 : decode cX3_behind 3 = .ok (.invokevirtual 32, 3) := by decide +kernel
theorem dX3_behind_6 : decode cX3_behind 6 = .ok (.istore_n 2, 1) := by decide +kernel
theorem dX3_behind_7 : decode cX3_behind 7 = .ok (.iload_n 1, 1) := by decide +kernel
theorem dX3_behind_8 : decode cX3_behind 8 = .ok (.iconst 1, 1) := by decide +kernel
theorem dX3_behind_9 : decode cX3_behind 9 = .ok (.iadd, 1) := by decide +kernel
theorem dX3_behind_10 : decode cX3_behind 10 = .ok (.istore_n 3, 1) := by decide +kernel
theorem dX3_behind_11 : decode cX3_behind 11 = .ok (.iload_n 3, 1) := by decide +kernel
theorem dX3_behind_12 : decode cX3_behind 12 = .ok (.aload_n 0, 1) := by decide +kernel
theorem dX3_behind_13 : decode cX3_behind 13 = .ok (.getfield 15, 3) := by decide +kernel
theorem dX3_behind_16 : decode cX3_behind 16 = .ok (.if_icmp .ge 19, 3) := by decide +kernel
theorem dX3_behind_19 : decode cX3_behind 19 = .ok (.aload_n 0, 1) := by decide +kernel
theorem dX3_behind_20 : decode cX3_behind 20 = .ok (.iload_n 3, 1) := by decide +kernel
theorem dX3_behind_21 : decode cX3_behind 21 = .ok (.iconst 2, 1) := by decide +kernel
theorem dX3_behind_22 : decode cX3_behind 22 = .ok (.invokevirtual 32, 3) := by decide +kernel
theorem dX3_behind_25 : decode cX3_behind 25 = .ok (.iload_n 2, 1) := by decide +kernel
theorem dX3_behind_26 : decode cX3_behind 26 = .ok (.if_icmp .le 9, 3) := by decide +kernel
theorem dX3_behind_29 : decode cX3_behind 29 = .ok (.iinc 3 1, 3) := by decide +kernel
theorem dX3_behind_32 : decode cX3_behind 32 = .ok (.goto (-21), 3) := by decide +kernel
theorem dX3_behind_35 : decode cX3_behind 35 = .ok (.iload_n 3, 1) := by decide +kernel
theorem dX3_behind_36 : decode cX3_behind 36 = .ok (.ireturn, 1) := by decide +kernel
theorem dX3_above_0 : decode cX3_above 0 = .ok (.aload_n 0, 1) := by decide +kernel
theorem dX3_above_1 : decode cX3_above 1 = .ok (.iload_n 1, 1) := by decide +kernel
theorem dX3_above_2 : decode cX3_above 2 = .ok (.iconst 2, 1) := by decide +kernel
theorem dX3_above_3 : decode cX3_above 3 = .ok (.invokevirtual 32, 3) := by decide +kernel
theorem dX3_above_6 : decode cX3_above 6 = .ok (.iconst 1, 1) := by decide +kernel
theorem dX3_above_7 : decode cX3_above 7 = .ok (.isub, 1) := by decide +kernel
theorem dX3_above_8 : decode cX3_above 8 = .ok (.istore_n 2, 1) := by decide +kernel
theorem dX3_above_9 : decode cX3_above 9 = .ok (.iload_n 1, 1) := by decide +kernel
theorem dX3_above_10 : decode cX3_above 10 = .ok (.iconst 1, 1) := by decide +kernel
theorem dX3_above_11 : decode cX3_above 11 = .ok (.isub, 1) := by decide +kernel
theorem dX3_above_12 : decode cX3_above 12 = .ok (.istore_n 3, 1) := by decide +kernel
theorem dX3_above_13 : decode cX3_above 13 = .ok (.iload_n 3, 1) := by decide +kernel
theorem dX3_above_14 : decode cX3_above 14 = .ok (.ifCond .lt 19, 3) := by decide +kernel
theorem dX3_above_17 : decode cX3_above 17 = .ok (.aload_n 0, 1) := by decide +kernel
theorem dX3_above_18 : decode cX3_above 18 = .ok (.iload_n 3, 1) := by decide +kernel
theorem dX3_above_19 : decode cX3_above 19 = .ok (.iconst 2, 1) := by decide +kernel
theorem dX3_above_20 : decode cX3_above 20 = .ok (.invokevirtual 32, 3) := by decide +kernel
theorem dX3_above_23 : decode cX3_above 23 = .ok (.iload_n 2, 1) := by decide +kernel
theorem dX3_above_24 : decode cX3_above 24 = .ok (.if_icmp .le 9, 3) := by decide +kernel
theorem dX3_above_27 : decode cX3_above 27 = .ok (.iinc 3 (-1), 3) := by decide +kernel
theorem dX3_above_30 : decode cX3_above 30 = .ok (.goto (-17), 3) := by decide +kernel
theorem dX3_above_33 : decode cX3_above 33 = .ok (.iload_n 3, 1) := by decide +kernel
theorem dX3_above_34 : decode cX3_above 34 = .ok (.ifCond .ge 7, 3) := by decide +kernel
theorem dX3_above_37 : decode cX3_above 37 = .ok (.iconst (-1), 1) := by decide +kernel
theorem dX3_above_38 : decode cX3_above 38 = .ok (.goto 4, 3) := by decide +kernel
theorem dX3_above_41 : decode cX3_above 41 = .ok (.iload_n 3, 1) := by decide +kernel
theorem dX3_above_42 : decode cX3_above 42 = .ok (.ireturn, 1) := by decide +kernel
theorem dX3_countBelow_0 : decode cX3_countBelow 0 = .ok (.aload_n 0, 1) := by decide +kernel
theorem dX3_countBelow_1 : decode cX3_countBelow 1 = .ok (.iload_n 1, 1) := by decide +kernel
theorem dX3_countBelow_2 : decode cX3_countBelow 2 = .ok (.iconst 2, 1) := by decide +kernel
theorem dX3_countBelow_3 : decode cX3_countBelow 3 = .ok (.invokevirtual 32, 3) := by decide +kernel
theorem dX3_countBelow_6 : decode cX3_countBelow 6 = .ok (.iconst 1, 1) := by decide +kernel
theorem dX3_countBelow_7 : decode cX3_countBelow 7 = .ok (.iadd, 1) := by decide +kernel
theorem dX3_countBelow_8 : decode cX3_countBelow 8 = .ok (.istore_n 2, 1) := by decide +kernel
theorem dX3_countBelow_9 : decode cX3_countBelow 9 = .ok (.aload_n 0, 1) := by decide +kernel
theorem dX3_countBelow_10 : decode cX3_countBelow 10 = .ok (.iload_n 1, 1) := by decide +kernel
theorem dX3_countBelow_11 : decode cX3_countBelow 11 = .ok (.invokevirtual 36, 3) := by decide +kernel
theorem dX3_countBelow_14 : decode cX3_countBelow 14 = .ok (.istore_n 3, 1) := by decide +kernel
theorem dX3_countBelow_15 : decode cX3_countBelow 15 = .ok (.iconst 0, 1) := by decide +kernel
theorem dX3_countBelow_16 : decode cX3_countBelow 16 = .ok (.istore 4, 2) := by decide +kernel
theorem dX3_countBelow_18 : decode cX3_countBelow 18 = .ok (.iload_n 1, 1) := by decide +kernel
theorem dX3_countBelow_19 : decode cX3_countBelow 19 = .ok (.iconst 1, 1) := by decide +kernel
theorem dX3_countBelow_20 : decode cX3_countBelow 20 = .ok (.iadd, 1) := by decide +kernel
theorem dX3_countBelow_21 : decode cX3_countBelow 21 = .ok (.istore 5, 2) := by decide +kernel
theorem dX3_countBelow_23 : decode cX3_countBelow 23 = .ok (.iload 5, 2) := by decide +kernel
theorem dX3_countBelow_25 : decode cX3_countBelow 25 = .ok (.iload_n 3, 1) := by decide +kernel
theorem dX3_countBelow_26 : decode cX3_countBelow 26 = .ok (.if_icmp .ge 30, 3) := by decide +kernel
theorem dX3_countBelow_29 : decode cX3_countBelow 29 = .ok (.iload 4, 2) := by decide +kernel
theorem dX3_countBelow_31 : decode cX3_countBelow 31 = .ok (.aload_n 0, 1) := by decide +kernel
theorem dX3_countBelow_32 : decode cX3_countBelow 32 = .ok (.iload 5, 2) := by decide +kernel
theorem dX3_countBelow_34 : decode cX3_countBelow 34 = .ok (.iconst 2, 1) := by decide +kernel
theorem dX3_countBelow_35 : decode cX3_countBelow 35 = .ok (.invokevirtual 32, 3) := by decide +kernel
theorem dX3_countBelow_38 : decode cX3_countBelow 38 = .ok (.iload_n 2, 1) := by decide +kernel
theorem dX3_countBelow_39 : decode cX3_countBelow 39 = .ok (.if_icmp .ne 7, 3) := by decide +kernel
theorem dX3_countBelow_42 : decode cX3_countBelow 42 = .ok (.iconst 1, 1) := by decide +kernel
theorem dX3_countBelow_43 : decode cX3_countBelow 43 = .ok (.goto 4, 3) := by decide +kernel
theorem dX3_countBelow_46 : decode cX3_countBelow 46 = .ok (.iconst 0, 1) := by decide +kernel
theorem dX3_countBelow_47 : decode cX3_countBelow 47 = .ok (.iadd, 1) := by decide +kernel
theorem dX3_countBelow_48 : decode cX3_countBelow 48 = .ok (.istore 4, 2) := by decide +kernel
theorem dX3_countBelow_50 : decode cX3_countBelow 50 = .ok (.iinc 5 1, 3) := by decide +kernel
theorem dX3_countBelow_53 : decode cX3_countBelow 53 = .ok (.goto (-30), 3) := by decide +kernel
theorem dX3_countBelow_56 : decode cX3_countBelow 56 = .ok (.iload 4, 2) := by decide +kernel
theorem dX3_countBelow_58 : decode cX3_countBelow 58 = .ok (.ireturn, 1) := by decide +kernel
theorem dX3_findBelow_0 : decode cX3_findBelow 0 = .ok (.aload_n 0, 1) := by decide +kernel
theorem dX3_findBelow_1 : decode cX3_findBelow 1 = .ok (.iload_n 1, 1) := by decide +kernel
theorem dX3_findBelow_2 : decode cX3_findBelow 2 = .ok (.invokevirtual 40, 3) := by decide +kernel
theorem dX3_findBelow_5 : decode cX3_findBelow 5 = .ok (.ifCond .ne 5, 3) := by decide +kernel
theorem dX3_findBelow_8 : decode cX3_findBelow 8 = .ok (.iconst (-1), 1) := by decide +kernel
theorem dX3_findBelow_9 : decode cX3_findBelow 9 = .ok (.ireturn, 1) := by decide +kernel
theorem dX3_findBelow_10 : decode cX3_findBelow 10 = .ok (.aload_n 0, 1) := by decide +kernel
theorem dX3_findBelow_11 : decode cX3_findBelow 11 = .ok (.iload_n 1, 1) := by decide +kernel
theorem dX3_findBelow_12 : decode cX3_findBelow 12 = .ok (.iconst 2, 1) := by decide +kernel
theorem dX3_findBelow_13 : decode cX3_findBelow 13 = .ok (.invokevirtual 32, 3) := by decide +kernel
theorem dX3_findBelow_16 : decode cX3_findBelow 16 = .ok (.iconst 1, 1) := by decide +kernel
theorem dX3_findBelow_17 : decode cX3_findBelow 17 = .ok (.iadd, 1) := by decide +kernel
theorem dX3_findBelow_18 : decode cX3_findBelow 18 = .ok (.istore_n 3, 1) := by decide +kernel
theorem dX3_findBelow_19 : decode cX3_findBelow 19 = .ok (.iload_n 1, 1) := by decide +kernel
theorem dX3_findBelow_20 : decode cX3_findBelow 20 = .ok (.iconst 1, 1) := by decide +kernel
theorem dX3_findBelow_21 : decode cX3_findBelow 21 = .ok (.iadd, 1) := by decide +kernel
theorem dX3_findBelow_22 : decode cX3_findBelow 22 = .ok (.istore 4, 2) := by decide +kernel
theorem dX3_findBelow_24 : decode cX3_findBelow 24 = .ok (.iload 4, 2) := by decide +kernel
theorem dX3_findBelow_26 : decode cX3_findBelow 26 = .ok (.aload_n 0, 1) := by decide +kernel
theorem dX3_findBelow_27 : decode cX3_findBelow 27 = .ok (.getfield 15, 3) := by decide +kernel
theorem dX3_findBelow_30 : decode cX3_findBelow 30 = .ok (.if_icmp .ge 45, 3) := by decide +kernel
theorem dX3_findBelow_33 : decode cX3_findBelow 33 = .ok (.aload_n 0, 1) := by decide +kernel
theorem dX3_findBelow_34 : decode cX3_findBelow 34 = .ok (.iload 4, 2) := by decide +kernel
theorem dX3_findBelow_36 : decode cX3_findBelow 36 = .ok (.iconst 2, 1) := by decide +kernel
theorem dX3_findBelow_37 : decode cX3_findBelow 37 = .ok (.invokevirtual 32, 3) := by decide +kernel
theorem dX3_findBelow_40 : decode cX3_findBelow 40 = .ok (.iload_n 3, 1) := by decide +kernel
theorem dX3_findBelow_41 : decode cX3_findBelow 41 = .ok (.if_icmp .lt 34, 3) := by decide +kernel
theorem dX3_findBelow_44 : decode cX3_findBelow 44 = .ok (.aload_n 0, 1) := by decide +kernel
theorem dX3_findBelow_45 : decode cX3_findBelow 45 = .ok (.iload 4, 2) := by decide +kernel
theorem dX3_findBelow_47 : decode cX3_findBelow 47 = .ok (.iconst 2, 1) := by decide +kernel
theorem dX3_findBelow_48 : decode cX3_findBelow 48 = .ok (.invokevirtual 32, 3) := by decide +kernel
theorem dX3_findBelow_51 : decode cX3_findBelow 51 = .ok (.iload_n 3, 1) := by decide +kernel
theorem dX3_findBelow_52 : decode cX3_findBelow 52 = .ok (.if_icmp .ne 17, 3) := by decide +kernel
theorem dX3_findBelow_55 : decode cX3_findBelow 55 = .ok (.aload_n 0, 1) := by decide +kernel
theorem dX3_findBelow_56 : decode cX3_findBelow 56 = .ok (.iload 4, 2) := by decide +kernel
theorem dX3_findBelow_58 : decode cX3_findBelow 58 = .ok (.iconst 1, 1) := by decide +kernel
theorem dX3_findBelow_59 : decode cX3_findBelow 59 = .ok (.invokevirtual 32, 3) := by decide +kernel
theorem dX3_findBelow_62 : decode cX3_findBelow 62 = .ok (.iload_n 2, 1) := by decide +kernel
theorem dX3_findBelow_63 : decode cX3_findBelow 63 = .ok (.if_icmp .ne 6, 3) := by decide +kernel
theorem dX3_findBelow_66 : decode cX3_findBelow 66 = .ok (.iload 4, 2) := by decide +kernel
theorem dX3_findBelow_68 : decode cX3_findBelow 68 = .ok (.ireturn, 1) := by decide +kernel
theorem dX3_findBelow_69 : decode cX3_findBelow 69 = .ok (.iinc 4 1, 3) := by decide +kernel
theorem dX3_findBelow_72 : decode cX3_findBelow 72 = .ok (.goto (-48), 3) := by decide +kernel
theorem dX3_findBelow_75 : decode cX3_findBelow 75 = .ok (.iconst (-1), 1) := by decide +kernel
theorem dX3_findBelow_76 : decode cX3_findBelow 76 = .ok (.ireturn, 1) := by decide +kernel
theorem dX3_insertBelow_0 : decode cX3_insertBelow 0 = .ok (.aload_n 0, 1) := by decide +kernel
theorem dX3_insertBelow_1 : decode cX3_insertBelow 1 = .ok (.iload_n 1, 1) := by decide +kernel
theorem dX3_insertBelow_2 : decode cX3_insertBelow 2 = .ok (.invokevirtual 40, 3) := by decide +kernel
theorem dX3_insertBelow_5 : decode cX3_insertBelow 5 = .ok (.ifCond .eq 14, 3) := by decide +kernel
theorem dX3_insertBelow_8 : decode cX3_insertBelow 8 = .ok (.aload_n 0, 1) := by decide +kernel
theorem dX3_insertBelow_9 : decode cX3_insertBelow 9 = .ok (.iload_n 1, 1) := by decide +kernel
theorem dX3_insertBelow_10 : decode cX3_insertBelow 10 = .ok (.iconst 2, 1) := by decide +kernel
theorem dX3_insertBelow_11 : decode cX3_insertBelow 11 = .ok (.invokevirtual 32, 3) := by decide +kernel
theorem dX3_insertBelow_14 : decode cX3_insertBelow 14 = .ok (.iconst 1, 1) := by decide +kernel
theorem dX3_insertBelow_15 : decode cX3_insertBelow 15 = .ok (.iadd, 1) := by decide +kernel
theorem dX3_insertBelow_16 : decode cX3_insertBelow 16 = .ok (.goto 4, 3) := by decide +kernel
theorem dX3_insertBelow_19 : decode cX3_insertBelow 19 = .ok (.iconst 0, 1) := by decide +kernel
theorem dX3_insertBelow_20 : decode cX3_insertBelow 20 = .ok (.istore_n 3, 1) := by decide +kernel
theorem dX3_insertBelow_21 : decode cX3_insertBelow 21 = .ok (.aload_n 0, 1) := by decide +kernel
theorem dX3_insertBelow_22 : decode cX3_insertBelow 22 = .ok (.iload_n 1, 1) := by decide +kernel
theorem dX3_insertBelow_23 : decode cX3_insertBelow 23 = .ok (.invokevirtual 40, 3) := by decide +kernel
theorem dX3_insertBelow_26 : decode cX3_insertBelow 26 = .ok (.ifCond .eq 9, 3) := by decide +kernel
theorem dX3_insertBelow_29 : decode cX3_insertBelow 29 = .ok (.iload_n 1, 1) := by decide +kernel
theorem dX3_insertBelow_30 : decode cX3_insertBelow 30 = .ok (.iconst 1, 1) := by decide +kernel
theorem dX3_insertBelow_31 : decode cX3_insertBelow 31 = .ok (.iadd, 1) := by decide +kernel
theorem dX3_insertBelow_32 : decode cX3_insertBelow 32 = .ok (.goto 4, 3) := by decide +kernel
theorem dX3_insertBelow_35 : decode cX3_insertBelow 35 = .ok (.iconst 0, 1) := by decide +kernel
theorem dX3_insertBelow_36 : decode cX3_insertBelow 36 = .ok (.istore 4, 2) := by decide +kernel
theorem dX3_insertBelow_38 : decode cX3_insertBelow 38 = .ok (.iload 4, 2) := by decide +kernel
theorem dX3_insertBelow_40 : decode cX3_insertBelow 40 = .ok (.aload_n 0, 1) := by decide +kernel
theorem dX3_insertBelow_41 : decode cX3_insertBelow 41 = .ok (.getfield 15, 3) := by decide +kernel
theorem dX3_insertBelow_44 : decode cX3_insertBelow 44 = .ok (.if_icmp .ge 42, 3) := by decide +kernel
theorem dX3_insertBelow_47 : decode cX3_insertBelow 47 = .ok (.aload_n 0, 1) := by decide +kernel
theorem dX3_insertBelow_48 : decode cX3_insertBelow 48 = .ok (.iload 4, 2) := by decide +kernel
theorem dX3_insertBelow_50 : decode cX3_insertBelow 50 = .ok (.iconst 2, 1) := by decide +kernel
theorem dX3_insertBelow_51 : decode cX3_insertBelow 51 = .ok (.invokevirtual 32, 3) := by decide +kernel
theorem dX3_insertBelow_54 : decode cX3_insertBelow 54 = .ok (.iload_n 3, 1) := by decide +kernel
theorem dX3_insertBelow_55 : decode cX3_insertBelow 55 = .ok (.if_icmp .lt 31, 3) := by decide +kernel
theorem dX3_insertBelow_58 : decode cX3_insertBelow 58 = .ok (.aload_n 0, 1) := by decide +kernel
theorem dX3_insertBelow_59 : decode cX3_insertBelow 59 = .ok (.iload 4, 2) := by decide +kernel
theorem dX3_insertBelow_61 : decode cX3_insertBelow 61 = .ok (.iconst 2, 1) := by decide +kernel
theorem dX3_insertBelow_62 : decode cX3_insertBelow 62 = .ok (.invokevirtual 32, 3) := by decide +kernel
theorem dX3_insertBelow_65 : decode cX3_insertBelow 65 = .ok (.iload_n 3, 1) := by decide +kernel
theorem dX3_insertBelow_66 : decode cX3_insertBelow 66 = .ok (.if_icmp .gt 14, 3) := by decide +kernel
theorem dX3_insertBelow_69 : decode cX3_insertBelow 69 = .ok (.aload_n 0, 1) := by decide +kernel
theorem dX3_insertBelow_70 : decode cX3_insertBelow 70 = .ok (.iload 4, 2) := by decide +kernel
theorem dX3_insertBelow_72 : decode cX3_insertBelow 72 = .ok (.iconst 1, 1) := by decide +kernel
theorem dX3_insertBelow_73 : decode cX3_insertBelow 73 = .ok (.invokevirtual 32, 3) := by decide +kernel
theorem dX3_insertBelow_76 : decode cX3_insertBelow 76 = .ok (.iload_n 2, 1) := by decide +kernel
theorem dX3_insertBelow_77 : decode cX3_insertBelow 77 = .ok (.if_icmp .ge 9, 3) := by decide +kernel
theorem dX3_insertBelow_80 : decode cX3_insertBelow 80 = .ok (.iinc 4 1, 3) := by decide +kernel
theorem dX3_insertBelow_83 : decode cX3_insertBelow 83 = .ok (.goto (-45), 3) := by decide +kernel
theorem dX3_insertBelow_86 : decode cX3_insertBelow 86 = .ok (.aload_n 0, 1) := by decide +kernel
theorem dX3_insertBelow_87 : decode cX3_insertBelow 87 = .ok (.getfield 15, 3) := by decide +kernel
theorem dX3_insertBelow_90 : decode cX3_insertBelow 90 = .ok (.bipush 64, 2) := by decide +kernel
theorem dX3_insertBelow_92 : decode cX3_insertBelow 92 = .ok (.if_icmp .lt 5, 3) := by decide +kernel
theorem dX3_insertBelow_95 : decode cX3_insertBelow 95 = .ok (.iconst (-1), 1) := by decide +kernel
theorem dX3_insertBelow_96 : decode cX3_insertBelow 96 = .ok (.ireturn, 1) := by decide +kernel
theorem dX3_insertBelow_97 : decode cX3_insertBelow 97 = .ok (.aload_n 0, 1) := by decide +kernel
theorem dX3_insertBelow_98 : decode cX3_insertBelow 98 = .ok (.getfield 11, 3) := by decide +kernel
theorem dX3_insertBelow_101 : decode cX3_insertBelow 101 = .ok (.iload 4, 2) := by decide +kernel
theorem dX3_insertBelow_103 : decode cX3_insertBelow 103 = .ok (.aload_n 0, 1) := by decide +kernel
theorem dX3_insertBelow_104 : decode cX3_insertBelow 104 = .ok (.getfield 11, 3) := by decide +kernel
theorem dX3_insertBelow_107 : decode cX3_insertBelow 107 = .ok (.iload 4, 2) := by decide +kernel
theorem dX3_insertBelow_109 : decode cX3_insertBelow 109 = .ok (.iconst 1, 1) := by decide +kernel
theorem dX3_insertBelow_110 : decode cX3_insertBelow 110 = .ok (.iadd, 1) := by decide +kernel
theorem dX3_insertBelow_111 : decode cX3_insertBelow 111 = .ok (.aload_n 0, 1) := by decide +kernel
theorem dX3_insertBelow_112 : decode cX3_insertBelow 112 = .ok (.getfield 15, 3) := by decide +kernel
theorem dX3_insertBelow_115 : decode cX3_insertBelow 115 = .ok (.iload 4, 2) := by decide +kernel
theorem dX3_insertBelow_117 : decode cX3_insertBelow 117 = .ok (.isub, 1) := by decide +kernel
theorem dX3_insertBelow_118 : decode cX3_insertBelow 118 = .ok (.invokestatic 22, 3) := by decide +kernel
theorem dX3_insertBelow_121 : decode cX3_insertBelow 121 = .ok (.aload_n 0, 1) := by decide +kernel
theorem dX3_insertBelow_122 : decode cX3_insertBelow 122 = .ok (.dup, 1) := by decide +kernel
theorem dX3_insertBelow_123 : decode cX3_insertBelow 123 = .ok (.getfield 15, 3) := by decide +kernel
theorem dX3_insertBelow_126 : decode cX3_insertBelow 126 = .ok (.iconst 1, 1) := by decide +kernel
theorem dX3_insertBelow_127 : decode cX3_insertBelow 127 = .ok (.iadd, 1) := by decide +kernel
theorem dX3_insertBelow_128 : decode cX3_insertBelow 128 = .ok (.putfield 15, 3) := by decide +kernel
theorem dX3_insertBelow_131 : decode cX3_insertBelow 131 = .ok (.aload_n 0, 1) := by decide +kernel
theorem dX3_insertBelow_132 : decode cX3_insertBelow 132 = .ok (.iload 4, 2) := by decide +kernel
theorem dX3_insertBelow_134 : decode cX3_insertBelow 134 = .ok (.iload_n 2, 1) := by decide +kernel
theorem dX3_insertBelow_135 : decode cX3_insertBelow 135 = .ok (.iload_n 3, 1) := by decide +kernel
theorem dX3_insertBelow_136 : decode cX3_insertBelow 136 = .ok (.invokevirtual 44, 3) := by decide +kernel
theorem dX3_insertBelow_139 : decode cX3_insertBelow 139 = .ok (.iload 4, 2) := by decide +kernel
theorem dX3_insertBelow_141 : decode cX3_insertBelow 141 = .ok (.ireturn, 1) := by decide +kernel
theorem dX3_addRow_0 : decode cX3_addRow 0 = .ok (.aload_n 0, 1) := by decide +kernel
theorem dX3_addRow_1 : decode cX3_addRow 1 = .ok (.getfield 15, 3) := by decide +kernel
theorem dX3_addRow_4 : decode cX3_addRow 4 = .ok (.bipush 64, 2) := by decide +kernel
theorem dX3_addRow_6 : decode cX3_addRow 6 = .ok (.if_icmp .lt 5, 3) := by decide +kernel
theorem dX3_addRow_9 : decode cX3_addRow 9 = .ok (.iconst (-1), 1) := by decide +kernel
theorem dX3_addRow_10 : decode cX3_addRow 10 = .ok (.ireturn, 1) := by decide +kernel
theorem dX3_addRow_11 : decode cX3_addRow 11 = .ok (.aload_n 0, 1) := by decide +kernel
theorem dX3_addRow_12 : decode cX3_addRow 12 = .ok (.dup, 1) := by decide +kernel
theorem dX3_addRow_13 : decode cX3_addRow 13 = .ok (.getfield 15, 3) := by decide +kernel
theorem dX3_addRow_16 : decode cX3_addRow 16 = .ok (.iconst 1, 1) := by decide +kernel
theorem dX3_addRow_17 : decode cX3_addRow 17 = .ok (.iadd, 1) := by decide +kernel
theorem dX3_addRow_18 : decode cX3_addRow 18 = .ok (.putfield 15, 3) := by decide +kernel
theorem dX3_addRow_21 : decode cX3_addRow 21 = .ok (.aload_n 0, 1) := by decide +kernel
theorem dX3_addRow_22 : decode cX3_addRow 22 = .ok (.aload_n 0, 1) := by decide +kernel
theorem dX3_addRow_23 : decode cX3_addRow 23 = .ok (.getfield 15, 3) := by decide +kernel
theorem dX3_addRow_26 : decode cX3_addRow 26 = .ok (.iconst 1, 1) := by decide +kernel
theorem dX3_addRow_27 : decode cX3_addRow 27 = .ok (.isub, 1) := by decide +kernel
theorem dX3_addRow_28 : decode cX3_addRow 28 = .ok (.iload_n 1, 1) := by decide +kernel
theorem dX3_addRow_29 : decode cX3_addRow 29 = .ok (.iload_n 2, 1) := by decide +kernel
theorem dX3_addRow_30 : decode cX3_addRow 30 = .ok (.invokevirtual 44, 3) := by decide +kernel
theorem dX3_addRow_33 : decode cX3_addRow 33 = .ok (.aload_n 0, 1) := by decide +kernel
theorem dX3_addRow_34 : decode cX3_addRow 34 = .ok (.getfield 15, 3) := by decide +kernel
theorem dX3_addRow_37 : decode cX3_addRow 37 = .ok (.iconst 1, 1) := by decide +kernel
theorem dX3_addRow_38 : decode cX3_addRow 38 = .ok (.isub, 1) := by decide +kernel
theorem dX3_addRow_39 : decode cX3_addRow 39 = .ok (.ireturn, 1) := by decide +kernel
theorem dX3_startRow_0 : decode cX3_startRow 0 = .ok (.iconst 0, 1) := by decide +kernel
theorem dX3_startRow_1 : decode cX3_startRow 1 = .ok (.istore 4, 2) := by decide +kernel
theorem dX3_startRow_3 : decode cX3_startRow 3 = .ok (.iload 4, 2) := by decide +kernel
theorem dX3_startRow_5 : decode cX3_startRow 5 = .ok (.bipush 9, 2) := by decide +kernel
theorem dX3_startRow_7 : decode cX3_startRow 7 = .ok (.if_icmp .ge 17, 3) := by decide +kernel
theorem dX3_startRow_10 : decode cX3_startRow 10 = .ok (.aload_n 0, 1) := by decide +kernel
theorem dX3_startRow_11 : decode cX3_startRow 11 = .ok (.iload_n 1, 1) := by decide +kernel
theorem dX3_startRow_12 : decode cX3_startRow 12 = .ok (.iload 4, 2) := by decide +kernel
theorem dX3_startRow_14 : decode cX3_startRow 14 = .ok (.iconst 0, 1) := by decide +kernel
theorem dX3_startRow_15 : decode cX3_startRow 15 = .ok (.invokevirtual 48, 3) := by decide +kernel
theorem dX3_startRow_18 : decode cX3_startRow 18 = .ok (.iinc 4 1, 3) := by decide +kernel
theorem dX3_startRow_21 : decode cX3_startRow 21 = .ok (.goto (-18), 3) := by decide +kernel
theorem dX3_startRow_24 : decode cX3_startRow 24 = .ok (.aload_n 0, 1) := by decide +kernel
theorem dX3_startRow_25 : decode cX3_startRow 25 = .ok (.iload_n 1, 1) := by decide +kernel
theorem dX3_startRow_26 : decode cX3_startRow 26 = .ok (.iconst 1, 1) := by decide +kernel
theorem dX3_startRow_27 : decode cX3_startRow 27 = .ok (.iload_n 2, 1) := by decide +kernel
theorem dX3_startRow_28 : decode cX3_startRow 28 = .ok (.invokevirtual 48, 3) := by decide +kernel
theorem dX3_startRow_31 : decode cX3_startRow 31 = .ok (.aload_n 0, 1) := by decide +kernel
theorem dX3_startRow_32 : decode cX3_startRow 32 = .ok (.iload_n 1, 1) := by decide +kernel
theorem dX3_startRow_33 : decode cX3_startRow 33 = .ok (.iconst 2, 1) := by decide +kernel
theorem dX3_startRow_34 : decode cX3_startRow 34 = .ok (.iload_n 3, 1) := by decide +kernel
theorem dX3_startRow_35 : decode cX3_startRow 35 = .ok (.invokevirtual 48, 3) := by decide +kernel
theorem dX3_startRow_38 : decode cX3_startRow 38 = .ok (.aload_n 0, 1) := by decide +kernel
theorem dX3_startRow_39 : decode cX3_startRow 39 = .ok (.iload_n 1, 1) := by decide +kernel
theorem dX3_startRow_40 : decode cX3_startRow 40 = .ok (.bipush 7, 2) := by decide +kernel
theorem dX3_startRow_42 : decode cX3_startRow 42 = .ok (.iconst (-1), 1) := by decide +kernel
theorem dX3_startRow_43 : decode cX3_startRow 43 = .ok (.invokevirtual 48, 3) := by decide +kernel
theorem dX3_startRow_46 : decode cX3_startRow 46 = .ok (.return_, 1) := by decide +kernel
theorem dX3_dropBelow_0 : decode cX3_dropBelow 0 = .ok (.aload_n 0, 1) := by decide +kernel
theorem dX3_dropBelow_1 : decode cX3_dropBelow 1 = .ok (.iload_n 1, 1) := by decide +kernel
theorem dX3_dropBelow_2 : decode cX3_dropBelow 2 = .ok (.invokevirtual 36, 3) := by decide +kernel
theorem dX3_dropBelow_5 : decode cX3_dropBelow 5 = .ok (.istore_n 2, 1) := by decide +kernel
theorem dX3_dropBelow_6 : decode cX3_dropBelow 6 = .ok (.aload_n 0, 1) := by decide +kernel
theorem dX3_dropBelow_7 : decode cX3_dropBelow 7 = .ok (.getfield 11, 3) := by decide +kernel
theorem dX3_dropBelow_10 : decode cX3_dropBelow 10 = .ok (.iload_n 2, 1) := by decide +kernel
theorem dX3_dropBelow_11 : decode cX3_dropBelow 11 = .ok (.aload_n 0, 1) := by decide +kernel
theorem dX3_dropBelow_12 : decode cX3_dropBelow 12 = .ok (.getfield 11, 3) := by decide +kernel
theorem dX3_dropBelow_15 : decode cX3_dropBelow 15 = .ok (.iload_n 1, 1) := by decide +kernel
theorem dX3_dropBelow_16 : decode cX3_dropBelow 16 = .ok (.iconst 1, 1) := by decide +kernel
theorem dX3_dropBelow_17 : decode cX3_dropBelow 17 = .ok (.iadd, 1) := by decide +kernel
theorem dX3_dropBelow_18 : decode cX3_dropBelow 18 = .ok (.aload_n 0, 1) := by decide +kernel
theorem dX3_dropBelow_19 : decode cX3_dropBelow 19 = .ok (.getfield 15, 3) := by decide +kernel
theorem dX3_dropBelow_22 : decode cX3_dropBelow 22 = .ok (.iload_n 2, 1) := by decide +kernel
theorem dX3_dropBelow_23 : decode cX3_dropBelow 23 = .ok (.isub, 1) := by decide +kernel
theorem dX3_dropBelow_24 : decode cX3_dropBelow 24 = .ok (.invokestatic 22, 3) := by decide +kernel
theorem dX3_dropBelow_27 : decode cX3_dropBelow 27 = .ok (.aload_n 0, 1) := by decide +kernel
theorem dX3_dropBelow_28 : decode cX3_dropBelow 28 = .ok (.aload_n 0, 1) := by decide +kernel
theorem dX3_dropBelow_29 : decode cX3_dropBelow 29 = .ok (.getfield 15, 3) := by decide +kernel
theorem dX3_dropBelow_32 : decode cX3_dropBelow 32 = .ok (.iload_n 2, 1) := by decide +kernel
theorem dX3_dropBelow_33 : decode cX3_dropBelow 33 = .ok (.iload_n 1, 1) := by decide +kernel
theorem dX3_dropBelow_34 : decode cX3_dropBelow 34 = .ok (.isub, 1) := by decide +kernel
theorem dX3_dropBelow_35 : decode cX3_dropBelow 35 = .ok (.iconst 1, 1) := by decide +kernel
theorem dX3_dropBelow_36 : decode cX3_dropBelow 36 = .ok (.isub, 1) := by decide +kernel
theorem dX3_dropBelow_37 : decode cX3_dropBelow 37 = .ok (.isub, 1) := by decide +kernel
theorem dX3_dropBelow_38 : decode cX3_dropBelow 38 = .ok (.putfield 15, 3) := by decide +kernel
theorem dX3_dropBelow_41 : decode cX3_dropBelow 41 = .ok (.return_, 1) := by decide +kernel
theorem dX3_markOptional_0 : decode cX3_markOptional 0 = .ok (.iconst 0, 1) := by decide +kernel
theorem dX3_markOptional_1 : decode cX3_markOptional 1 = .ok (.istore_n 1, 1) := by decide +kernel
theorem dX3_markOptional_2 : decode cX3_markOptional 2 = .ok (.iload_n 1, 1) := by decide +kernel
theorem dX3_markOptional_3 : decode cX3_markOptional 3 = .ok (.aload_n 0, 1) := by decide +kernel
theorem dX3_markOptional_4 : decode cX3_markOptional 4 = .ok (.getfield 15, 3) := by decide +kernel
theorem dX3_markOptional_7 : decode cX3_markOptional 7 = .ok (.if_icmp .ge 79, 3) := by decide +kernel
theorem dX3_markOptional_10 : decode cX3_markOptional 10 = .ok (.aload_n 0, 1) := by decide +kernel
theorem dX3_markOptional_11 : decode cX3_markOptional 11 = .ok (.iload_n 1, 1) := by decide +kernel
theorem dX3_markOptional_12 : decode cX3_markOptional 12 = .ok (.iconst 1, 1) := by decide +kernel
theorem dX3_markOptional_13 : decode cX3_markOptional 13 = .ok (.invokevirtual 32, 3) := by decide +kernel
theorem dX3_markOptional_16 : decode cX3_markOptional 16 = .ok (.istore_n 2, 1) := by decide +kernel
theorem dX3_markOptional_17 : decode cX3_markOptional 17 = .ok (.iload_n 2, 1) := by decide +kernel
theorem dX3_markOptional_18 : decode cX3_markOptional 18 = .ok (.ifCond .lt 13, 3) := by decide +kernel
theorem dX3_markOptional_21 : decode cX3_markOptional 21 = .ok (.iload_n 2, 1) := by decide +kernel
theorem dX3_markOptional_22 : decode cX3_markOptional 22 = .ok (.bipush 8, 2) := by decide +kernel
theorem dX3_markOptional_24 : decode cX3_markOptional 24 = .ok (.if_icmp .ge 7, 3) := by decide +kernel
theorem dX3_markOptional_27 : decode cX3_markOptional 27 = .ok (.iconst 1, 1) := by decide +kernel
theorem dX3_markOptional_28 : decode cX3_markOptional 28 = .ok (.goto 4, 3) := by decide +kernel
theorem dX3_markOptional_31 : decode cX3_markOptional 31 = .ok (.iconst 0, 1) := by decide +kernel
theorem dX3_markOptional_32 : decode cX3_markOptional 32 = .ok (.istore_n 3, 1) := by decide +kernel
theorem dX3_markOptional_33 : decode cX3_markOptional 33 = .ok (.aload_n 0, 1) := by decide +kernel
theorem dX3_markOptional_34 : decode cX3_markOptional 34 = .ok (.iload_n 1, 1) := by decide +kernel
theorem dX3_markOptional_35 : decode cX3_markOptional 35 = .ok (.iconst 3, 1) := by decide +kernel
theorem dX3_markOptional_36 : decode cX3_markOptional 36 = .ok (.invokevirtual 32, 3) := by decide +kernel
theorem dX3_markOptional_39 : decode cX3_markOptional 39 = .ok (.aload_n 0, 1) := by decide +kernel
theorem dX3_markOptional_40 : decode cX3_markOptional 40 = .ok (.aload_n 0, 1) := by decide +kernel
theorem dX3_markOptional_41 : decode cX3_markOptional 41 = .ok (.iload_n 1, 1) := by decide +kernel
theorem dX3_markOptional_42 : decode cX3_markOptional 42 = .ok (.invokevirtual 51, 3) := by decide +kernel
theorem dX3_markOptional_45 : decode cX3_markOptional 45 = .ok (.iconst 5, 1) := by decide +kernel
theorem dX3_markOptional_46 : decode cX3_markOptional 46 = .ok (.invokevirtual 32, 3) := by decide +kernel
theorem dX3_markOptional_49 : decode cX3_markOptional 49 = .ok (.if_icmp .ge 7, 3) := by decide +kernel
theorem dX3_markOptional_52 : decode cX3_markOptional 52 = .ok (.iconst 1, 1) := by decide +kernel
theorem dX3_markOptional_53 : decode cX3_markOptional 53 = .ok (.goto 4, 3) := by decide +kernel
theorem dX3_markOptional_56 : decode cX3_markOptional 56 = .ok (.iconst 0, 1) := by decide +kernel
theorem dX3_markOptional_57 : decode cX3_markOptional 57 = .ok (.istore 4, 2) := by decide +kernel
theorem dX3_markOptional_59 : decode cX3_markOptional 59 = .ok (.aload_n 0, 1) := by decide +kernel
theorem dX3_markOptional_60 : decode cX3_markOptional 60 = .ok (.iload_n 1, 1) := by decide +kernel
theorem dX3_markOptional_61 : decode cX3_markOptional 61 = .ok (.bipush 8, 2) := by decide +kernel
theorem dX3_markOptional_63 : decode cX3_markOptional 63 = .ok (.iload_n 3, 1) := by decide +kernel
theorem dX3_markOptional_64 : decode cX3_markOptional 64 = .ok (.ifCond .eq 12, 3) := by decide +kernel
theorem dX3_markOptional_67 : decode cX3_markOptional 67 = .ok (.iload 4, 2) := by decide +kernel
theorem dX3_markOptional_69 : decode cX3_markOptional 69 = .ok (.ifCond .eq 7, 3) := by decide +kernel
theorem dX3_markOptional_72 : decode cX3_markOptional 72 = .ok (.iconst 1, 1) := by decide +kernel
theorem dX3_markOptional_73 : decode cX3_markOptional 73 = .ok (.goto 4, 3) := by decide +kernel
theorem dX3_markOptional_76 : decode cX3_markOptional 76 = .ok (.iconst 0, 1) := by decide +kernel
theorem dX3_markOptional_77 : decode cX3_markOptional 77 = .ok (.invokevirtual 48, 3) := by decide +kernel
theorem dX3_markOptional_80 : decode cX3_markOptional 80 = .ok (.iinc 1 1, 3) := by decide +kernel
theorem dX3_markOptional_83 : decode cX3_markOptional 83 = .ok (.goto (-81), 3) := by decide +kernel
theorem dX3_markOptional_86 : decode cX3_markOptional 86 = .ok (.return_, 1) := by decide +kernel
theorem dX4_init_0 : decode cX4_init 0 = .ok (.aload_n 0, 1) := by decide +kernel
theorem dX4_init_1 : decode cX4_init 1 = .ok (.invokespecial 1, 3) := by decide +kernel
theorem dX4_init_4 : decode cX4_init 4 = .ok (.aload_n 0, 1) := by decide +kernel
theorem dX4_init_5 : decode cX4_init 5 = .ok (.bipush 60, 2) := by decide +kernel
theorem dX4_init_7 : decode cX4_init 7 = .ok (.newarray .int, 2) := by decide +kernel
theorem dX4_init_9 : decode cX4_init 9 = .ok (.putfield 9, 3) := by decide +kernel
theorem dX4_init_12 : decode cX4_init 12 = .ok (.aload_n 0, 1) := by decide +kernel
theorem dX4_init_13 : decode cX4_init 13 = .ok (.new 13, 3) := by decide +kernel
theorem dX4_init_16 : decode cX4_init 16 = .ok (.dup, 1) := by decide +kernel
theorem dX4_init_17 : decode cX4_init 17 = .ok (.invokespecial 15, 3) := by decide +kernel
theorem dX4_init_20 : decode cX4_init 20 = .ok (.putfield 16, 3) := by decide +kernel
theorem dX4_init_23 : decode cX4_init 23 = .ok (.aload_n 0, 1) := by decide +kernel
theorem dX4_init_24 : decode cX4_init 24 = .ok (.new 20, 3) := by decide +kernel
theorem dX4_init_27 : decode cX4_init 27 = .ok (.dup, 1) := by decide +kernel
theorem dX4_init_28 : decode cX4_init 28 = .ok (.invokespecial 22, 3) := by decide +kernel
theorem dX4_init_31 : decode cX4_init 31 = .ok (.putfield 23, 3) := by decide +kernel
theorem dX4_init_34 : decode cX4_init 34 = .ok (.aload_n 0, 1) := by decide +kernel
theorem dX4_init_35 : decode cX4_init 35 = .ok (.bipush 6, 2) := by decide +kernel
theorem dX4_init_37 : decode cX4_init 37 = .ok (.anewarray 20, 3) := by decide +kernel
theorem dX4_init_40 : decode cX4_init 40 = .ok (.putfield 27, 3) := by decide +kernel
theorem dX4_init_43 : decode cX4_init 43 = .ok (.aload_n 0, 1) := by decide +kernel
theorem dX4_init_44 : decode cX4_init 44 = .ok (.new 31, 3) := by decide +kernel
theorem dX4_init_47 : decode cX4_init 47 = .ok (.dup, 1) := by decide +kernel
theorem dX4_init_48 : decode cX4_init 48 = .ok (.invokespecial 33, 3) := by decide +kernel
theorem dX4_init_51 : decode cX4_init 51 = .ok (.putfield 34, 3) := by decide +kernel
theorem dX4_init_54 : decode cX4_init 54 = .ok (.aload_n 0, 1) := by decide +kernel
theorem dX4_init_55 : decode cX4_init 55 = .ok (.new 38, 3) := by decide +kernel
theorem dX4_init_58 : decode cX4_init 58 = .ok (.dup, 1) := by decide +kernel
theorem dX4_init_59 : decode cX4_init 59 = .ok (.invokespecial 40, 3) := by decide +kernel
theorem dX4_init_62 : decode cX4_init 62 = .ok (.putfield 41, 3) := by decide +kernel
theorem dX4_init_65 : decode cX4_init 65 = .ok (.iconst 0, 1) := by decide +kernel
theorem dX4_init_66 : decode cX4_init 66 = .ok (.istore_n 1, 1) := by decide +kernel
theorem dX4_init_67 : decode cX4_init 67 = .ok (.iload_n 1, 1) := by decide +kernel
theorem dX4_init_68 : decode cX4_init 68 = .ok (.aload_n 0, 1) := by decide +kernel
theorem dX4_init_69 : decode cX4_init 69 = .ok (.getfield 27, 3) := by decide +kernel
theorem dX4_init_72 : decode cX4_init 72 = .ok (.arraylength, 1) := by decide +kernel
theorem dX4_init_73 : decode cX4_init 73 = .ok (.if_icmp .ge 22, 3) := by decide +kernel
theorem dX4_init_76 : decode cX4_init 76 = .ok (.aload_n 0, 1) := by decide +kernel
theorem dX4_init_77 : decode cX4_init 77 = .ok (.getfield 27, 3) := by decide +kernel
theorem dX4_init_80 : decode cX4_init 80 = .ok (.iload_n 1, 1) := by decide +kernel
theorem dX4_init_81 : decode cX4_init 81 = .ok (.new 20, 3) := by decide +kernel
theorem dX4_init_84 : decode cX4_init 84 = .ok (.dup, 1) := by decide +kernel
theorem dX4_init_85 : decode cX4_init 85 = .ok (.invokespecial 22, 3) := by decide +kernel
theorem dX4_init_88 : decode cX4_init 88 = .ok (.aastore, 1) := by decide +kernel
theorem dX4_init_89 : decode cX4_init 89 = .ok (.iinc 1 1, 3) := by decide +kernel
theorem dX4_init_92 : decode cX4_init 92 = .ok (.goto (-25), 3) := by decide +kernel
theorem dX4_init_95 : decode cX4_init 95 = .ok (.return_, 1) := by decide +kernel
theorem dX4_learn_0 : decode cX4_learn 0 = .ok (.iload_n 1, 1) := by decide +kernel
theorem dX4_learn_1 : decode cX4_learn 1 = .ok (.invokestatic 45, 3) := by decide +kernel
theorem dX4_learn_4 : decode cX4_learn 4 = .ok (.ifCond .ne 13, 3) := by decide +kernel
theorem dX4_learn_7 : decode cX4_learn 7 = .ok (.new 49, 3) := by decide +kernel
theorem dX4_learn_10 : decode cX4_learn 10 = .ok (.dup, 1) := by decide +kernel
theorem dX4_learn_11 : decode cX4_learn 11 = .ok (.ldc 51, 2) := by decide +kernel
theorem dX4_learn_13 : decode cX4_learn 13 = .ok (.invokespecial 53, 3) := by decide +kernel
theorem dX4_learn_16 : decode cX4_learn 16 = .ok (.athrow, 1) := by decide +kernel
theorem dX4_learn_17 : decode cX4_learn 17 = .ok (.aload_n 0, 1) := by decide +kernel
theorem dX4_learn_18 : decode cX4_learn 18 = .ok (.getfield 16, 3) := by decide +kernel
theorem dX4_learn_21 : decode cX4_learn 21 = .ok (.aload_n 0, 1) := by decide +kernel
theorem dX4_learn_22 : decode cX4_learn 22 = .ok (.getfield 9, 3) := by decide +kernel
theorem dX4_learn_25 : decode cX4_learn 25 = .ok (.aload_n 0, 1) := by decide +kernel
theorem dX4_learn_26 : decode cX4_learn 26 = .ok (.getfield 56, 3) := by decide +kernel
theorem dX4_learn_29 : decode cX4_learn 29 = .ok (.invokevirtual 60, 3) := by decide +kernel
theorem dX4_learn_32 : decode cX4_learn 32 = .ok (.ifCond .ne 13, 3) := by decide +kernel
theorem dX4_learn_35 : decode cX4_learn 35 = .ok (.new 64, 3) := by decide +kernel
theorem dX4_learn_38 : decode cX4_learn 38 = .ok (.dup, 1) := by decide +kernel
theorem dX4_learn_39 : decode cX4_learn 39 = .ok (.ldc 66, 2) := by decide +kernel
theorem dX4_learn_41 : decode cX4_learn 41 = .ok (.invokespecial 68, 3) := by decide +kernel
theorem dX4_learn_44 : decode cX4_learn 44 = .ok (.athrow, 1) := by decide +kernel
theorem dX4_learn_45 : decode cX4_learn 45 = .ok (.aload_n 0, 1) := by decide +kernel
theorem dX4_learn_46 : decode cX4_learn 46 = .ok (.getfield 23, 3) := by decide +kernel
theorem dX4_learn_49 : decode cX4_learn 49 = .ok (.iload_n 1, 1) := by decide +kernel
theorem dX4_learn_50 : decode cX4_learn 50 = .ok (.invokevirtual 69, 3) := by decide +kernel
theorem dX4_learn_53 : decode cX4_learn 53 = .ok (.astore_n 2, 1) := by decide +kernel
theorem dX4_learn_54 : decode cX4_learn 54 = .ok (.aload_n 0, 1) := by decide +kernel
theorem dX4_learn_55 : decode cX4_learn 55 = .ok (.aload_n 2, 1) := by decide +kernel
theorem dX4_learn_56 : decode cX4_learn 56 = .ok (.invokevirtual 73, 3) := by decide +kernel
theorem dX4_learn_59 : decode cX4_learn 59 = .ok (.aload_n 0, 1) := by decide +kernel
theorem dX4_learn_60 : decode cX4_learn 60 = .ok (.aload_n 2, 1) := by decide +kernel
theorem dX4_learn_61 : decode cX4_learn 61 = .ok (.invokevirtual 77, 3) := by decide +kernel
theorem dX4_learn_64 : decode cX4_learn 64 = .ok (.ifCond .eq 13, 3) := by decide +kernel
theorem dX4_learn_67 : decode cX4_learn 67 = .ok (.new 81, 3) := by decide +kernel
theorem dX4_learn_70 : decode cX4_learn 70 = .ok (.dup, 1) := by decide +kernel
theorem dX4_learn_71 : decode cX4_learn 71 = .ok (.ldc 83, 2) := by decide +kernel
theorem dX4_learn_73 : decode cX4_learn 73 = .ok (.invokespecial 85, 3) := by decide +kernel
theorem dX4_learn_76 : decode cX4_learn 76 = .ok (.athrow, 1) := by decide +kernel
theorem dX4_learn_77 : decode cX4_learn 77 = .ok (.aload_n 0, 1) := by decide +kernel
theorem dX4_learn_78 : decode cX4_learn 78 = .ok (.invokevirtual 86, 3) := by decide +kernel
theorem dX4_learn_81 : decode cX4_learn 81 = .ok (.aload_n 0, 1) := by decide +kernel
theorem dX4_learn_82 : decode cX4_learn 82 = .ok (.aload_n 2, 1) := by decide +kernel
theorem dX4_learn_83 : decode cX4_learn 83 = .ok (.invokevirtual 89, 3) := by decide +kernel
theorem dX4_learn_86 : decode cX4_learn 86 = .ok (.aload_n 0, 1) := by decide +kernel
theorem dX4_learn_87 : decode cX4_learn 87 = .ok (.iconst 0, 1) := by decide +kernel
theorem dX4_learn_88 : decode cX4_learn 88 = .ok (.putfield 56, 3) := by decide +kernel
theorem dX4_learn_91 : decode cX4_learn 91 = .ok (.aload_n 2, 1) := by decide +kernel
theorem dX4_learn_92 : decode cX4_learn 92 = .ok (.getfield 92, 3) := by decide +kernel
theorem dX4_learn_95 : decode cX4_learn 95 = .ok (.ireturn, 1) := by decide +kernel
theorem dX4_join_0 : decode cX4_join 0 = .ok (.iload_n 1, 1) := by decide +kernel
theorem dX4_join_1 : decode cX4_join 1 = .ok (.invokestatic 45, 3) := by decide +kernel
theorem dX4_join_4 : decode cX4_join 4 = .ok (.ifCond .ne 13, 3) := by decide +kernel
theorem dX4_join_7 : decode cX4_join 7 = .ok (.new 49, 3) := by decide +kernel
theorem dX4_join_10 : decode cX4_join 10 = .ok (.dup, 1) := by decide +kernel
theorem dX4_join_11 : decode cX4_join 11 = .ok (.ldc 51, 2) := by decide +kernel
theorem dX4_join_13 : decode cX4_join 13 = .ok (.invokespecial 53, 3) := by decide +kernel
theorem dX4_join_16 : decode cX4_join 16 = .ok (.athrow, 1) := by decide +kernel
theorem dX4_join_17 : decode cX4_join 17 = .ok (.aload_n 0, 1) := by decide +kernel
theorem dX4_join_18 : decode cX4_join 18 = .ok (.getfield 23, 3) := by decide +kernel
theorem dX4_join_21 : decode cX4_join 21 = .ok (.iload_n 1, 1) := by decide +kernel
theorem dX4_join_22 : decode cX4_join 22 = .ok (.invokevirtual 69, 3) := by decide +kernel
theorem dX4_join_25 : decode cX4_join 25 = .ok (.astore_n 2, 1) := by decide +kernel
theorem dX4_join_26 : decode cX4_join 26 = .ok (.aload_n 0, 1) := by decide +kernel
theorem dX4_join_27 : decode cX4_join 27 = .ok (.aload_n 2, 1) := by decide +kernel
theorem dX4_join_28 : decode cX4_join 28 = .ok (.aload_n 0, 1) := by decide +kernel
theorem dX4_join_29 : decode cX4_join 29 = .ok (.getfield 23, 3) := by decide +kernel
theorem dX4_join_32 : decode cX4_join 32 = .ok (.iconst 1, 1) := by decide +kernel
theorem dX4_join_33 : decode cX4_join 33 = .ok (.iload_n 1, 1) := by decide +kernel
theorem dX4_join_34 : decode cX4_join 34 = .ok (.isub, 1) := by decide +kernel
theorem dX4_join_35 : decode cX4_join 35 = .ok (.invokevirtual 69, 3) := by decide +kernel
theorem dX4_join_38 : decode cX4_join 38 = .ok (.invokevirtual 95, 3) := by decide +kernel
theorem dX4_join_41 : decode cX4_join 41 = .ok (.aload_n 0, 1) := by decide +kernel
theorem dX4_join_42 : decode cX4_join 42 = .ok (.getfield 34, 3) := by decide +kernel
theorem dX4_join_45 : decode cX4_join 45 = .ok (.getfield 92, 3) := by decide +kernel
theorem dX4_join_48 : decode cX4_join 48 = .ok (.bipush 30, 2) := by decide +kernel
theorem dX4_join_50 : decode cX4_join 50 = .ok (.if_icmp .le 13, 3) := by decide +kernel
theorem dX4_join_53 : decode cX4_join 53 = .ok (.new 81, 3) := by decide +kernel
theorem dX4_join_56 : decode cX4_join 56 = .ok (.dup, 1) := by decide +kernel
theorem dX4_join_57 : decode cX4_join 57 = .ok (.ldc 99, 2) := by decide +kernel
theorem dX4_join_59 : decode cX4_join 59 = .ok (.invokespecial 85, 3) := by decide +kernel
theorem dX4_join_62 : decode cX4_join 62 = .ok (.athrow, 1) := by decide +kernel
theorem dX4_join_63 : decode cX4_join 63 = .ok (.aload_n 0, 1) := by decide +kernel
theorem dX4_join_64 : decode cX4_join 64 = .ok (.invokevirtual 86, 3) := by decide +kernel
theorem dX4_join_67 : decode cX4_join 67 = .ok (.aload_n 0, 1) := by decide +kernel
theorem dX4_join_68 : decode cX4_join 68 = .ok (.aload_n 2, 1) := by decide +kernel
theorem dX4_join_69 : decode cX4_join 69 = .ok (.invokevirtual 89, 3) := by decide +kernel
theorem dX4_join_72 : decode cX4_join 72 = .ok (.aload_n 2, 1) := by decide +kernel
theorem dX4_join_73 : decode cX4_join 73 = .ok (.getfield 92, 3) := by decide +kernel
theorem dX4_join_76 : decode cX4_join 76 = .ok (.ireturn, 1) := by decide +kernel
theorem dX4_forget_0 : decode cX4_forget 0 = .ok (.iload_n 1, 1) := by decide +kernel
theorem dX4_forget_1 : decode cX4_forget 1 = .ok (.invokestatic 45, 3) := by decide +kernel
theorem dX4_forget_4 : decode cX4_forget 4 = .ok (.ifCond .ne 13, 3) := by decide +kernel
theorem dX4_forget_7 : decode cX4_forget 7 = .ok (.new 49, 3) := by decide +kernel
theorem dX4_forget_10 : decode cX4_forget 10 = .ok (.dup, 1) := by decide +kernel
theorem dX4_forget_11 : decode cX4_forget 11 = .ok (.ldc 51, 2) := by decide +kernel
theorem dX4_forget_13 : decode cX4_forget 13 = .ok (.invokespecial 53, 3) := by decide +kernel
theorem dX4_forget_16 : decode cX4_forget 16 = .ok (.athrow, 1) := by decide +kernel
theorem dX4_forget_17 : decode cX4_forget 17 = .ok (.aload_n 0, 1) := by decide +kernel
theorem dX4_forget_18 : decode cX4_forget 18 = .ok (.invokevirtual 86, 3) := by decide +kernel
theorem dX4_forget_21 : decode cX4_forget 21 = .ok (.aload_n 0, 1) := by decide +kernel
theorem dX4_forget_22 : decode cX4_forget 22 = .ok (.getfield 23, 3) := by decide +kernel
theorem dX4_forget_25 : decode cX4_forget 25 = .ok (.iload_n 1, 1) := by decide +kernel
theorem dX4_forget_26 : decode cX4_forget 26 = .ok (.invokevirtual 69, 3) := by decide +kernel
theorem dX4_forget_29 : decode cX4_forget 29 = .ok (.astore_n 2, 1) := by decide +kernel
theorem dX4_forget_30 : decode cX4_forget 30 = .ok (.aload_n 2, 1) := by decide +kernel
theorem dX4_forget_31 : decode cX4_forget 31 = .ok (.getfield 92, 3) := by decide +kernel
theorem dX4_forget_34 : decode cX4_forget 34 = .ok (.istore_n 3, 1) := by decide +kernel
theorem dX4_forget_35 : decode cX4_forget 35 = .ok (.aload_n 2, 1) := by decide +kernel
theorem dX4_forget_36 : decode cX4_forget 36 = .ok (.invokevirtual 101, 3) := by decide +kernel
theorem dX4_forget_39 : decode cX4_forget 39 = .ok (.iload_n 3, 1) := by decide +kernel
theorem dX4_forget_40 : decode cX4_forget 40 = .ok (.ireturn, 1) := by decide +kernel
theorem dX4_swap_0 : decode cX4_swap 0 = .ok (.aload_n 0, 1) := by decide +kernel
theorem dX4_swap_1 : decode cX4_swap 1 = .ok (.invokevirtual 86, 3) := by decide +kernel
theorem dX4_swap_4 : decode cX4_swap 4 = .ok (.aload_n 0, 1) := by decide +kernel
theorem dX4_swap_5 : decode cX4_swap 5 = .ok (.getfield 34, 3) := by decide +kernel
theorem dX4_swap_8 : decode cX4_swap 8 = .ok (.aload_n 0, 1) := by decide +kernel
theorem dX4_swap_9 : decode cX4_swap 9 = .ok (.getfield 23, 3) := by decide +kernel
theorem dX4_swap_12 : decode cX4_swap 12 = .ok (.getfield 104, 3) := by decide +kernel
theorem dX4_swap_15 : decode cX4_swap 15 = .ok (.invokevirtual 107, 3) := by decide +kernel
theorem dX4_swap_18 : decode cX4_swap 18 = .ok (.aload_n 0, 1) := by decide +kernel
theorem dX4_swap_19 : decode cX4_swap 19 = .ok (.getfield 23, 3) := by decide +kernel
theorem dX4_swap_22 : decode cX4_swap 22 = .ok (.getfield 104, 3) := by decide +kernel
theorem dX4_swap_25 : decode cX4_swap 25 = .ok (.aload_n 0, 1) := by decide +kernel
theorem dX4_swap_26 : decode cX4_swap 26 = .ok (.getfield 23, 3) := by decide +kernel
theorem dX4_swap_29 : decode cX4_swap 29 = .ok (.getfield 110, 3) := by decide +kernel
theorem dX4_swap_32 : decode cX4_swap 32 = .ok (.invokevirtual 107, 3) := by decide +kernel
theorem dX4_swap_35 : decode cX4_swap 35 = .ok (.aload_n 0, 1) := by decide +kernel
theorem dX4_swap_36 : decode cX4_swap 36 = .ok (.getfield 23, 3) := by decide +kernel
theorem dX4_swap_39 : decode cX4_swap 39 = .ok (.getfield 110, 3) := by decide +kernel
theorem dX4_swap_42 : decode cX4_swap 42 = .ok (.aload_n 0, 1) := by decide +kernel
theorem dX4_swap_43 : decode cX4_swap 43 = .ok (.getfield 34, 3) := by decide +kernel
theorem dX4_swap_46 : decode cX4_swap 46 = .ok (.invokevirtual 107, 3) := by decide +kernel
theorem dX4_swap_49 : decode cX4_swap 49 = .ok (.aload_n 0, 1) := by decide +kernel
theorem dX4_swap_50 : decode cX4_swap 50 = .ok (.getfield 23, 3) := by decide +kernel
theorem dX4_swap_53 : decode cX4_swap 53 = .ok (.getfield 104, 3) := by decide +kernel
theorem dX4_swap_56 : decode cX4_swap 56 = .ok (.getfield 92, 3) := by decide +kernel
theorem dX4_swap_59 : decode cX4_swap 59 = .ok (.ireturn, 1) := by decide +kernel
theorem dX4_set_0 : decode cX4_set 0 = .ok (.iload_n 1, 1) := by decide +kernel
theorem dX4_set_1 : decode cX4_set 1 = .ok (.ifCond .lt 8, 3) := by decide +kernel
theorem dX4_set_4 : decode cX4_set 4 = .ok (.iload_n 1, 1) := by decide +kernel
theorem dX4_set_5 : decode cX4_set 5 = .ok (.iconst 1, 1) := by decide +kernel
theorem dX4_set_6 : decode cX4_set 6 = .ok (.if_icmp .le 13, 3) := by decide +kernel
theorem dX4_set_9 : decode cX4_set 9 = .ok (.new 64, 3) := by decide +kernel
theorem dX4_set_12 : decode cX4_set 12 = .ok (.dup, 1) := by decide +kernel
theorem dX4_set_13 : decode cX4_set 13 = .ok (.ldc 113, 2) := by decide +kernel
theorem dX4_set_15 : decode cX4_set 15 = .ok (.invokespecial 68, 3) := by decide +kernel
theorem dX4_set_18 : decode cX4_set 18 = .ok (.athrow, 1) := by decide +kernel
theorem dX4_set_19 : decode cX4_set 19 = .ok (.aload_n 0, 1) := by decide +kernel
theorem dX4_set_20 : decode cX4_set 20 = .ok (.invokevirtual 86, 3) := by decide +kernel
theorem dX4_set_23 : decode cX4_set 23 = .ok (.aload_n 0, 1) := by decide +kernel
theorem dX4_set_24 : decode cX4_set 24 = .ok (.getfield 23, 3) := by decide +kernel
theorem dX4_set_27 : decode cX4_set 27 = .ok (.getfield 115, 3) := by decide +kernel
theorem dX4_set_30 : decode cX4_set 30 = .ok (.istore_n 2, 1) := by decide +kernel
theorem dX4_set_31 : decode cX4_set 31 = .ok (.aload_n 0, 1) := by decide +kernel
theorem dX4_set_32 : decode cX4_set 32 = .ok (.getfield 23, 3) := by decide +kernel
theorem dX4_set_35 : decode cX4_set 35 = .ok (.iload_n 1, 1) := by decide +kernel
theorem dX4_set_36 : decode cX4_set 36 = .ok (.putfield 115, 3) := by decide +kernel
theorem dX4_set_39 : decode cX4_set 39 = .ok (.iload_n 2, 1) := by decide +kernel
theorem dX4_set_40 : decode cX4_set 40 = .ok (.ireturn, 1) := by decide +kernel
theorem dX4_append_0 : decode cX4_append 0 = .ok (.iload_n 1, 1) := by decide +kernel
theorem dX4_append_1 : decode cX4_append 1 = .ok (.bipush 33, 2) := by decide +kernel
theorem dX4_append_3 : decode cX4_append 3 = .ok (.if_icmp .lt 9, 3) := by decide +kernel
theorem dX4_append_6 : decode cX4_append 6 = .ok (.iload_n 1, 1) := by decide +kernel
theorem dX4_append_7 : decode cX4_append 7 = .ok (.bipush 126, 2) := by decide +kernel
theorem dX4_append_9 : decode cX4_append 9 = .ok (.if_icmp .le 13, 3) := by decide +kernel
theorem dX4_append_12 : decode cX4_append 12 = .ok (.new 64, 3) := by decide +kernel
theorem dX4_append_15 : decode cX4_append 15 = .ok (.dup, 1) := by decide +kernel
theorem dX4_append_16 : decode cX4_append 16 = .ok (.ldc 118, 2) := by decide +kernel
theorem dX4_append_18 : decode cX4_append 18 = .ok (.invokespecial 68, 3) := by decide +kernel
theorem dX4_append_21 : decode cX4_append 21 = .ok (.athrow, 1) := by decide +kernel
theorem dX4_append_22 : decode cX4_append 22 = .ok (.aload_n 0, 1) := by decide +kernel
theorem dX4_append_23 : decode cX4_append 23 = .ok (.getfield 56, 3) := by decide +kernel
theorem dX4_append_26 : decode cX4_append 26 = .ok (.ifCond .lt 15, 3) := by decide +kernel
theorem dX4_append_29 : decode cX4_append 29 = .ok (.aload_n 0, 1) := by decide +kernel
theorem dX4_append_30 : decode cX4_append 30 = .ok (.getfield 56, 3) := by decide +kernel
theorem dX4_append_33 : decode cX4_append 33 = .ok (.aload_n 0, 1) := by decide +kernel
theorem dX4_append_34 : decode cX4_append 34 = .ok (.getfield 9, 3) := by decide +kernel
theorem dX4_append_37 : decode cX4_append 37 = .ok (.arraylength, 1) := by decide +kernel
theorem dX4_append_38 : decode cX4_append 38 = .ok (.if_icmp .lt 13, 3) := by decide +kernel
theorem dX4_append_41 : decode cX4_append 41 = .ok (.new 81, 3) := by decide +kernel
theorem dX4_append_44 : decode cX4_append 44 = .ok (.dup, 1) := by decide +kernel
theorem dX4_append_45 : decode cX4_append 45 = .ok (.ldc 120, 2) := by decide +kernel
theorem dX4_append_47 : decode cX4_append 47 = .ok (.invokespecial 85, 3) := by decide +kernel
theorem dX4_append_50 : decode cX4_append 50 = .ok (.athrow, 1) := by decide +kernel
theorem dX4_append_51 : decode cX4_append 51 = .ok (.aload_n 0, 1) := by decide +kernel
theorem dX4_append_52 : decode cX4_append 52 = .ok (.getfield 9, 3) := by decide +kernel
theorem dX4_append_55 : decode cX4_append 55 = .ok (.aload_n 0, 1) := by decide +kernel
theorem dX4_append_56 : decode cX4_append 56 = .ok (.getfield 56, 3) := by decide +kernel
theorem dX4_append_59 : decode cX4_append 59 = .ok (.iload_n 1, 1) := by decide +kernel
theorem dX4_append_60 : decode cX4_append 60 = .ok (.iastore, 1) := by decide +kernel
theorem dX4_append_61 : decode cX4_append 61 = .ok (.aload_n 0, 1) := by decide +kernel
theorem dX4_append_62 : decode cX4_append 62 = .ok (.dup, 1) := by decide +kernel
