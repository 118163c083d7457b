theorem dX5_turnBack_38 : decode cX5_turnBack 38 = .ok (.getfield 25, 3) := by decide +kernel
theorem dX5_turnBack_41 : decode cX5_turnBack 41 = .ok (.lmul, 1) := by decide +kernel
theorem dX5_turnBack_42 : decode cX5_turnBack 42 = .ok (.lsub, 1) := by decide +kernel
theorem dX5_turnBack_43 : decode cX5_turnBack 43 = .ok (.putfield 31, 3) := by decide +kernel
theorem dX5_turnBack_46 : decode cX5_turnBack 46 = .ok (.aload_n 0, 1) := by decide +kernel
theorem dX5_turnBack_47 : decode cX5_turnBack 47 = .ok (.aload_n 0, 1) := by decide +kernel
theorem dX5_turnBack_48 : decode cX5_turnBack 48 = .ok (.getfield 13, 3) := by decide +kernel
theorem dX5_turnBack_51 : decode cX5_turnBack 51 = .ok (.aload_n 0, 1) := by decide +kernel
theorem dX5_turnBack_52 : decode cX5_turnBack 52 = .ok (.getfield 19, 3) := by decide +kernel
theorem dX5_turnBack_55 : decode cX5_turnBack 55 = .ok (.lmul, 1) := by decide +kernel
theorem dX5_turnBack_56 : decode cX5_turnBack 56 = .ok (.aload_n 0, 1) := by decide +kernel
theorem dX5_turnBack_57 : decode cX5_turnBack 57 = .ok (.getfield 16, 3) := by decide +kernel
theorem dX5_turnBack_60 : decode cX5_turnBack 60 = .ok (.aload_n 0, 1) := by decide +kernel
theorem dX5_turnBack_61 : decode cX5_turnBack 61 = .ok (.getfield 22, 3) := by decide +kernel
theorem dX5_turnBack_64 : decode cX5_turnBack 64 = .ok (.lmul, 1) := by decide +kernel
theorem dX5_turnBack_65 : decode cX5_turnBack 65 = .ok (.lsub, 1) := by decide +kernel
theorem dX5_turnBack_66 : decode cX5_turnBack 66 = .ok (.putfield 34, 3) := by decide +kernel
theorem dX5_turnBack_69 : decode cX5_turnBack 69 = .ok (.aload_n 0, 1) := by decide +kernel
theorem dX5_turnBack_70 : decode cX5_turnBack 70 = .ok (.aload_n 0, 1) := by decide +kernel
theorem dX5_turnBack_71 : decode cX5_turnBack 71 = .ok (.getfield 7, 3) := by decide +kernel
theorem dX5_turnBack_74 : decode cX5_turnBack 74 = .ok (.aload_n 0, 1) := by decide +kernel
theorem dX5_turnBack_75 : decode cX5_turnBack 75 = .ok (.getfield 25, 3) := by decide +kernel
theorem dX5_turnBack_78 : decode cX5_turnBack 78 = .ok (.lmul, 1) := by decide +kernel
theorem dX5_turnBack_79 : decode cX5_turnBack 79 = .ok (.aload_n 0, 1) := by decide +kernel
theorem dX5_turnBack_80 : decode cX5_turnBack 80 = .ok (.getfield 16, 3) := by decide +kernel
theorem dX5_turnBack_83 : decode cX5_turnBack 83 = .ok (.aload_n 0, 1) := by decide +kernel
theorem dX5_turnBack_84 : decode cX5_turnBack 84 = .ok (.getfield 16, 3) := by decide +kernel
theorem dX5_turnBack_87 : decode cX5_turnBack 87 = .ok (.lmul, 1) := by decide +kernel
theorem dX5_turnBack_88 : decode cX5_turnBack 88 = .ok (.lsub, 1) := by decide +kernel
theorem dX5_turnBack_89 : decode cX5_turnBack 89 = .ok (.putfield 37, 3) := by decide +kernel
theorem dX5_turnBack_92 : decode cX5_turnBack 92 = .ok (.aload_n 0, 1) := by decide +kernel
theorem dX5_turnBack_93 : decode cX5_turnBack 93 = .ok (.aload_n 0, 1) := by decide +kernel
theorem dX5_turnBack_94 : decode cX5_turnBack 94 = .ok (.getfield 13, 3) := by decide +kernel
theorem dX5_turnBack_97 : decode cX5_turnBack 97 = .ok (.aload_n 0, 1) := by decide +kernel
theorem dX5_turnBack_98 : decode cX5_turnBack 98 = .ok (.getfield 16, 3) := by decide +kernel
theorem dX5_turnBack_101 : decode cX5_turnBack 101 = .ok (.lmul, 1) := by decide +kernel
theorem dX5_turnBack_102 : decode cX5_turnBack 102 = .ok (.aload_n 0, 1) := by decide +kernel
theorem dX5_turnBack_103 : decode cX5_turnBack 103 = .ok (.getfield 7, 3) := by decide +kernel
theorem dX5_turnBack_106 : decode cX5_turnBack 106 = .ok (.aload_n 0, 1) := by decide +kernel
theorem dX5_turnBack_107 : decode cX5_turnBack 107 = .ok (.getfield 19, 3) := by decide +kernel
theorem dX5_turnBack_110 : decode cX5_turnBack 110 = .ok (.lmul, 1) := by decide +kernel
theorem dX5_turnBack_111 : decode cX5_turnBack 111 = .ok (.lsub, 1) := by decide +kernel
theorem dX5_turnBack_112 : decode cX5_turnBack 112 = .ok (.putfield 40, 3) := by decide +kernel
theorem dX5_turnBack_115 : decode cX5_turnBack 115 = .ok (.aload_n 0, 1) := by decide +kernel
theorem dX5_turnBack_116 : decode cX5_turnBack 116 = .ok (.aload_n 0, 1) := by decide +kernel
theorem dX5_turnBack_117 : decode cX5_turnBack 117 = .ok (.getfield 7, 3) := by decide +kernel
theorem dX5_turnBack_120 : decode cX5_turnBack 120 = .ok (.aload_n 0, 1) := by decide +kernel
theorem dX5_turnBack_121 : decode cX5_turnBack 121 = .ok (.getfield 22, 3) := by decide +kernel
theorem dX5_turnBack_124 : decode cX5_turnBack 124 = .ok (.lmul, 1) := by decide +kernel
theorem dX5_turnBack_125 : decode cX5_turnBack 125 = .ok (.aload_n 0, 1) := by decide +kernel
theorem dX5_turnBack_126 : decode cX5_turnBack 126 = .ok (.getfield 13, 3) := by decide +kernel
theorem dX5_turnBack_129 : decode cX5_turnBack 129 = .ok (.aload_n 0, 1) := by decide +kernel
theorem dX5_turnBack_130 : decode cX5_turnBack 130 = .ok (.getfield 13, 3) := by decide +kernel
theorem dX5_turnBack_133 : decode cX5_turnBack 133 = .ok (.lmul, 1) := by decide +kernel
theorem dX5_turnBack_134 : decode cX5_turnBack 134 = .ok (.lsub, 1) := by decide +kernel
theorem dX5_turnBack_135 : decode cX5_turnBack 135 = .ok (.putfield 43, 3) := by decide +kernel
theorem dX5_turnBack_138 : decode cX5_turnBack 138 = .ok (.aload_n 0, 1) := by decide +kernel
theorem dX5_turnBack_139 : decode cX5_turnBack 139 = .ok (.aload_n 0, 1) := by decide +kernel
theorem dX5_turnBack_140 : decode cX5_turnBack 140 = .ok (.getfield 7, 3) := by decide +kernel
theorem dX5_turnBack_143 : decode cX5_turnBack 143 = .ok (.aload_n 0, 1) := by decide +kernel
theorem dX5_turnBack_144 : decode cX5_turnBack 144 = .ok (.getfield 28, 3) := by decide +kernel
theorem dX5_turnBack_147 : decode cX5_turnBack 147 = .ok (.lmul, 1) := by decide +kernel
theorem dX5_turnBack_148 : decode cX5_turnBack 148 = .ok (.aload_n 0, 1) := by decide +kernel
theorem dX5_turnBack_149 : decode cX5_turnBack 149 = .ok (.getfield 13, 3) := by decide +kernel
theorem dX5_turnBack_152 : decode cX5_turnBack 152 = .ok (.aload_n 0, 1) := by decide +kernel
theorem dX5_turnBack_153 : decode cX5_turnBack 153 = .ok (.getfield 31, 3) := by decide +kernel
theorem dX5_turnBack_156 : decode cX5_turnBack 156 = .ok (.lmul, 1) := by decide +kernel
theorem dX5_turnBack_157 : decode cX5_turnBack 157 = .ok (.ladd, 1) := by decide +kernel
theorem dX5_turnBack_158 : decode cX5_turnBack 158 = .ok (.aload_n 0, 1) := by decide +kernel
theorem dX5_turnBack_159 : decode cX5_turnBack 159 = .ok (.getfield 16, 3) := by decide +kernel
theorem dX5_turnBack_162 : decode cX5_turnBack 162 = .ok (.aload_n 0, 1) := by decide +kernel
theorem dX5_turnBack_163 : decode cX5_turnBack 163 = .ok (.getfield 34, 3) := by decide +kernel
theorem dX5_turnBack_166 : decode cX5_turnBack 166 = .ok (.lmul, 1) := by decide +kernel
theorem dX5_turnBack_167 : decode cX5_turnBack 167 = .ok (.ladd, 1) := by decide +kernel
theorem dX5_turnBack_168 : decode cX5_turnBack 168 = .ok (.putfield 46, 3) := by decide +kernel
theorem dX5_turnBack_171 : decode cX5_turnBack 171 = .ok (.return_, 1) := by decide +kernel
theorem dX5_formOf_0 : decode cX5_formOf 0 = .ok (.aload_n 0, 1) := by decide +kernel
theorem dX5_formOf_1 : decode cX5_formOf 1 = .ok (.getfield 28, 3) := by decide +kernel
theorem dX5_formOf_4 : decode cX5_formOf 4 = .ok (.lload_n 1, 1) := by decide +kernel
theorem dX5_formOf_5 : decode cX5_formOf 5 = .ok (.lload_n 1, 1) := by decide +kernel
theorem dX5_formOf_6 : decode cX5_formOf 6 = .ok (.lmul, 1) := by decide +kernel
theorem dX5_formOf_7 : decode cX5_formOf 7 = .ok (.aload_n 0, 1) := by decide +kernel
theorem dX5_formOf_8 : decode cX5_formOf 8 = .ok (.getfield 37, 3) := by decide +kernel
theorem dX5_formOf_11 : decode cX5_formOf 11 = .ok (.lmul, 1) := by decide +kernel
theorem dX5_formOf_12 : decode cX5_formOf 12 = .ok (.ladd, 1) := by decide +kernel
theorem dX5_formOf_13 : decode cX5_formOf 13 = .ok (.lload_n 3, 1) := by decide +kernel
theorem dX5_formOf_14 : decode cX5_formOf 14 = .ok (.lload_n 3, 1) := by decide +kernel
theorem dX5_formOf_15 : decode cX5_formOf 15 = .ok (.lmul, 1) := by decide +kernel
theorem dX5_formOf_16 : decode cX5_formOf 16 = .ok (.aload_n 0, 1) := by decide +kernel
theorem dX5_formOf_17 : decode cX5_formOf 17 = .ok (.getfield 43, 3) := by decide +kernel
theorem dX5_formOf_20 : decode cX5_formOf 20 = .ok (.lmul, 1) := by decide +kernel
theorem dX5_formOf_21 : decode cX5_formOf 21 = .ok (.ladd, 1) := by decide +kernel
theorem dX5_formOf_22 : decode cX5_formOf 22 = .ok (.ldc2_w 49, 3) := by decide +kernel
theorem dX5_formOf_25 : decode cX5_formOf 25 = .ok (.lload_n 1, 1) := by decide +kernel
theorem dX5_formOf_26 : decode cX5_formOf 26 = .ok (.aload_n 0, 1) := by decide +kernel
theorem dX5_formOf_27 : decode cX5_formOf 27 = .ok (.getfield 31, 3) := by decide +kernel
theorem dX5_formOf_30 : decode cX5_formOf 30 = .ok (.lmul, 1) := by decide +kernel
theorem dX5_formOf_31 : decode cX5_formOf 31 = .ok (.lload_n 3, 1) := by decide +kernel
theorem dX5_formOf_32 : decode cX5_formOf 32 = .ok (.aload_n 0, 1) := by decide +kernel
theorem dX5_formOf_33 : decode cX5_formOf 33 = .ok (.getfield 34, 3) := by decide +kernel
theorem dX5_formOf_36 : decode cX5_formOf 36 = .ok (.lmul, 1) := by decide +kernel
theorem dX5_formOf_37 : decode cX5_formOf 37 = .ok (.ladd, 1) := by decide +kernel
theorem dX5_formOf_38 : decode cX5_formOf 38 = .ok (.lload_n 1, 1) := by decide +kernel
theorem dX5_formOf_39 : decode cX5_formOf 39 = .ok (.lload_n 3, 1) := by decide +kernel
theorem dX5_formOf_40 : decode cX5_formOf 40 = .ok (.lmul, 1) := by decide +kernel
theorem dX5_formOf_41 : decode cX5_formOf 41 = .ok (.aload_n 0, 1) := by decide +kernel
theorem dX5_formOf_42 : decode cX5_formOf 42 = .ok (.getfield 40, 3) := by decide +kernel
theorem dX5_formOf_45 : decode cX5_formOf 45 = .ok (.lmul, 1) := by decide +kernel
theorem dX5_formOf_46 : decode cX5_formOf 46 = .ok (.ladd, 1) := by decide +kernel
theorem dX5_formOf_47 : decode cX5_formOf 47 = .ok (.lmul, 1) := by decide +kernel
theorem dX5_formOf_48 : decode cX5_formOf 48 = .ok (.ladd, 1) := by decide +kernel
theorem dX5_formOf_49 : decode cX5_formOf 49 = .ok (.lreturn, 1) := by decide +kernel
theorem dX6_init_0 : decode cX6_init 0 = .ok (.aload_n 0, 1) := by decide +kernel
theorem dX6_init_1 : decode cX6_init 1 = .ok (.invokespecial 1, 3) := by decide +kernel
theorem dX6_init_4 : decode cX6_init 4 = .ok (.aload_n 0, 1) := by decide +kernel
theorem dX6_init_5 : decode cX6_init 5 = .ok (.new 7, 3) := by decide +kernel
theorem dX6_init_8 : decode cX6_init 8 = .ok (.dup, 1) := by decide +kernel
theorem dX6_init_9 : decode cX6_init 9 = .ok (.invokespecial 9, 3) := by decide +kernel
theorem dX6_init_12 : decode cX6_init 12 = .ok (.putfield 10, 3) := by decide +kernel
theorem dX6_init_15 : decode cX6_init 15 = .ok (.aload_n 0, 1) := by decide +kernel
theorem dX6_init_16 : decode cX6_init 16 = .ok (.new 16, 3) := by decide +kernel
theorem dX6_init_19 : decode cX6_init 19 = .ok (.dup, 1) := by decide +kernel
theorem dX6_init_20 : decode cX6_init 20 = .ok (.invokespecial 18, 3) := by decide +kernel
theorem dX6_init_23 : decode cX6_init 23 = .ok (.putfield 19, 3) := by decide +kernel
theorem dX6_init_26 : decode cX6_init 26 = .ok (.aload_n 0, 1) := by decide +kernel
theorem dX6_init_27 : decode cX6_init 27 = .ok (.new 23, 3) := by decide +kernel
theorem dX6_init_30 : decode cX6_init 30 = .ok (.dup, 1) := by decide +kernel
theorem dX6_init_31 : decode cX6_init 31 = .ok (.invokespecial 25, 3) := by decide +kernel
theorem dX6_init_34 : decode cX6_init 34 = .ok (.putfield 26, 3) := by decide +kernel
theorem dX6_init_37 : decode cX6_init 37 = .ok (.aload_n 0, 1) := by decide +kernel
theorem dX6_init_38 : decode cX6_init 38 = .ok (.new 30, 3) := by decide +kernel
theorem dX6_init_41 : decode cX6_init 41 = .ok (.dup, 1) := by decide +kernel
theorem dX6_init_42 : decode cX6_init 42 = .ok (.invokespecial 32, 3) := by decide +kernel
theorem dX6_init_45 : decode cX6_init 45 = .ok (.putfield 33, 3) := by decide +kernel
theorem dX6_init_48 : decode cX6_init 48 = .ok (.aload_n 0, 1) := by decide +kernel
theorem dX6_init_49 : decode cX6_init 49 = .ok (.new 37, 3) := by decide +kernel
theorem dX6_init_52 : decode cX6_init 52 = .ok (.dup, 1) := by decide +kernel
theorem dX6_init_53 : decode cX6_init 53 = .ok (.invokespecial 39, 3) := by decide +kernel
theorem dX6_init_56 : decode cX6_init 56 = .ok (.putfield 40, 3) := by decide +kernel
theorem dX6_init_59 : decode cX6_init 59 = .ok (.return_, 1) := by decide +kernel
theorem dX6_mark_0 : decode cX6_mark 0 = .ok (.iload_n 1, 1) := by decide +kernel
theorem dX6_mark_1 : decode cX6_mark 1 = .ok (.bipush (-5), 2) := by decide +kernel
theorem dX6_mark_3 : decode cX6_mark 3 = .ok (.iconst 5, 1) := by decide +kernel
theorem dX6_mark_4 : decode cX6_mark 4 = .ok (.invokestatic 44, 3) := by decide +kernel
theorem dX6_mark_7 : decode cX6_mark 7 = .ok (.ifCond .ne 34, 3) := by decide +kernel
theorem dX6_mark_10 : decode cX6_mark 10 = .ok (.iload_n 2, 1) := by decide +kernel
theorem dX6_mark_11 : decode cX6_mark 11 = .ok (.bipush (-5), 2) := by decide +kernel
theorem dX6_mark_13 : decode cX6_mark 13 = .ok (.iconst 5, 1) := by decide +kernel
theorem dX6_mark_14 : decode cX6_mark 14 = .ok (.invokestatic 44, 3) := by decide +kernel
theorem dX6_mark_17 : decode cX6_mark 17 = .ok (.ifCond .ne 24, 3) := by decide +kernel
theorem dX6_mark_20 : decode cX6_mark 20 = .ok (.iload_n 3, 1) := by decide +kernel
theorem dX6_mark_21 : decode cX6_mark 21 = .ok (.bipush (-3), 2) := by decide +kernel
theorem dX6_mark_23 : decode cX6_mark 23 = .ok (.iconst 3, 1) := by decide +kernel
theorem dX6_mark_24 : decode cX6_mark 24 = .ok (.invokestatic 44, 3) := by decide +kernel
theorem dX6_mark_27 : decode cX6_mark 27 = .ok (.ifCond .ne 14, 3) := by decide +kernel
theorem dX6_mark_30 : decode cX6_mark 30 = .ok (.iload 4, 2) := by decide +kernel
theorem dX6_mark_32 : decode cX6_mark 32 = .ok (.bipush (-3), 2) := by decide +kernel
theorem dX6_mark_34 : decode cX6_mark 34 = .ok (.iconst 3, 1) := by decide +kernel
theorem dX6_mark_35 : decode cX6_mark 35 = .ok (.invokestatic 44, 3) := by decide +kernel
theorem dX6_mark_38 : decode cX6_mark 38 = .ok (.ifCond .eq 6, 3) := by decide +kernel
theorem dX6_mark_41 : decode cX6_mark 41 = .ok (.ldc 48, 2) := by decide +kernel
theorem dX6_mark_43 : decode cX6_mark 43 = .ok (.ireturn, 1) := by decide +kernel
theorem dX6_mark_44 : decode cX6_mark 44 = .ok (.aload_n 0, 1) := by decide +kernel
theorem dX6_mark_45 : decode cX6_mark 45 = .ok (.getfield 10, 3) := by decide +kernel
theorem dX6_mark_48 : decode cX6_mark 48 = .ok (.getfield 49, 3) := by decide +kernel
theorem dX6_mark_51 : decode cX6_mark 51 = .ok (.bipush 12, 2) := by decide +kernel
theorem dX6_mark_53 : decode cX6_mark 53 = .ok (.if_icmp .lt 6, 3) := by decide +kernel
theorem dX6_mark_56 : decode cX6_mark 56 = .ok (.ldc 53, 2) := by decide +kernel
theorem dX6_mark_58 : decode cX6_mark 58 = .ok (.ireturn, 1) := by decide +kernel
theorem dX6_mark_59 : decode cX6_mark 59 = .ok (.aload_n 0, 1) := by decide +kernel
theorem dX6_mark_60 : decode cX6_mark 60 = .ok (.getfield 10, 3) := by decide +kernel
theorem dX6_mark_63 : decode cX6_mark 63 = .ok (.iload_n 1, 1) := by decide +kernel
theorem dX6_mark_64 : decode cX6_mark 64 = .ok (.iload_n 2, 1) := by decide +kernel
theorem dX6_mark_65 : decode cX6_mark 65 = .ok (.iload_n 3, 1) := by decide +kernel
theorem dX6_mark_66 : decode cX6_mark 66 = .ok (.iload 4, 2) := by decide +kernel
theorem dX6_mark_68 : decode cX6_mark 68 = .ok (.invokevirtual 54, 3) := by decide +kernel
theorem dX6_mark_71 : decode cX6_mark 71 = .ok (.ireturn, 1) := by decide +kernel
theorem dX6_read_0 : decode cX6_read 0 = .ok (.aload_n 0, 1) := by decide +kernel
theorem dX6_read_1 : decode cX6_read 1 = .ok (.getfield 10, 3) := by decide +kernel
theorem dX6_read_4 : decode cX6_read 4 = .ok (.iload_n 1, 1) := by decide +kernel
theorem dX6_read_5 : decode cX6_read 5 = .ok (.invokevirtual 58, 3) := by decide +kernel
theorem dX6_read_8 : decode cX6_read 8 = .ok (.ifCond .ne 6, 3) := by decide +kernel
theorem dX6_read_11 : decode cX6_read 11 = .ok (.ldc 62, 2) := by decide +kernel
theorem dX6_read_13 : decode cX6_read 13 = .ok (.ireturn, 1) := by decide +kernel
theorem dX6_read_14 : decode cX6_read 14 = .ok (.iload_n 2, 1) := by decide +kernel
theorem dX6_read_15 : decode cX6_read 15 = .ok (.sipush (-999), 3) := by decide +kernel
theorem dX6_read_18 : decode cX6_read 18 = .ok (.sipush 999, 3) := by decide +kernel
theorem dX6_read_21 : decode cX6_read 21 = .ok (.invokestatic 44, 3) := by decide +kernel
theorem dX6_read_24 : decode cX6_read 24 = .ok (.ifCond .ne 16, 3) := by decide +kernel
theorem dX6_read_27 : decode cX6_read 27 = .ok (.iload_n 3, 1) := by decide +kernel
theorem dX6_read_28 : decode cX6_read 28 = .ok (.sipush (-999), 3) := by decide +kernel
theorem dX6_read_31 : decode cX6_read 31 = .ok (.sipush 999, 3) := by decide +kernel
theorem dX6_read_34 : decode cX6_read 34 = .ok (.invokestatic 44, 3) := by decide +kernel
theorem dX6_read_37 : decode cX6_read 37 = .ok (.ifCond .eq 6, 3) := by decide +kernel
theorem dX6_read_40 : decode cX6_read 40 = .ok (.ldc 48, 2) := by decide +kernel
theorem dX6_read_42 : decode cX6_read 42 = .ok (.ireturn, 1) := by decide +kernel
theorem dX6_read_43 : decode cX6_read 43 = .ok (.aload_n 0, 1) := by decide +kernel
theorem dX6_read_44 : decode cX6_read 44 = .ok (.getfield 10, 3) := by decide +kernel
theorem dX6_read_47 : decode cX6_read 47 = .ok (.iload_n 1, 1) := by decide +kernel
theorem dX6_read_48 : decode cX6_read 48 = .ok (.iload_n 2, 1) := by decide +kernel
theorem dX6_read_49 : decode cX6_read 49 = .ok (.iload_n 3, 1) := by decide +kernel
theorem dX6_read_50 : decode cX6_read 50 = .ok (.invokevirtual 63, 3) := by decide +kernel
theorem dX6_read_53 : decode cX6_read 53 = .ok (.iconst 1, 1) := by decide +kernel
theorem dX6_read_54 : decode cX6_read 54 = .ok (.ireturn, 1) := by decide +kernel
theorem dX6_lose_0 : decode cX6_lose 0 = .ok (.aload_n 0, 1) := by decide +kernel
theorem dX6_lose_1 : decode cX6_lose 1 = .ok (.getfield 10, 3) := by decide +kernel
theorem dX6_lose_4 : decode cX6_lose 4 = .ok (.iload_n 1, 1) := by decide +kernel
theorem dX6_lose_5 : decode cX6_lose 5 = .ok (.invokevirtual 58, 3) := by decide +kernel
theorem dX6_lose_8 : decode cX6_lose 8 = .ok (.ifCond .ne 6, 3) := by decide +kernel
theorem dX6_lose_11 : decode cX6_lose 11 = .ok (.ldc 62, 2) := by decide +kernel
theorem dX6_lose_13 : decode cX6_lose 13 = .ok (.ireturn, 1) := by decide +kernel
theorem dX6_lose_14 : decode cX6_lose 14 = .ok (.aload_n 0, 1) := by decide +kernel
theorem dX6_lose_15 : decode cX6_lose 15 = .ok (.getfield 10, 3) := by decide +kernel
theorem dX6_lose_18 : decode cX6_lose 18 = .ok (.getfield 67, 3) := by decide +kernel
theorem dX6_lose_21 : decode cX6_lose 21 = .ok (.iload_n 1, 1) := by decide +kernel
theorem dX6_lose_22 : decode cX6_lose 22 = .ok (.invokestatic 70, 3) := by decide +kernel
theorem dX6_lose_25 : decode cX6_lose 25 = .ok (.ifCond .eq 5, 3) := by decide +kernel
theorem dX6_lose_28 : decode cX6_lose 28 = .ok (.iconst 0, 1) := by decide +kernel
theorem dX6_lose_29 : decode cX6_lose 29 = .ok (.ireturn, 1) := by decide +kernel
theorem dX6_lose_30 : decode cX6_lose 30 = .ok (.aload_n 0, 1) := by decide +kernel
theorem dX6_lose_31 : decode cX6_lose 31 = .ok (.getfield 10, 3) := by decide +kernel
theorem dX6_lose_34 : decode cX6_lose 34 = .ok (.iload_n 1, 1) := by decide +kernel
theorem dX6_lose_35 : decode cX6_lose 35 = .ok (.invokevirtual 74, 3) := by decide +kernel
theorem dX6_lose_38 : decode cX6_lose 38 = .ok (.iconst 1, 1) := by decide +kernel
theorem dX6_lose_39 : decode cX6_lose 39 = .ok (.ireturn, 1) := by decide +kernel
theorem dX6_told_0 : decode cX6_told 0 = .ok (.aload_n 0, 1) := by decide +kernel
theorem dX6_told_1 : decode cX6_told 1 = .ok (.getfield 10, 3) := by decide +kernel
theorem dX6_told_4 : decode cX6_told 4 = .ok (.iload_n 1, 1) := by decide +kernel
theorem dX6_told_5 : decode cX6_told 5 = .ok (.invokevirtual 58, 3) := by decide +kernel
theorem dX6_told_8 : decode cX6_told 8 = .ok (.ifCond .ne 6, 3) := by decide +kernel
theorem dX6_told_11 : decode cX6_told 11 = .ok (.ldc 62, 2) := by decide +kernel
theorem dX6_told_13 : decode cX6_told 13 = .ok (.ireturn, 1) := by decide +kernel
theorem dX6_told_14 : decode cX6_told 14 = .ok (.iload_n 2, 1) := by decide +kernel
theorem dX6_told_15 : decode cX6_told 15 = .ok (.tableswitch 149 0 7 #[45, 55, 65, 75, 85, 97, 109, 129], 45) := by decide +kernel
theorem dX6_told_60 : decode cX6_told 60 = .ok (.aload_n 0, 1) := by decide +kernel
theorem dX6_told_61 : decode cX6_told 61 = .ok (.getfield 10, 3) := by decide +kernel
theorem dX6_told_64 : decode cX6_told 64 = .ok (.getfield 78, 3) := by decide +kernel
theorem dX6_told_67 : decode cX6_told 67 = .ok (.iload_n 1, 1) := by decide +kernel
theorem dX6_told_68 : decode cX6_told 68 = .ok (.iaload, 1) := by decide +kernel
theorem dX6_told_69 : decode cX6_told 69 = .ok (.ireturn, 1) := by decide +kernel
theorem dX6_told_70 : decode cX6_told 70 = .ok (.aload_n 0, 1) := by decide +kernel
theorem dX6_told_71 : decode cX6_told 71 = .ok (.getfield 10, 3) := by decide +kernel
theorem dX6_told_74 : decode cX6_told 74 = .ok (.getfield 82, 3) := by decide +kernel
theorem dX6_told_77 : decode cX6_told 77 = .ok (.iload_n 1, 1) := by decide +kernel
theorem dX6_told_78 : decode cX6_told 78 = .ok (.iaload, 1) := by decide +kernel
theorem dX6_told_79 : decode cX6_told 79 = .ok (.ireturn, 1) := by decide +kernel
theorem dX6_told_80 : decode cX6_told 80 = .ok (.aload_n 0, 1) := by decide +kernel
theorem dX6_told_81 : decode cX6_told 81 = .ok (.getfield 10, 3) := by decide +kernel
theorem dX6_told_84 : decode cX6_told 84 = .ok (.getfield 85, 3) := by decide +kernel
theorem dX6_told_87 : decode cX6_told 87 = .ok (.iload_n 1, 1) := by decide +kernel
theorem dX6_told_88 : decode cX6_told 88 = .ok (.iaload, 1) := by decide +kernel
theorem dX6_told_89 : decode cX6_told 89 = .ok (.ireturn, 1) := by decide +kernel
theorem dX6_told_90 : decode cX6_told 90 = .ok (.aload_n 0, 1) := by decide +kernel
theorem dX6_told_91 : decode cX6_told 91 = .ok (.getfield 10, 3) := by decide +kernel
theorem dX6_told_94 : decode cX6_told 94 = .ok (.getfield 88, 3) := by decide +kernel
theorem dX6_told_97 : decode cX6_told 97 = .ok (.iload_n 1, 1) := by decide +kernel
theorem dX6_told_98 : decode cX6_told 98 = .ok (.iaload, 1) := by decide +kernel
theorem dX6_told_99 : decode cX6_told 99 = .ok (.ireturn, 1) := by decide +kernel
theorem dX6_told_100 : decode cX6_told 100 = .ok (.aload_n 0, 1) := by decide +kernel
theorem dX6_told_101 : decode cX6_told 101 = .ok (.getfield 10, 3) := by decide +kernel
theorem dX6_told_104 : decode cX6_told 104 = .ok (.getfield 91, 3) := by decide +kernel
theorem dX6_told_107 : decode cX6_told 107 = .ok (.iconst 0, 1) := by decide +kernel
theorem dX6_told_108 : decode cX6_told 108 = .ok (.aaload, 1) := by decide +kernel
theorem dX6_told_109 : decode cX6_told 109 = .ok (.iload_n 1, 1) := by decide +kernel
theorem dX6_told_110 : decode cX6_told 110 = .ok (.iaload, 1) := by decide +kernel
theorem dX6_told_111 : decode cX6_told 111 = .ok (.ireturn, 1) := by decide +kernel
theorem dX6_told_112 : decode cX6_told 112 = .ok (.aload_n 0, 1) := by decide +kernel
theorem dX6_told_113 : decode cX6_told 113 = .ok (.getfield 10, 3) := by decide +kernel
theorem dX6_told_116 : decode cX6_told 116 = .ok (.getfield 91, 3) := by decide +kernel
theorem dX6_told_119 : decode cX6_told 119 = .ok (.iconst 1, 1) := by decide +kernel
theorem dX6_told_120 : decode cX6_told 120 = .ok (.aaload, 1) := by decide +kernel
theorem dX6_told_121 : decode cX6_told 121 = .ok (.iload_n 1, 1) := by decide +kernel
theorem dX6_told_122 : decode cX6_told 122 = .ok (.iaload, 1) := by decide +kernel
theorem dX6_told_123 : decode cX6_told 123 = .ok (.ireturn, 1) := by decide +kernel
theorem dX6_told_124 : decode cX6_told 124 = .ok (.aload_n 0, 1) := by decide +kernel
theorem dX6_told_125 : decode cX6_told 125 = .ok (.getfield 10, 3) := by decide +kernel
theorem dX6_told_128 : decode cX6_told 128 = .ok (.getfield 67, 3) := by decide +kernel
theorem dX6_told_131 : decode cX6_told 131 = .ok (.iload_n 1, 1) := by decide +kernel
theorem dX6_told_132 : decode cX6_told 132 = .ok (.invokestatic 70, 3) := by decide +kernel
theorem dX6_told_135 : decode cX6_told 135 = .ok (.ifCond .eq 7, 3) := by decide +kernel
theorem dX6_told_138 : decode cX6_told 138 = .ok (.iconst 1, 1) := by decide +kernel
theorem dX6_told_139 : decode cX6_told 139 = .ok (.goto 4, 3) := by decide +kernel
theorem dX6_told_142 : decode cX6_told 142 = .ok (.iconst 0, 1) := by decide +kernel
theorem dX6_told_143 : decode cX6_told 143 = .ok (.ireturn, 1) := by decide +kernel
theorem dX6_told_144 : decode cX6_told 144 = .ok (.aload_n 0, 1) := by decide +kernel
theorem dX6_told_145 : decode cX6_told 145 = .ok (.getfield 10, 3) := by decide +kernel
theorem dX6_told_148 : decode cX6_told 148 = .ok (.getfield 95, 3) := by decide +kernel
theorem dX6_told_151 : decode cX6_told 151 = .ok (.iload_n 1, 1) := by decide +kernel
theorem dX6_told_152 : decode cX6_told 152 = .ok (.invokestatic 70, 3) := by decide +kernel
theorem dX6_told_155 : decode cX6_told 155 = .ok (.ifCond .eq 7, 3) := by decide +kernel
theorem dX6_told_158 : decode cX6_told 158 = .ok (.iconst 1, 1) := by decide +kernel
theorem dX6_told_159 : decode cX6_told 159 = .ok (.goto 4, 3) := by decide +kernel
theorem dX6_told_162 : decode cX6_told 162 = .ok (.iconst 0, 1) := by decide +kernel
theorem dX6_told_163 : decode cX6_told 163 = .ok (.ireturn, 1) := by decide +kernel
theorem dX6_told_164 : decode cX6_told 164 = .ok (.ldc 48, 2) := by decide +kernel
theorem dX6_told_166 : decode cX6_told 166 = .ok (.ireturn, 1) := by decide +kernel
theorem dX6_count_0 : decode cX6_count 0 = .ok (.iload_n 1, 1) := by decide +kernel
theorem dX6_count_1 : decode cX6_count 1 = .ok (.tableswitch 115 0 6 #[43, 51, 62, 73, 84, 92, 100], 43) := by decide +kernel
theorem dX6_count_44 : decode cX6_count 44 = .ok (.aload_n 0, 1) := by decide +kernel
theorem dX6_count_45 : decode cX6_count 45 = .ok (.getfield 10, 3) := by decide +kernel
theorem dX6_count_48 : decode cX6_count 48 = .ok (.getfield 49, 3) := by decide +kernel
theorem dX6_count_51 : decode cX6_count 51 = .ok (.ireturn, 1) := by decide +kernel
theorem dX6_count_52 : decode cX6_count 52 = .ok (.aload_n 0, 1) := by decide +kernel
theorem dX6_count_53 : decode cX6_count 53 = .ok (.getfield 10, 3) := by decide +kernel
theorem dX6_count_56 : decode cX6_count 56 = .ok (.getfield 67, 3) := by decide +kernel
theorem dX6_count_59 : decode cX6_count 59 = .ok (.invokestatic 98, 3) := by decide +kernel
theorem dX6_count_62 : decode cX6_count 62 = .ok (.ireturn, 1) := by decide +kernel
theorem dX6_count_63 : decode cX6_count 63 = .ok (.aload_n 0, 1) := by decide +kernel
theorem dX6_count_64 : decode cX6_count 64 = .ok (.getfield 10, 3) := by decide +kernel
theorem dX6_count_67 : decode cX6_count 67 = .ok (.getfield 95, 3) := by decide +kernel
theorem dX6_count_70 : decode cX6_count 70 = .ok (.invokestatic 98, 3) := by decide +kernel
theorem dX6_count_73 : decode cX6_count 73 = .ok (.ireturn, 1) := by decide +kernel
theorem dX6_count_74 : decode cX6_count 74 = .ok (.aload_n 0, 1) := by decide +kernel
theorem dX6_count_75 : decode cX6_count 75 = .ok (.getfield 10, 3) := by decide +kernel
theorem dX6_count_78 : decode cX6_count 78 = .ok (.invokevirtual 104, 3) := by decide +kernel
theorem dX6_count_81 : decode cX6_count 81 = .ok (.invokestatic 98, 3) := by decide +kernel
theorem dX6_count_84 : decode cX6_count 84 = .ok (.ireturn, 1) := by decide +kernel
theorem dX6_count_85 : decode cX6_count 85 = .ok (.aload_n 0, 1) := by decide +kernel
theorem dX6_count_86 : decode cX6_count 86 = .ok (.getfield 33, 3) := by decide +kernel
theorem dX6_count_89 : decode cX6_count 89 = .ok (.getfield 108, 3) := by decide +kernel
theorem dX6_count_92 : decode cX6_count 92 = .ok (.ireturn, 1) := by decide +kernel
theorem dX6_count_93 : decode cX6_count 93 = .ok (.aload_n 0, 1) := by decide +kernel
theorem dX6_count_94 : decode cX6_count 94 = .ok (.getfield 33, 3) := by decide +kernel
theorem dX6_count_97 : decode cX6_count 97 = .ok (.invokevirtual 109, 3) := by decide +kernel
theorem dX6_count_100 : decode cX6_count 100 = .ok (.ireturn, 1) := by decide +kernel
theorem dX6_count_101 : decode cX6_count 101 = .ok (.aload_n 0, 1) := by decide +kernel
theorem dX6_count_102 : decode cX6_count 102 = .ok (.getfield 10, 3) := by decide +kernel
theorem dX6_count_105 : decode cX6_count 105 = .ok (.aload_n 0, 1) := by decide +kernel
theorem dX6_count_106 : decode cX6_count 106 = .ok (.getfield 10, 3) := by decide +kernel
theorem dX6_count_109 : decode cX6_count 109 = .ok (.invokevirtual 104, 3) := by decide +kernel
theorem dX6_count_112 : decode cX6_count 112 = .ok (.invokevirtual 112, 3) := by decide +kernel
theorem dX6_count_115 : decode cX6_count 115 = .ok (.ireturn, 1) := by decide +kernel
theorem dX6_count_116 : decode cX6_count 116 = .ok (.ldc 48, 2) := by decide +kernel
theorem dX6_count_118 : decode cX6_count 118 = .ok (.ireturn, 1) := by decide +kernel
theorem dX6_det_0 : decode cX6_det 0 = .ok (.iload_n 1, 1) := by decide +kernel
theorem dX6_det_1 : decode cX6_det 1 = .ok (.iconst 0, 1) := by decide +kernel
theorem dX6_det_2 : decode cX6_det 2 = .ok (.iconst 2, 1) := by decide +kernel
theorem dX6_det_3 : decode cX6_det 3 = .ok (.invokestatic 44, 3) := by decide +kernel
theorem dX6_det_6 : decode cX6_det 6 = .ok (.ifCond .eq 7, 3) := by decide +kernel
theorem dX6_det_9 : decode cX6_det 9 = .ok (.ldc2_w 115, 3) := by decide +kernel
theorem dX6_det_12 : decode cX6_det 12 = .ok (.lreturn, 1) := by decide +kernel
theorem dX6_det_13 : decode cX6_det 13 = .ok (.aload_n 0, 1) := by decide +kernel
theorem dX6_det_14 : decode cX6_det 14 = .ok (.getfield 19, 3) := by decide +kernel
theorem dX6_det_17 : decode cX6_det 17 = .ok (.aload_n 0, 1) := by decide +kernel
theorem dX6_det_18 : decode cX6_det 18 = .ok (.getfield 10, 3) := by decide +kernel
theorem dX6_det_21 : decode cX6_det 21 = .ok (.iload_n 1, 1) := by decide +kernel
theorem dX6_det_22 : decode cX6_det 22 = .ok (.aload_n 0, 1) := by decide +kernel
theorem dX6_det_23 : decode cX6_det 23 = .ok (.getfield 10, 3) := by decide +kernel
theorem dX6_det_26 : decode cX6_det 26 = .ok (.invokevirtual 104, 3) := by decide +kernel
theorem dX6_det_29 : decode cX6_det 29 = .ok (.invokevirtual 117, 3) := by decide +kernel
theorem dX6_det_32 : decode cX6_det 32 = .ok (.pop, 1) := by decide +kernel
theorem dX6_det_33 : decode cX6_det 33 = .ok (.aload_n 0, 1) := by decide +kernel
theorem dX6_det_34 : decode cX6_det 34 = .ok (.getfield 19, 3) := by decide +kernel
theorem dX6_det_37 : decode cX6_det 37 = .ok (.getfield 121, 3) := by decide +kernel
theorem dX6_det_40 : decode cX6_det 40 = .ok (.getfield 125, 3) := by decide +kernel
theorem dX6_det_43 : decode cX6_det 43 = .ok (.lreturn, 1) := by decide +kernel
theorem dX6_fit_0 : decode cX6_fit 0 = .ok (.iload_n 1, 1) := by decide +kernel
theorem dX6_fit_1 : decode cX6_fit 1 = .ok (.iload_n 2, 1) := by decide +kernel
theorem dX6_fit_2 : decode cX6_fit 2 = .ok (.iload 4, 2) := by decide +kernel
theorem dX6_fit_4 : decode cX6_fit 4 = .ok (.invokestatic 131, 3) := by decide +kernel
theorem dX6_fit_7 : decode cX6_fit 7 = .ok (.ifCond .ne 15, 3) := by decide +kernel
theorem dX6_fit_10 : decode cX6_fit 10 = .ok (.iload_n 3, 1) := by decide +kernel
theorem dX6_fit_11 : decode cX6_fit 11 = .ok (.iconst 0, 1) := by decide +kernel
theorem dX6_fit_12 : decode cX6_fit 12 = .ok (.iload_n 1, 1) := by decide +kernel
theorem dX6_fit_13 : decode cX6_fit 13 = .ok (.invokestatic 134, 3) := by decide +kernel
theorem dX6_fit_16 : decode cX6_fit 16 = .ok (.invokestatic 44, 3) := by decide +kernel
theorem dX6_fit_19 : decode cX6_fit 19 = .ok (.ifCond .eq 7, 3) := by decide +kernel
theorem dX6_fit_22 : decode cX6_fit 22 = .ok (.ldc2_w 115, 3) := by decide +kernel
theorem dX6_fit_25 : decode cX6_fit 25 = .ok (.lreturn, 1) := by decide +kernel
theorem dX6_fit_26 : decode cX6_fit 26 = .ok (.aload_n 0, 1) := by decide +kernel
theorem dX6_fit_27 : decode cX6_fit 27 = .ok (.getfield 19, 3) := by decide +kernel
theorem dX6_fit_30 : decode cX6_fit 30 = .ok (.aload_n 0, 1) := by decide +kernel
theorem dX6_fit_31 : decode cX6_fit 31 = .ok (.getfield 10, 3) := by decide +kernel
theorem dX6_fit_34 : decode cX6_fit 34 = .ok (.iload_n 1, 1) := by decide +kernel
theorem dX6_fit_35 : decode cX6_fit 35 = .ok (.aload_n 0, 1) := by decide +kernel
theorem dX6_fit_36 : decode cX6_fit 36 = .ok (.getfield 10, 3) := by decide +kernel
theorem dX6_fit_39 : decode cX6_fit 39 = .ok (.invokevirtual 104, 3) := by decide +kernel
theorem dX6_fit_42 : decode cX6_fit 42 = .ok (.invokevirtual 117, 3) := by decide +kernel
theorem dX6_fit_45 : decode cX6_fit 45 = .ok (.ifCond .ne 7, 3) := by decide +kernel
theorem dX6_fit_48 : decode cX6_fit 48 = .ok (.ldc2_w 137, 3) := by decide +kernel
theorem dX6_fit_51 : decode cX6_fit 51 = .ok (.lreturn, 1) := by decide +kernel
theorem dX6_fit_52 : decode cX6_fit 52 = .ok (.aload_n 0, 1) := by decide +kernel
theorem dX6_fit_53 : decode cX6_fit 53 = .ok (.getfield 19, 3) := by decide +kernel
theorem dX6_fit_56 : decode cX6_fit 56 = .ok (.getfield 139, 3) := by decide +kernel
theorem dX6_fit_59 : decode cX6_fit 59 = .ok (.iload_n 2, 1) := by decide +kernel
theorem dX6_fit_60 : decode cX6_fit 60 = .ok (.aaload, 1) := by decide +kernel
theorem dX6_fit_61 : decode cX6_fit 61 = .ok (.iload_n 3, 1) := by decide +kernel
theorem dX6_fit_62 : decode cX6_fit 62 = .ok (.laload, 1) := by decide +kernel
theorem dX6_fit_63 : decode cX6_fit 63 = .ok (.aload_n 0, 1) := by decide +kernel
theorem dX6_fit_64 : decode cX6_fit 64 = .ok (.getfield 19, 3) := by decide +kernel
theorem dX6_fit_67 : decode cX6_fit 67 = .ok (.getfield 121, 3) := by decide +kernel
theorem dX6_fit_70 : decode cX6_fit 70 = .ok (.getfield 125, 3) := by decide +kernel
theorem dX6_fit_73 : decode cX6_fit 73 = .ok (.iload 4, 2) := by decide +kernel
theorem dX6_fit_75 : decode cX6_fit 75 = .ok (.invokestatic 143, 3) := by decide +kernel
theorem dX6_fit_78 : decode cX6_fit 78 = .ok (.lreturn, 1) := by decide +kernel
theorem dX6_rest_0 : decode cX6_rest 0 = .ok (.aload_n 0, 1) := by decide +kernel
theorem dX6_rest_1 : decode cX6_rest 1 = .ok (.getfield 10, 3) := by decide +kernel
theorem dX6_rest_4 : decode cX6_rest 4 = .ok (.iload_n 3, 1) := by decide +kernel
theorem dX6_rest_5 : decode cX6_rest 5 = .ok (.invokevirtual 58, 3) := by decide +kernel
theorem dX6_rest_8 : decode cX6_rest 8 = .ok (.ifCond .ne 7, 3) := by decide +kernel
theorem dX6_rest_11 : decode cX6_rest 11 = .ok (.ldc2_w 147, 3) := by decide +kernel
theorem dX6_rest_14 : decode cX6_rest 14 = .ok (.lreturn, 1) := by decide +kernel
theorem dX6_rest_15 : decode cX6_rest 15 = .ok (.iload_n 1, 1) := by decide +kernel
theorem dX6_rest_16 : decode cX6_rest 16 = .ok (.iload_n 2, 1) := by decide +kernel
theorem dX6_rest_17 : decode cX6_rest 17 = .ok (.iload 4, 2) := by decide +kernel
theorem dX6_rest_19 : decode cX6_rest 19 = .ok (.invokestatic 131, 3) := by decide +kernel
theorem dX6_rest_22 : decode cX6_rest 22 = .ok (.ifCond .eq 7, 3) := by decide +kernel
theorem dX6_rest_25 : decode cX6_rest 25 = .ok (.ldc2_w 115, 3) := by decide +kernel
theorem dX6_rest_28 : decode cX6_rest 28 = .ok (.lreturn, 1) := by decide +kernel
theorem dX6_rest_29 : decode cX6_rest 29 = .ok (.aload_n 0, 1) := by decide +kernel
theorem dX6_rest_30 : decode cX6_rest 30 = .ok (.getfield 10, 3) := by decide +kernel
theorem dX6_rest_33 : decode cX6_rest 33 = .ok (.getfield 67, 3) := by decide +kernel
theorem dX6_rest_36 : decode cX6_rest 36 = .ok (.iload_n 3, 1) := by decide +kernel
theorem dX6_rest_37 : decode cX6_rest 37 = .ok (.invokestatic 70, 3) := by decide +kernel
theorem dX6_rest_40 : decode cX6_rest 40 = .ok (.ifCond .ne 25, 3) := by decide +kernel
theorem dX6_rest_43 : decode cX6_rest 43 = .ok (.aload_n 0, 1) := by decide +kernel
theorem dX6_rest_44 : decode cX6_rest 44 = .ok (.getfield 19, 3) := by decide +kernel
theorem dX6_rest_47 : decode cX6_rest 47 = .ok (.aload_n 0, 1) := by decide +kernel
theorem dX6_rest_48 : decode cX6_rest 48 = .ok (.getfield 10, 3) := by decide +kernel
theorem dX6_rest_51 : decode cX6_rest 51 = .ok (.iload_n 1, 1) := by decide +kernel
theorem dX6_rest_52 : decode cX6_rest 52 = .ok (.aload_n 0, 1) := by decide +kernel
theorem dX6_rest_53 : decode cX6_rest 53 = .ok (.getfield 10, 3) := by decide +kernel
theorem dX6_rest_56 : decode cX6_rest 56 = .ok (.invokevirtual 104, 3) := by decide +kernel
theorem dX6_rest_59 : decode cX6_rest 59 = .ok (.invokevirtual 117, 3) := by decide +kernel
theorem dX6_rest_62 : decode cX6_rest 62 = .ok (.ifCond .ne 7, 3) := by decide +kernel
theorem dX6_rest_65 : decode cX6_rest 65 = .ok (.ldc2_w 137, 3) := by decide +kernel
theorem dX6_rest_68 : decode cX6_rest 68 = .ok (.lreturn, 1) := by decide +kernel
theorem dX6_rest_69 : decode cX6_rest 69 = .ok (.aload_n 0, 1) := by decide +kernel
theorem dX6_rest_70 : decode cX6_rest 70 = .ok (.getfield 19, 3) := by decide +kernel
theorem dX6_rest_73 : decode cX6_rest 73 = .ok (.aload_n 0, 1) := by decide +kernel
theorem dX6_rest_74 : decode cX6_rest 74 = .ok (.getfield 10, 3) := by decide +kernel
theorem dX6_rest_77 : decode cX6_rest 77 = .ok (.iload_n 2, 1) := by decide +kernel
theorem dX6_rest_78 : decode cX6_rest 78 = .ok (.iload_n 3, 1) := by decide +kernel
theorem dX6_rest_79 : decode cX6_rest 79 = .ok (.invokevirtual 149, 3) := by decide +kernel
theorem dX6_rest_82 : decode cX6_rest 82 = .ok (.aload_n 0, 1) := by decide +kernel
theorem dX6_rest_83 : decode cX6_rest 83 = .ok (.getfield 19, 3) := by decide +kernel
theorem dX6_rest_86 : decode cX6_rest 86 = .ok (.getfield 121, 3) := by decide +kernel
theorem dX6_rest_89 : decode cX6_rest 89 = .ok (.getfield 125, 3) := by decide +kernel
theorem dX6_rest_92 : decode cX6_rest 92 = .ok (.iload 4, 2) := by decide +kernel
theorem dX6_rest_94 : decode cX6_rest 94 = .ok (.invokestatic 143, 3) := by decide +kernel
theorem dX6_rest_97 : decode cX6_rest 97 = .ok (.lreturn, 1) := by decide +kernel
theorem dX6_spread_0 : decode cX6_spread 0 = .ok (.iload_n 1, 1) := by decide +kernel
theorem dX6_spread_1 : decode cX6_spread 1 = .ok (.iload_n 2, 1) := by decide +kernel
theorem dX6_spread_2 : decode cX6_spread 2 = .ok (.iload_n 3, 1) := by decide +kernel
theorem dX6_spread_3 : decode cX6_spread 3 = .ok (.invokestatic 131, 3) := by decide +kernel
theorem dX6_spread_6 : decode cX6_spread 6 = .ok (.ifCond .eq 7, 3) := by decide +kernel
theorem dX6_spread_9 : decode cX6_spread 9 = .ok (.ldc2_w 115, 3) := by decide +kernel
theorem dX6_spread_12 : decode cX6_spread 12 = .ok (.lreturn, 1) := by decide +kernel
theorem dX6_spread_13 : decode cX6_spread 13 = .ok (.aload_n 0, 1) := by decide +kernel
theorem dX6_spread_14 : decode cX6_spread 14 = .ok (.getfield 19, 3) := by decide +kernel
theorem dX6_spread_17 : decode cX6_spread 17 = .ok (.aload_n 0, 1) := by decide +kernel
theorem dX6_spread_18 : decode cX6_spread 18 = .ok (.getfield 10, 3) := by decide +kernel
theorem dX6_spread_21 : decode cX6_spread 21 = .ok (.iload_n 1, 1) := by decide +kernel
theorem dX6_spread_22 : decode cX6_spread 22 = .ok (.aload_n 0, 1) := by decide +kernel
theorem dX6_spread_23 : decode cX6_spread 23 = .ok (.getfield 10, 3) := by decide +kernel
theorem dX6_spread_26 : decode cX6_spread 26 = .ok (.invokevirtual 104, 3) := by decide +kernel
theorem dX6_spread_29 : decode cX6_spread 29 = .ok (.invokevirtual 117, 3) := by decide +kernel
theorem dX6_spread_32 : decode cX6_spread 32 = .ok (.ifCond .ne 7, 3) := by decide +kernel
theorem dX6_spread_35 : decode cX6_spread 35 = .ok (.ldc2_w 137, 3) := by decide +kernel
theorem dX6_spread_38 : decode cX6_spread 38 = .ok (.lreturn, 1) := by decide +kernel
theorem dX6_spread_39 : decode cX6_spread 39 = .ok (.aload_n 0, 1) := by decide +kernel
theorem dX6_spread_40 : decode cX6_spread 40 = .ok (.getfield 19, 3) := by decide +kernel
theorem dX6_spread_43 : decode cX6_spread 43 = .ok (.iload_n 2, 1) := by decide +kernel
theorem dX6_spread_44 : decode cX6_spread 44 = .ok (.invokevirtual 153, 3) := by decide +kernel
theorem dX6_spread_47 : decode cX6_spread 47 = .ok (.aload_n 0, 1) := by decide +kernel
theorem dX6_spread_48 : decode cX6_spread 48 = .ok (.getfield 19, 3) := by decide +kernel
theorem dX6_spread_51 : decode cX6_spread 51 = .ok (.getfield 121, 3) := by decide +kernel
theorem dX6_spread_54 : decode cX6_spread 54 = .ok (.getfield 125, 3) := by decide +kernel
theorem dX6_spread_57 : decode cX6_spread 57 = .ok (.iload_n 3, 1) := by decide +kernel
theorem dX6_spread_58 : decode cX6_spread 58 = .ok (.invokestatic 143, 3) := by decide +kernel
theorem dX6_spread_61 : decode cX6_spread 61 = .ok (.lreturn, 1) := by decide +kernel
theorem dX6_judge_0 : decode cX6_judge 0 = .ok (.iload_n 1, 1) := by decide +kernel
theorem dX6_judge_1 : decode cX6_judge 1 = .ok (.iconst 0, 1) := by decide +kernel
theorem dX6_judge_2 : decode cX6_judge 2 = .ok (.iconst 2, 1) := by decide +kernel
theorem dX6_judge_3 : decode cX6_judge 3 = .ok (.invokestatic 44, 3) := by decide +kernel
theorem dX6_judge_6 : decode cX6_judge 6 = .ok (.ifCond .ne 14, 3) := by decide +kernel
theorem dX6_judge_9 : decode cX6_judge 9 = .ok (.iload_n 2, 1) := by decide +kernel
theorem dX6_judge_10 : decode cX6_judge 10 = .ok (.iconst 1, 1) := by decide +kernel
theorem dX6_judge_11 : decode cX6_judge 11 = .ok (.sipush 999, 3) := by decide +kernel
theorem dX6_judge_14 : decode cX6_judge 14 = .ok (.invokestatic 44, 3) := by decide +kernel
theorem dX6_judge_17 : decode cX6_judge 17 = .ok (.ifCond .eq 6, 3) := by decide +kernel
theorem dX6_judge_20 : decode cX6_judge 20 = .ok (.ldc 48, 2) := by decide +kernel
theorem dX6_judge_22 : decode cX6_judge 22 = .ok (.ireturn, 1) := by decide +kernel
theorem dX6_judge_23 : decode cX6_judge 23 = .ok (.aload_n 0, 1) := by decide +kernel
theorem dX6_judge_24 : decode cX6_judge 24 = .ok (.getfield 19, 3) := by decide +kernel
theorem dX6_judge_27 : decode cX6_judge 27 = .ok (.aload_n 0, 1) := by decide +kernel
theorem dX6_judge_28 : decode cX6_judge 28 = .ok (.getfield 10, 3) := by decide +kernel
theorem dX6_judge_31 : decode cX6_judge 31 = .ok (.iload_n 1, 1) := by decide +kernel
theorem dX6_judge_32 : decode cX6_judge 32 = .ok (.aload_n 0, 1) := by decide +kernel
theorem dX6_judge_33 : decode cX6_judge 33 = .ok (.getfield 10, 3) := by decide +kernel
theorem dX6_judge_36 : decode cX6_judge 36 = .ok (.invokevirtual 157, 3) := by decide +kernel
theorem dX6_judge_39 : decode cX6_judge 39 = .ok (.invokevirtual 117, 3) := by decide +kernel
theorem dX6_judge_42 : decode cX6_judge 42 = .ok (.ifCond .ne 6, 3) := by decide +kernel
theorem dX6_judge_45 : decode cX6_judge 45 = .ok (.ldc 160, 2) := by decide +kernel
theorem dX6_judge_47 : decode cX6_judge 47 = .ok (.ireturn, 1) := by decide +kernel
theorem dX6_judge_48 : decode cX6_judge 48 = .ok (.aload_n 0, 1) := by decide +kernel
theorem dX6_judge_49 : decode cX6_judge 49 = .ok (.getfield 10, 3) := by decide +kernel
theorem dX6_judge_52 : decode cX6_judge 52 = .ok (.aload_n 0, 1) := by decide +kernel
theorem dX6_judge_53 : decode cX6_judge 53 = .ok (.getfield 19, 3) := by decide +kernel
theorem dX6_judge_56 : decode cX6_judge 56 = .ok (.aload_n 0, 1) := by decide +kernel
theorem dX6_judge_57 : decode cX6_judge 57 = .ok (.getfield 10, 3) := by decide +kernel
theorem dX6_judge_60 : decode cX6_judge 60 = .ok (.iload_n 1, 1) := by decide +kernel
theorem dX6_judge_61 : decode cX6_judge 61 = .ok (.iload_n 2, 1) := by decide +kernel
theorem dX6_judge_62 : decode cX6_judge 62 = .ok (.invokevirtual 161, 3) := by decide +kernel
theorem dX6_judge_65 : decode cX6_judge 65 = .ok (.putfield 95, 3) := by decide +kernel
theorem dX6_judge_68 : decode cX6_judge 68 = .ok (.aload_n 0, 1) := by decide +kernel
theorem dX6_judge_69 : decode cX6_judge 69 = .ok (.getfield 10, 3) := by decide +kernel
theorem dX6_judge_72 : decode cX6_judge 72 = .ok (.getfield 95, 3) := by decide +kernel
theorem dX6_judge_75 : decode cX6_judge 75 = .ok (.invokestatic 98, 3) := by decide +kernel
theorem dX6_judge_78 : decode cX6_judge 78 = .ok (.ireturn, 1) := by decide +kernel
theorem dX6_plan_0 : decode cX6_plan 0 = .ok (.iload_n 1, 1) := by decide +kernel
theorem dX6_plan_1 : decode cX6_plan 1 = .ok (.iconst 1, 1) := by decide +kernel
theorem dX6_plan_2 : decode cX6_plan 2 = .ok (.bipush 6, 2) := by decide +kernel
theorem dX6_plan_4 : decode cX6_plan 4 = .ok (.invokestatic 44, 3) := by decide +kernel
theorem dX6_plan_7 : decode cX6_plan 7 = .ok (.ifCond .ne 21, 3) := by decide +kernel
theorem dX6_plan_10 : decode cX6_plan 10 = .ok (.iload_n 2, 1) := by decide +kernel
theorem dX6_plan_11 : decode cX6_plan 11 = .ok (.iconst 0, 1) := by decide +kernel
theorem dX6_plan_12 : decode cX6_plan 12 = .ok (.iconst 2, 1) := by decide +kernel
theorem dX6_plan_13 : decode cX6_plan 13 = .ok (.invokestatic 44, 3) := by decide +kernel
theorem dX6_plan_16 : decode cX6_plan 16 = .ok (.ifCond .ne 12, 3) := by decide +kernel
theorem dX6_plan_19 : decode cX6_plan 19 = .ok (.iload_n 3, 1) := by decide +kernel
theorem dX6_plan_20 : decode cX6_plan 20 = .ok (.iconst 0, 1) := by decide +kernel
theorem dX6_plan_21 : decode cX6_plan 21 = .ok (.iconst 2, 1) := by decide +kernel
theorem dX6_plan_22 : decode cX6_plan 22 = .ok (.invokestatic 44, 3) := by decide +kernel
theorem dX6_plan_25 : decode cX6_plan 25 = .ok (.ifCond .eq 7, 3) := by decide +kernel
theorem dX6_plan_28 : decode cX6_plan 28 = .ok (.ldc2_w 115, 3) := by decide +kernel
theorem dX6_plan_31 : decode cX6_plan 31 = .ok (.lreturn, 1) := by decide +kernel
theorem dX6_plan_32 : decode cX6_plan 32 = .ok (.aload_n 0, 1) := by decide +kernel
theorem dX6_plan_33 : decode cX6_plan 33 = .ok (.getfield 26, 3) := by decide +kernel
theorem dX6_plan_36 : decode cX6_plan 36 = .ok (.aload_n 0, 1) := by decide +kernel
theorem dX6_plan_37 : decode cX6_plan 37 = .ok (.getfield 10, 3) := by decide +kernel
theorem dX6_plan_40 : decode cX6_plan 40 = .ok (.iload_n 1, 1) := by decide +kernel
theorem dX6_plan_41 : decode cX6_plan 41 = .ok (.iload_n 2, 1) := by decide +kernel
theorem dX6_plan_42 : decode cX6_plan 42 = .ok (.invokevirtual 165, 3) := by decide +kernel
theorem dX6_plan_45 : decode cX6_plan 45 = .ok (.ifCond .ne 7, 3) := by decide +kernel
theorem dX6_plan_48 : decode cX6_plan 48 = .ok (.ldc2_w 137, 3) := by decide +kernel
theorem dX6_plan_51 : decode cX6_plan 51 = .ok (.lreturn, 1) := by decide +kernel
theorem dX6_plan_52 : decode cX6_plan 52 = .ok (.iload_n 3, 1) := by decide +kernel
theorem dX6_plan_53 : decode cX6_plan 53 = .ok (.ifCond .ne 14, 3) := by decide +kernel
theorem dX6_plan_56 : decode cX6_plan 56 = .ok (.aload_n 0, 1) := by decide +kernel
theorem dX6_plan_57 : decode cX6_plan 57 = .ok (.getfield 26, 3) := by decide +kernel
theorem dX6_plan_60 : decode cX6_plan 60 = .ok (.getfield 166, 3) := by decide +kernel
theorem dX6_plan_63 : decode cX6_plan 63 = .ok (.i2l, 1) := by decide +kernel
theorem dX6_plan_64 : decode cX6_plan 64 = .ok (.goto 23, 3) := by decide +kernel
theorem dX6_plan_67 : decode cX6_plan 67 = .ok (.aload_n 0, 1) := by decide +kernel
theorem dX6_plan_68 : decode cX6_plan 68 = .ok (.getfield 26, 3) := by decide +kernel
theorem dX6_plan_71 : decode cX6_plan 71 = .ok (.getfield 169, 3) := by decide +kernel
theorem dX6_plan_74 : decode cX6_plan 74 = .ok (.aload_n 0, 1) := by decide +kernel
theorem dX6_plan_75 : decode cX6_plan 75 = .ok (.getfield 26, 3) := by decide +kernel
theorem dX6_plan_78 : decode cX6_plan 78 = .ok (.getfield 172, 3) := by decide +kernel
theorem dX6_plan_81 : decode cX6_plan 81 = .ok (.iload_n 3, 1) := by decide +kernel
theorem dX6_plan_82 : decode cX6_plan 82 = .ok (.iconst 1, 1) := by decide +kernel
theorem dX6_plan_83 : decode cX6_plan 83 = .ok (.isub, 1) := by decide +kernel
theorem dX6_plan_84 : decode cX6_plan 84 = .ok (.invokestatic 143, 3) := by decide +kernel
theorem dX6_plan_87 : decode cX6_plan 87 = .ok (.lreturn, 1) := by decide +kernel
theorem dX6_lot_0 : decode cX6_lot 0 = .ok (.iload_n 1, 1) := by decide +kernel
theorem dX6_lot_1 : decode cX6_lot 1 = .ok (.iconst 0, 1) := by decide +kernel
theorem dX6_lot_2 : decode cX6_lot 2 = .ok (.iconst 3, 1) := by decide +kernel
theorem dX6_lot_3 : decode cX6_lot 3 = .ok (.invokestatic 44, 3) := by decide +kernel
theorem dX6_lot_6 : decode cX6_lot 6 = .ok (.ifCond .eq 6, 3) := by decide +kernel
theorem dX6_lot_9 : decode cX6_lot 9 = .ok (.ldc 62, 2) := by decide +kernel
theorem dX6_lot_11 : decode cX6_lot 11 = .ok (.ireturn, 1) := by decide +kernel
theorem dX6_lot_12 : decode cX6_lot 12 = .ok (.iload_n 2, 1) := by decide +kernel
theorem dX6_lot_13 : decode cX6_lot 13 = .ok (.sipush (-9999), 3) := by decide +kernel
theorem dX6_lot_16 : decode cX6_lot 16 = .ok (.sipush 9999, 3) := by decide +kernel
theorem dX6_lot_19 : decode cX6_lot 19 = .ok (.invokestatic 44, 3) := by decide +kernel
theorem dX6_lot_22 : decode cX6_lot 22 = .ok (.ifCond .eq 6, 3) := by decide +kernel
theorem dX6_lot_25 : decode cX6_lot 25 = .ok (.ldc 48, 2) := by decide +kernel
theorem dX6_lot_27 : decode cX6_lot 27 = .ok (.ireturn, 1) := by decide +kernel
theorem dX6_lot_28 : decode cX6_lot 28 = .ok (.aload_n 0, 1) := by decide +kernel
theorem dX6_lot_29 : decode cX6_lot 29 = .ok (.getfield 33, 3) := by decide +kernel
theorem dX6_lot_32 : decode cX6_lot 32 = .ok (.getfield 108, 3) := by decide +kernel
theorem dX6_lot_35 : decode cX6_lot 35 = .ok (.bipush 60, 2) := by decide +kernel
theorem dX6_lot_37 : decode cX6_lot 37 = .ok (.if_icmp .lt 6, 3) := by decide +kernel
theorem dX6_lot_40 : decode cX6_lot 40 = .ok (.ldc 53, 2) := by decide +kernel
theorem dX6_lot_42 : decode cX6_lot 42 = .ok (.ireturn, 1) := by decide +kernel
theorem dX6_lot_43 : decode cX6_lot 43 = .ok (.aload_n 0, 1) := by decide +kernel
theorem dX6_lot_44 : decode cX6_lot 44 = .ok (.getfield 33, 3) := by decide +kernel
theorem dX6_lot_47 : decode cX6_lot 47 = .ok (.iload_n 1, 1) := by decide +kernel
theorem dX6_lot_48 : decode cX6_lot 48 = .ok (.iload_n 2, 1) := by decide +kernel
theorem dX6_lot_49 : decode cX6_lot 49 = .ok (.invokevirtual 175, 3) := by decide +kernel
theorem dX6_lot_52 : decode cX6_lot 52 = .ok (.ireturn, 1) := by decide +kernel
theorem dX6_back_0 : decode cX6_back 0 = .ok (.aload_n 0, 1) := by decide +kernel
theorem dX6_back_1 : decode cX6_back 1 = .ok (.getfield 33, 3) := by decide +kernel
theorem dX6_back_4 : decode cX6_back 4 = .ok (.iload_n 1, 1) := by decide +kernel
theorem dX6_back_5 : decode cX6_back 5 = .ok (.invokevirtual 178, 3) := by decide +kernel
theorem dX6_back_8 : decode cX6_back 8 = .ok (.ifCond .ne 6, 3) := by decide +kernel
theorem dX6_back_11 : decode cX6_back 11 = .ok (.ldc 62, 2) := by decide +kernel
theorem dX6_back_13 : decode cX6_back 13 = .ok (.ireturn, 1) := by decide +kernel
theorem dX6_back_14 : decode cX6_back 14 = .ok (.iload_n 2, 1) := by decide +kernel
theorem dX6_back_15 : decode cX6_back 15 = .ok (.sipush (-9999), 3) := by decide +kernel
theorem dX6_back_18 : decode cX6_back 18 = .ok (.sipush 9999, 3) := by decide +kernel
theorem dX6_back_21 : decode cX6_back 21 = .ok (.invokestatic 44, 3) := by decide +kernel
theorem dX6_back_24 : decode cX6_back 24 = .ok (.ifCond .eq 6, 3) := by decide +kernel
theorem dX6_back_27 : decode cX6_back 27 = .ok (.ldc 48, 2) := by decide +kernel
theorem dX6_back_29 : decode cX6_back 29 = .ok (.ireturn, 1) := by decide +kernel
theorem dX6_back_30 : decode cX6_back 30 = .ok (.aload_n 0, 1) := by decide +kernel
theorem dX6_back_31 : decode cX6_back 31 = .ok (.getfield 33, 3) := by decide +kernel
theorem dX6_back_34 : decode cX6_back 34 = .ok (.iload_n 1, 1) := by decide +kernel
theorem dX6_back_35 : decode cX6_back 35 = .ok (.iload_n 2, 1) := by decide +kernel
theorem dX6_back_36 : decode cX6_back 36 = .ok (.invokevirtual 179, 3) := by decide +kernel
theorem dX6_back_39 : decode cX6_back 39 = .ok (.iconst 1, 1) := by decide +kernel
theorem dX6_back_40 : decode cX6_back 40 = .ok (.ireturn, 1) := by decide +kernel
theorem dX6_mend_0 : decode cX6_mend 0 = .ok (.iload_n 1, 1) := by decide +kernel
theorem dX6_mend_1 : decode cX6_mend 1 = .ok (.iconst 0, 1) := by decide +kernel
theorem dX6_mend_2 : decode cX6_mend 2 = .ok (.iconst 3, 1) := by decide +kernel
theorem dX6_mend_3 : decode cX6_mend 3 = .ok (.invokestatic 44, 3) := by decide +kernel
theorem dX6_mend_6 : decode cX6_mend 6 = .ok (.ifCond .eq 6, 3) := by decide +kernel
theorem dX6_mend_9 : decode cX6_mend 9 = .ok (.ldc 62, 2) := by decide +kernel
theorem dX6_mend_11 : decode cX6_mend 11 = .ok (.ireturn, 1) := by decide +kernel
theorem dX6_mend_12 : decode cX6_mend 12 = .ok (.aload_n 0, 1) := by decide +kernel
theorem dX6_mend_13 : decode cX6_mend 13 = .ok (.getfield 33, 3) := by decide +kernel
theorem dX6_mend_16 : decode cX6_mend 16 = .ok (.iload_n 1, 1) := by decide +kernel
theorem dX6_mend_17 : decode cX6_mend 17 = .ok (.invokevirtual 183, 3) := by decide +kernel
theorem dX6_mend_20 : decode cX6_mend 20 = .ok (.iconst 1, 1) := by decide +kernel
theorem dX6_mend_21 : decode cX6_mend 21 = .ok (.ireturn, 1) := by decide +kernel
theorem dX6_gain_0 : decode cX6_gain 0 = .ok (.iload_n 1, 1) := by decide +kernel
theorem dX6_gain_1 : decode cX6_gain 1 = .ok (.iconst 1, 1) := by decide +kernel
theorem dX6_gain_2 : decode cX6_gain 2 = .ok (.bipush 16, 2) := by decide +kernel
theorem dX6_gain_4 : decode cX6_gain 4 = .ok (.invokestatic 44, 3) := by decide +kernel
theorem dX6_gain_7 : decode cX6_gain 7 = .ok (.ifCond .eq 6, 3) := by decide +kernel
theorem dX6_gain_10 : decode cX6_gain 10 = .ok (.ldc 48, 2) := by decide +kernel
theorem dX6_gain_12 : decode cX6_gain 12 = .ok (.ireturn, 1) := by decide +kernel
theorem dX6_gain_13 : decode cX6_gain 13 = .ok (.aload_n 0, 1) := by decide +kernel
theorem dX6_gain_14 : decode cX6_gain 14 = .ok (.getfield 33, 3) := by decide +kernel
theorem dX6_gain_17 : decode cX6_gain 17 = .ok (.getfield 186, 3) := by decide +kernel
theorem dX6_gain_20 : decode cX6_gain 20 = .ok (.istore_n 2, 1) := by decide +kernel
theorem dX6_gain_21 : decode cX6_gain 21 = .ok (.aload_n 0, 1) := by decide +kernel
theorem dX6_gain_22 : decode cX6_gain 22 = .ok (.getfield 33, 3) := by decide +kernel
theorem dX6_gain_25 : decode cX6_gain 25 = .ok (.iload_n 1, 1) := by decide +kernel
theorem dX6_gain_26 : decode cX6_gain 26 = .ok (.putfield 186, 3) := by decide +kernel
theorem dX6_gain_29 : decode cX6_gain 29 = .ok (.iload_n 2, 1) := by decide +kernel
theorem dX6_gain_30 : decode cX6_gain 30 = .ok (.ireturn, 1) := by decide +kernel
theorem dX6_state_0 : decode cX6_state 0 = .ok (.iload_n 1, 1) := by decide +kernel
theorem dX6_state_1 : decode cX6_state 1 = .ok (.iconst 0, 1) := by decide +kernel
theorem dX6_state_2 : decode cX6_state 2 = .ok (.iconst 3, 1) := by decide +kernel
theorem dX6_state_3 : decode cX6_state 3 = .ok (.invokestatic 44, 3) := by decide +kernel
theorem dX6_state_6 : decode cX6_state 6 = .ok (.ifCond .eq 6, 3) := by decide +kernel
theorem dX6_state_9 : decode cX6_state 9 = .ok (.ldc 62, 2) := by decide +kernel
theorem dX6_state_11 : decode cX6_state 11 = .ok (.ireturn, 1) := by decide +kernel
theorem dX6_state_12 : decode cX6_state 12 = .ok (.iload_n 2, 1) := by decide +kernel
theorem dX6_state_13 : decode cX6_state 13 = .ok (.iconst 0, 1) := by decide +kernel
theorem dX6_state_14 : decode cX6_state 14 = .ok (.aload_n 0, 1) := by decide +kernel
theorem dX6_state_15 : decode cX6_state 15 = .ok (.getfield 33, 3) := by decide +kernel
theorem dX6_state_18 : decode cX6_state 18 = .ok (.getfield 108, 3) := by decide +kernel
theorem dX6_state_21 : decode cX6_state 21 = .ok (.invokestatic 44, 3) := by decide +kernel
theorem dX6_state_24 : decode cX6_state 24 = .ok (.ifCond .eq 6, 3) := by decide +kernel
theorem dX6_state_27 : decode cX6_state 27 = .ok (.ldc 48, 2) := by decide +kernel
theorem dX6_state_29 : decode cX6_state 29 = .ok (.ireturn, 1) := by decide +kernel
theorem dX6_state_30 : decode cX6_state 30 = .ok (.aload_n 0, 1) := by decide +kernel
theorem dX6_state_31 : decode cX6_state 31 = .ok (.getfield 33, 3) := by decide +kernel
theorem dX6_state_34 : decode cX6_state 34 = .ok (.iload_n 1, 1) := by decide +kernel
theorem dX6_state_35 : decode cX6_state 35 = .ok (.iload_n 2, 1) := by decide +kernel
theorem dX6_state_36 : decode cX6_state 36 = .ok (.invokevirtual 189, 3) := by decide +kernel
theorem dX6_state_39 : decode cX6_state 39 = .ok (.ireturn, 1) := by decide +kernel
theorem dX6_advice_0 : decode cX6_advice 0 = .ok (.iload_n 1, 1) := by decide +kernel
theorem dX6_advice_1 : decode cX6_advice 1 = .ok (.iconst 0, 1) := by decide +kernel
theorem dX6_advice_2 : decode cX6_advice 2 = .ok (.iconst 3, 1) := by decide +kernel
theorem dX6_advice_3 : decode cX6_advice 3 = .ok (.invokestatic 44, 3) := by decide +kernel
theorem dX6_advice_6 : decode cX6_advice 6 = .ok (.ifCond .eq 6, 3) := by decide +kernel
theorem dX6_advice_9 : decode cX6_advice 9 = .ok (.ldc 62, 2) := by decide +kernel
theorem dX6_advice_11 : decode cX6_advice 11 = .ok (.ireturn, 1) := by decide +kernel
theorem dX6_advice_12 : decode cX6_advice 12 = .ok (.aload_n 0, 1) := by decide +kernel
theorem dX6_advice_13 : decode cX6_advice 13 = .ok (.getfield 33, 3) := by decide +kernel
theorem dX6_advice_16 : decode cX6_advice 16 = .ok (.iload_n 1, 1) := by decide +kernel
theorem dX6_advice_17 : decode cX6_advice 17 = .ok (.aload_n 0, 1) := by decide +kernel
theorem dX6_advice_18 : decode cX6_advice 18 = .ok (.getfield 33, 3) := by decide +kernel
theorem dX6_advice_21 : decode cX6_advice 21 = .ok (.getfield 108, 3) := by decide +kernel
theorem dX6_advice_24 : decode cX6_advice 24 = .ok (.invokevirtual 189, 3) := by decide +kernel
theorem dX6_advice_27 : decode cX6_advice 27 = .ok (.sipush 1000, 3) := by decide +kernel
theorem dX6_advice_30 : decode cX6_advice 30 = .ok (.idiv, 1) := by decide +kernel
theorem dX6_advice_31 : decode cX6_advice 31 = .ok (.ineg, 1) := by decide +kernel
theorem dX6_advice_32 : decode cX6_advice 32 = .ok (.ireturn, 1) := by decide +kernel
theorem dX6_offset_0 : decode cX6_offset 0 = .ok (.iload_n 1, 1) := by decide +kernel
theorem dX6_offset_1 : decode cX6_offset 1 = .ok (.iconst 0, 1) := by decide +kernel
theorem dX6_offset_2 : decode cX6_offset 2 = .ok (.iconst 3, 1) := by decide +kernel
theorem dX6_offset_3 : decode cX6_offset 3 = .ok (.invokestatic 44, 3) := by decide +kernel
theorem dX6_offset_6 : decode cX6_offset 6 = .ok (.ifCond .eq 6, 3) := by decide +kernel
theorem dX6_offset_9 : decode cX6_offset 9 = .ok (.ldc 62, 2) := by decide +kernel
theorem dX6_offset_11 : decode cX6_offset 11 = .ok (.ireturn, 1) := by decide +kernel
theorem dX6_offset_12 : decode cX6_offset 12 = .ok (.iload_n 2, 1) := by decide +kernel
theorem dX6_offset_13 : decode cX6_offset 13 = .ok (.iconst 0, 1) := by decide +kernel
theorem dX6_offset_14 : decode cX6_offset 14 = .ok (.iconst 5, 1) := by decide +kernel
theorem dX6_offset_15 : decode cX6_offset 15 = .ok (.invokestatic 44, 3) := by decide +kernel
theorem dX6_offset_18 : decode cX6_offset 18 = .ok (.ifCond .ne 16, 3) := by decide +kernel
theorem dX6_offset_21 : decode cX6_offset 21 = .ok (.iload_n 3, 1) := by decide +kernel
theorem dX6_offset_22 : decode cX6_offset 22 = .ok (.sipush (-999), 3) := by decide +kernel
theorem dX6_offset_25 : decode cX6_offset 25 = .ok (.sipush 999, 3) := by decide +kernel
theorem dX6_offset_28 : decode cX6_offset 28 = .ok (.invokestatic 44, 3) := by decide +kernel
theorem dX6_offset_31 : decode cX6_offset 31 = .ok (.ifCond .eq 6, 3) := by decide +kernel
theorem dX6_offset_34 : decode cX6_offset 34 = .ok (.ldc 48, 2) := by decide +kernel
theorem dX6_offset_36 : decode cX6_offset 36 = .ok (.ireturn, 1) := by decide +kernel
theorem dX6_offset_37 : decode cX6_offset 37 = .ok (.aload_n 0, 1) := by decide +kernel
theorem dX6_offset_38 : decode cX6_offset 38 = .ok (.getfield 40, 3) := by decide +kernel
theorem dX6_offset_41 : decode cX6_offset 41 = .ok (.getfield 192, 3) := by decide +kernel
theorem dX6_offset_44 : decode cX6_offset 44 = .ok (.iload_n 1, 1) := by decide +kernel
theorem dX6_offset_45 : decode cX6_offset 45 = .ok (.aaload, 1) := by decide +kernel
theorem dX6_offset_46 : decode cX6_offset 46 = .ok (.iload_n 2, 1) := by decide +kernel
theorem dX6_offset_47 : decode cX6_offset 47 = .ok (.iaload, 1) := by decide +kernel
theorem dX6_offset_48 : decode cX6_offset 48 = .ok (.istore 4, 2) := by decide +kernel
theorem dX6_offset_50 : decode cX6_offset 50 = .ok (.aload_n 0, 1) := by decide +kernel
theorem dX6_offset_51 : decode cX6_offset 51 = .ok (.getfield 40, 3) := by decide +kernel
theorem dX6_offset_54 : decode cX6_offset 54 = .ok (.getfield 192, 3) := by decide +kernel
theorem dX6_offset_57 : decode cX6_offset 57 = .ok (.iload_n 1, 1) := by decide +kernel
theorem dX6_offset_58 : decode cX6_offset 58 = .ok (.aaload, 1) := by decide +kernel
theorem dX6_offset_59 : decode cX6_offset 59 = .ok (.iload_n 2, 1) := by decide +kernel
theorem dX6_offset_60 : decode cX6_offset 60 = .ok (.iload_n 3, 1) := by decide +kernel
theorem dX6_offset_61 : decode cX6_offset 61 = .ok (.iastore, 1) := by decide +kernel
theorem dX6_offset_62 : decode cX6_offset 62 = .ok (.iload 4, 2) := by decide +kernel
theorem dX6_offset_64 : decode cX6_offset 64 = .ok (.ireturn, 1) := by decide +kernel
theorem dX6_rule_0 : decode cX6_rule 0 = .ok (.iload_n 1, 1) := by decide +kernel
theorem dX6_rule_1 : decode cX6_rule 1 = .ok (.ifCond .ne 32, 3) := by decide +kernel
theorem dX6_rule_4 : decode cX6_rule 4 = .ok (.iload_n 2, 1) := by decide +kernel
theorem dX6_rule_5 : decode cX6_rule 5 = .ok (.iconst 0, 1) := by decide +kernel
theorem dX6_rule_6 : decode cX6_rule 6 = .ok (.sipush 1998, 3) := by decide +kernel
theorem dX6_rule_9 : decode cX6_rule 9 = .ok (.invokestatic 44, 3) := by decide +kernel
theorem dX6_rule_12 : decode cX6_rule 12 = .ok (.ifCond .ne 21, 3) := by decide +kernel
theorem dX6_rule_15 : decode cX6_rule 15 = .ok (.aload_n 0, 1) := by decide +kernel
theorem dX6_rule_16 : decode cX6_rule 16 = .ok (.getfield 40, 3) := by decide +kernel
theorem dX6_rule_19 : decode cX6_rule 19 = .ok (.getfield 195, 3) := by decide +kernel
theorem dX6_rule_22 : decode cX6_rule 22 = .ok (.istore_n 3, 1) := by decide +kernel
theorem dX6_rule_23 : decode cX6_rule 23 = .ok (.aload_n 0, 1) := by decide +kernel
theorem dX6_rule_24 : decode cX6_rule 24 = .ok (.getfield 40, 3) := by decide +kernel
theorem dX6_rule_27 : decode cX6_rule 27 = .ok (.iload_n 2, 1) := by decide +kernel
theorem dX6_rule_28 : decode cX6_rule 28 = .ok (.putfield 195, 3) := by decide +kernel
theorem dX6_rule_31 : decode cX6_rule 31 = .ok (.iload_n 3, 1) := by decide +kernel
theorem dX6_rule_32 : decode cX6_rule 32 = .ok (.ireturn, 1) := by decide +kernel
theorem dX6_rule_33 : decode cX6_rule 33 = .ok (.iload_n 1, 1) := by decide +kernel
theorem dX6_rule_34 : decode cX6_rule 34 = .ok (.iconst 1, 1) := by decide +kernel
theorem dX6_rule_35 : decode cX6_rule 35 = .ok (.if_icmp .ne 31, 3) := by decide +kernel
theorem dX6_rule_38 : decode cX6_rule 38 = .ok (.iload_n 2, 1) := by decide +kernel
theorem dX6_rule_39 : decode cX6_rule 39 = .ok (.iconst 1, 1) := by decide +kernel
theorem dX6_rule_40 : decode cX6_rule 40 = .ok (.bipush 6, 2) := by decide +kernel
theorem dX6_rule_42 : decode cX6_rule 42 = .ok (.invokestatic 44, 3) := by decide +kernel
theorem dX6_rule_45 : decode cX6_rule 45 = .ok (.ifCond .ne 21, 3) := by decide +kernel
theorem dX6_rule_48 : decode cX6_rule 48 = .ok (.aload_n 0, 1) := by decide +kernel
theorem dX6_rule_49 : decode cX6_rule 49 = .ok (.getfield 40, 3) := by decide +kernel
theorem dX6_rule_52 : decode cX6_rule 52 = .ok (.getfield 198, 3) := by decide +kernel
theorem dX6_rule_55 : decode cX6_rule 55 = .ok (.istore_n 3, 1) := by decide +kernel
theorem dX6_rule_56 : decode cX6_rule 56 = .ok (.aload_n 0, 1) := by decide +kernel
theorem dX6_rule_57 : decode cX6_rule 57 = .ok (.getfield 40, 3) := by decide +kernel
theorem dX6_rule_60 : decode cX6_rule 60 = .ok (.iload_n 2, 1) := by decide +kernel
theorem dX6_rule_61 : decode cX6_rule 61 = .ok (.putfield 198, 3) := by decide +kernel
theorem dX6_rule_64 : decode cX6_rule 64 = .ok (.iload_n 3, 1) := by decide +kernel
theorem dX6_rule_65 : decode cX6_rule 65 = .ok (.ireturn, 1) := by decide +kernel
theorem dX6_rule_66 : decode cX6_rule 66 = .ok (.ldc 48, 2) := by decide +kernel
theorem dX6_rule_68 : decode cX6_rule 68 = .ok (.ireturn, 1) := by decide +kernel
theorem dX6_route_0 : decode cX6_route 0 = .ok (.iload_n 1, 1) := by decide +kernel
theorem dX6_route_1 : decode cX6_route 1 = .ok (.iconst 1, 1) := by decide +kernel
theorem dX6_route_2 : decode cX6_route 2 = .ok (.bipush 6, 2) := by decide +kernel
theorem dX6_route_4 : decode cX6_route 4 = .ok (.invokestatic 44, 3) := by decide +kernel
theorem dX6_route_7 : decode cX6_route 7 = .ok (.ifCond .ne 14, 3) := by decide +kernel
theorem dX6_route_10 : decode cX6_route 10 = .ok (.iload_n 2, 1) := by decide +kernel
theorem dX6_route_11 : decode cX6_route 11 = .ok (.iconst (-1), 1) := by decide +kernel
theorem dX6_route_12 : decode cX6_route 12 = .ok (.iload_n 1, 1) := by decide +kernel
theorem dX6_route_13 : decode cX6_route 13 = .ok (.iconst 1, 1) := by decide +kernel
theorem dX6_route_14 : decode cX6_route 14 = .ok (.isub, 1) := by decide +kernel
theorem dX6_route_15 : decode cX6_route 15 = .ok (.invokestatic 44, 3) := by decide +kernel
theorem dX6_route_18 : decode cX6_route 18 = .ok (.ifCond .eq 6, 3) := by decide +kernel
theorem dX6_route_21 : decode cX6_route 21 = .ok (.ldc 48, 2) := by decide +kernel
theorem dX6_route_23 : decode cX6_route 23 = .ok (.ireturn, 1) := by decide +kernel
theorem dX6_route_24 : decode cX6_route 24 = .ok (.aload_n 0, 1) := by decide +kernel
theorem dX6_route_25 : decode cX6_route 25 = .ok (.getfield 40, 3) := by decide +kernel
theorem dX6_route_28 : decode cX6_route 28 = .ok (.iload_n 1, 1) := by decide +kernel
theorem dX6_route_29 : decode cX6_route 29 = .ok (.invokevirtual 201, 3) := by decide +kernel
theorem dX6_route_32 : decode cX6_route 32 = .ok (.ifCond .ne 6, 3) := by decide +kernel
theorem dX6_route_35 : decode cX6_route 35 = .ok (.ldc 160, 2) := by decide +kernel
theorem dX6_route_37 : decode cX6_route 37 = .ok (.ireturn, 1) := by decide +kernel
theorem dX6_route_38 : decode cX6_route 38 = .ok (.iload_n 2, 1) := by decide +kernel
theorem dX6_route_39 : decode cX6_route 39 = .ok (.iconst (-1), 1) := by decide +kernel
theorem dX6_route_40 : decode cX6_route 40 = .ok (.if_icmp .ne 13, 3) := by decide +kernel
theorem dX6_route_43 : decode cX6_route 43 = .ok (.aload_n 0, 1) := by decide +kernel
theorem dX6_route_44 : decode cX6_route 44 = .ok (.getfield 40, 3) := by decide +kernel
theorem dX6_route_47 : decode cX6_route 47 = .ok (.getfield 203, 3) := by decide +kernel
theorem dX6_route_50 : decode cX6_route 50 = .ok (.goto 12, 3) := by decide +kernel
theorem dX6_route_53 : decode cX6_route 53 = .ok (.aload_n 0, 1) := by decide +kernel
theorem dX6_route_54 : decode cX6_route 54 = .ok (.getfield 40, 3) := by decide +kernel
theorem dX6_route_57 : decode cX6_route 57 = .ok (.getfield 206, 3) := by decide +kernel
theorem dX6_route_60 : decode cX6_route 60 = .ok (.iload_n 2, 1) := by decide +kernel
theorem dX6_route_61 : decode cX6_route 61 = .ok (.iaload, 1) := by decide +kernel
theorem dX6_route_62 : decode cX6_route 62 = .ok (.ireturn, 1) := by decide +kernel
theorem dX6_bad_0 : decode cX6_bad 0 = .ok (.iload_n 1, 1) := by decide +kernel
theorem dX6_bad_1 : decode cX6_bad 1 = .ok (.iconst 0, 1) := by decide +kernel
theorem dX6_bad_2 : decode cX6_bad 2 = .ok (.iconst 2, 1) := by decide +kernel
theorem dX6_bad_3 : decode cX6_bad 3 = .ok (.invokestatic 44, 3) := by decide +kernel
theorem dX6_bad_6 : decode cX6_bad 6 = .ok (.ifCond .ne 23, 3) := by decide +kernel
theorem dX6_bad_9 : decode cX6_bad 9 = .ok (.iload_n 2, 1) := by decide +kernel
theorem dX6_bad_10 : decode cX6_bad 10 = .ok (.iconst 0, 1) := by decide +kernel
theorem dX6_bad_11 : decode cX6_bad 11 = .ok (.sipush 999, 3) := by decide +kernel
theorem dX6_bad_14 : decode cX6_bad 14 = .ok (.invokestatic 44, 3) := by decide +kernel
theorem dX6_bad_17 : decode cX6_bad 17 = .ok (.ifCond .ne 12, 3) := by decide +kernel
theorem dX6_bad_20 : decode cX6_bad 20 = .ok (.iload_n 3, 1) := by decide +kernel
theorem dX6_bad_21 : decode cX6_bad 21 = .ok (.iconst 0, 1) := by decide +kernel
theorem dX6_bad_22 : decode cX6_bad 22 = .ok (.iconst 2, 1) := by decide +kernel
theorem dX6_bad_23 : decode cX6_bad 23 = .ok (.invokestatic 44, 3) := by decide +kernel
theorem dX6_bad_26 : decode cX6_bad 26 = .ok (.ifCond .eq 6, 3) := by decide +kernel
theorem dX6_bad_29 : decode cX6_bad 29 = .ok (.ldc 48, 2) := by decide +kernel
theorem dX6_bad_31 : decode cX6_bad 31 = .ok (.ireturn, 1) := by decide +kernel
theorem dX6_bad_32 : decode cX6_bad 32 = .ok (.aload_n 0, 1) := by decide +kernel
theorem dX6_bad_33 : decode cX6_bad 33 = .ok (.getfield 10, 3) := by decide +kernel
theorem dX6_bad_36 : decode cX6_bad 36 = .ok (.invokevirtual 104, 3) := by decide +kernel
theorem dX6_bad_39 : decode cX6_bad 39 = .ok (.istore 4, 2) := by decide +kernel
theorem dX6_bad_41 : decode cX6_bad 41 = .ok (.aload_n 0, 1) := by decide +kernel
theorem dX6_bad_42 : decode cX6_bad 42 = .ok (.getfield 19, 3) := by decide +kernel
theorem dX6_bad_45 : decode cX6_bad 45 = .ok (.aload_n 0, 1) := by decide +kernel
theorem dX6_bad_46 : decode cX6_bad 46 = .ok (.getfield 10, 3) := by decide +kernel
theorem dX6_bad_49 : decode cX6_bad 49 = .ok (.iload_n 1, 1) := by decide +kernel
theorem dX6_bad_50 : decode cX6_bad 50 = .ok (.iload 4, 2) := by decide +kernel
theorem dX6_bad_52 : decode cX6_bad 52 = .ok (.invokevirtual 117, 3) := by decide +kernel
theorem dX6_bad_55 : decode cX6_bad 55 = .ok (.ifCond .ne 6, 3) := by decide +kernel
theorem dX6_bad_58 : decode cX6_bad 58 = .ok (.ldc 160, 2) := by decide +kernel
theorem dX6_bad_60 : decode cX6_bad 60 = .ok (.ireturn, 1) := by decide +kernel
theorem dX6_bad_61 : decode cX6_bad 61 = .ok (.aload_n 0, 1) := by decide +kernel
theorem dX6_bad_62 : decode cX6_bad 62 = .ok (.getfield 19, 3) := by decide +kernel
theorem dX6_bad_65 : decode cX6_bad 65 = .ok (.aload_n 0, 1) := by decide +kernel
theorem dX6_bad_66 : decode cX6_bad 66 = .ok (.getfield 10, 3) := by decide +kernel
theorem dX6_bad_69 : decode cX6_bad 69 = .ok (.iload 4, 2) := by decide +kernel
theorem dX6_bad_71 : decode cX6_bad 71 = .ok (.iload_n 2, 1) := by decide +kernel
theorem dX6_bad_72 : decode cX6_bad 72 = .ok (.invokevirtual 208, 3) := by decide +kernel
theorem dX6_bad_75 : decode cX6_bad 75 = .ok (.istore 5, 2) := by decide +kernel
theorem dX6_bad_77 : decode cX6_bad 77 = .ok (.iload_n 3, 1) := by decide +kernel
theorem dX6_bad_78 : decode cX6_bad 78 = .ok (.ifCond .ne 9, 3) := by decide +kernel
theorem dX6_bad_81 : decode cX6_bad 81 = .ok (.iload 5, 2) := by decide +kernel
theorem dX6_bad_83 : decode cX6_bad 83 = .ok (.invokestatic 98, 3) := by decide +kernel
theorem dX6_bad_86 : decode cX6_bad 86 = .ok (.ireturn, 1) := by decide +kernel
theorem dX6_bad_87 : decode cX6_bad 87 = .ok (.aload_n 0, 1) := by decide +kernel
theorem dX6_bad_88 : decode cX6_bad 88 = .ok (.getfield 10, 3) := by decide +kernel
theorem dX6_bad_91 : decode cX6_bad 91 = .ok (.iload 5, 2) := by decide +kernel
theorem dX6_bad_93 : decode cX6_bad 93 = .ok (.invokevirtual 112, 3) := by decide +kernel
theorem dX6_bad_96 : decode cX6_bad 96 = .ok (.istore 6, 2) := by decide +kernel
theorem dX6_bad_98 : decode cX6_bad 98 = .ok (.iload_n 3, 1) := by decide +kernel
theorem dX6_bad_99 : decode cX6_bad 99 = .ok (.iconst 1, 1) := by decide +kernel
theorem dX6_bad_100 : decode cX6_bad 100 = .ok (.if_icmp .ne 6, 3) := by decide +kernel
theorem dX6_bad_103 : decode cX6_bad 103 = .ok (.iload 6, 2) := by decide +kernel
theorem dX6_bad_105 : decode cX6_bad 105 = .ok (.ireturn, 1) := by decide +kernel
theorem dX6_bad_106 : decode cX6_bad 106 = .ok (.iconst 2, 1) := by decide +kernel
theorem dX6_bad_107 : decode cX6_bad 107 = .ok (.iload 6, 2) := by decide +kernel
theorem dX6_bad_109 : decode cX6_bad 109 = .ok (.imul, 1) := by decide +kernel
theorem dX6_bad_110 : decode cX6_bad 110 = .ok (.aload_n 0, 1) := by decide +kernel
theorem dX6_bad_111 : decode cX6_bad 111 = .ok (.getfield 10, 3) := by decide +kernel
theorem dX6_bad_114 : decode cX6_bad 114 = .ok (.iload 4, 2) := by decide +kernel
theorem dX6_bad_116 : decode cX6_bad 116 = .ok (.invokevirtual 112, 3) := by decide +kernel
theorem dX6_bad_119 : decode cX6_bad 119 = .ok (.if_icmp .le 7, 3) := by decide +kernel
theorem dX6_bad_122 : decode cX6_bad 122 = .ok (.iconst 1, 1) := by decide +kernel
theorem dX6_bad_123 : decode cX6_bad 123 = .ok (.goto 4, 3) := by decide +kernel
theorem dX6_bad_126 : decode cX6_bad 126 = .ok (.iconst 0, 1) := by decide +kernel
theorem dX6_bad_127 : decode cX6_bad 127 = .ok (.ireturn, 1) := by decide +kernel
theorem dX6_outside_0 : decode cX6_outside 0 = .ok (.iload_n 0, 1) := by decide +kernel
theorem dX6_outside_1 : decode cX6_outside 1 = .ok (.iload_n 1, 1) := by decide +kernel
theorem dX6_outside_2 : decode cX6_outside 2 = .ok (.if_icmp .lt 8, 3) := by decide +kernel
theorem dX6_outside_5 : decode cX6_outside 5 = .ok (.iload_n 0, 1) := by decide +kernel
theorem dX6_outside_6 : decode cX6_outside 6 = .ok (.iload_n 2, 1) := by decide +kernel
theorem dX6_outside_7 : decode cX6_outside 7 = .ok (.if_icmp .le 7, 3) := by decide +kernel
theorem dX6_outside_10 : decode cX6_outside 10 = .ok (.iconst 1, 1) := by decide +kernel
theorem dX6_outside_11 : decode cX6_outside 11 = .ok (.goto 4, 3) := by decide +kernel
theorem dX6_outside_14 : decode cX6_outside 14 = .ok (.iconst 0, 1) := by decide +kernel
theorem dX6_outside_15 : decode cX6_outside 15 = .ok (.ireturn, 1) := by decide +kernel
theorem dX6_outsideFit_0 : decode cX6_outsideFit 0 = .ok (.iload_n 0, 1) := by decide +kernel
theorem dX6_outsideFit_1 : decode cX6_outsideFit 1 = .ok (.iconst 0, 1) := by decide +kernel
theorem dX6_outsideFit_2 : decode cX6_outsideFit 2 = .ok (.iconst 2, 1) := by decide +kernel
theorem dX6_outsideFit_3 : decode cX6_outsideFit 3 = .ok (.invokestatic 44, 3) := by decide +kernel
theorem dX6_outsideFit_6 : decode cX6_outsideFit 6 = .ok (.ifCond .ne 21, 3) := by decide +kernel
theorem dX6_outsideFit_9 : decode cX6_outsideFit 9 = .ok (.iload_n 1, 1) := by decide +kernel
theorem dX6_outsideFit_10 : decode cX6_outsideFit 10 = .ok (.iconst 0, 1) := by decide +kernel
theorem dX6_outsideFit_11 : decode cX6_outsideFit 11 = .ok (.iconst 1, 1) := by decide +kernel
theorem dX6_outsideFit_12 : decode cX6_outsideFit 12 = .ok (.invokestatic 44, 3) := by decide +kernel
theorem dX6_outsideFit_15 : decode cX6_outsideFit 15 = .ok (.ifCond .ne 12, 3) := by decide +kernel
theorem dX6_outsideFit_18 : decode cX6_outsideFit 18 = .ok (.iload_n 2, 1) := by decide +kernel
theorem dX6_outsideFit_19 : decode cX6_outsideFit 19 = .ok (.iconst 0, 1) := by decide +kernel
theorem dX6_outsideFit_20 : decode cX6_outsideFit 20 = .ok (.iconst 1, 1) := by decide +kernel
theorem dX6_outsideFit_21 : decode cX6_outsideFit 21 = .ok (.invokestatic 44, 3) := by decide +kernel
theorem dX6_outsideFit_24 : decode cX6_outsideFit 24 = .ok (.ifCond .eq 7, 3) := by decide +kernel
theorem dX6_outsideFit_27 : decode cX6_outsideFit 27 = .ok (.iconst 1, 1) := by decide +kernel
theorem dX6_outsideFit_28 : decode cX6_outsideFit 28 = .ok (.goto 4, 3) := by decide +kernel
theorem dX6_outsideFit_31 : decode cX6_outsideFit 31 = .ok (.iconst 0, 1) := by decide +kernel
theorem dX6_outsideFit_32 : decode cX6_outsideFit 32 = .ok (.ireturn, 1) := by decide +kernel
theorem dX6_lastTerm_0 : decode cX6_lastTerm 0 = .ok (.iload_n 0, 1) := by decide +kernel
theorem dX6_lastTerm_1 : decode cX6_lastTerm 1 = .ok (.ifCond .ne 7, 3) := by decide +kernel
theorem dX6_lastTerm_4 : decode cX6_lastTerm 4 = .ok (.iconst 0, 1) := by decide +kernel
theorem dX6_lastTerm_5 : decode cX6_lastTerm 5 = .ok (.goto 4, 3) := by decide +kernel
theorem dX6_lastTerm_8 : decode cX6_lastTerm 8 = .ok (.iconst 2, 1) := by decide +kernel
theorem dX6_lastTerm_9 : decode cX6_lastTerm 9 = .ok (.ireturn, 1) := by decide +kernel
theorem dX6_isIn_0 : decode cX6_isIn 0 = .ok (.iload_n 0, 1) := by decide +kernel
theorem dX6_isIn_1 : decode cX6_isIn 1 = .ok (.iload_n 1, 1) := by decide +kernel
theorem dX6_isIn_2 : decode cX6_isIn 2 = .ok (.ishr, 1) := by decide +kernel
theorem dX6_isIn_3 : decode cX6_isIn 3 = .ok (.iconst 1, 1) := by decide +kernel
theorem dX6_isIn_4 : decode cX6_isIn 4 = .ok (.iand, 1) := by decide +kernel
theorem dX6_isIn_5 : decode cX6_isIn 5 = .ok (.ifCond .eq 7, 3) := by decide +kernel
theorem dX6_isIn_8 : decode cX6_isIn 8 = .ok (.iconst 1, 1) := by decide +kernel
theorem dX6_isIn_9 : decode cX6_isIn 9 = .ok (.goto 4, 3) := by decide +kernel
theorem dX6_isIn_12 : decode cX6_isIn 12 = .ok (.iconst 0, 1) := by decide +kernel
theorem dX6_isIn_13 : decode cX6_isIn 13 = .ok (.ireturn, 1) := by decide +kernel
theorem dX6_partOf_0 : decode cX6_partOf 0 = .ok (.lload_n 0, 1) := by decide +kernel
theorem dX6_partOf_1 : decode cX6_partOf 1 = .ok (.invokestatic 211, 3) := by decide +kernel
theorem dX6_partOf_4 : decode cX6_partOf 4 = .ok (.lload_n 2, 1) := by decide +kernel
theorem dX6_partOf_5 : decode cX6_partOf 5 = .ok (.invokestatic 217, 3) := by decide +kernel
theorem dX6_partOf_8 : decode cX6_partOf 8 = .ok (.lstore 5, 2) := by decide +kernel
theorem dX6_partOf_10 : decode cX6_partOf 10 = .ok (.lload 5, 2) := by decide +kernel
theorem dX6_partOf_12 : decode cX6_partOf 12 = .ok (.lconst 0, 1) := by decide +kernel
theorem dX6_partOf_13 : decode cX6_partOf 13 = .ok (.lcmp, 1) := by decide +kernel
theorem dX6_partOf_14 : decode cX6_partOf 14 = .ok (.ifCond .ne 5, 3) := by decide +kernel
theorem dX6_partOf_17 : decode cX6_partOf 17 = .ok (.lconst 0, 1) := by decide +kernel
theorem dX6_partOf_18 : decode cX6_partOf 18 = .ok (.lreturn, 1) := by decide +kernel
theorem dX6_partOf_19 : decode cX6_partOf 19 = .ok (.iload 4, 2) := by decide +kernel
theorem dX6_partOf_21 : decode cX6_partOf 21 = .ok (.ifCond .ne 7, 3) := by decide +kernel
theorem dX6_partOf_24 : decode cX6_partOf 24 = .ok (.lload_n 0, 1) := by decide +kernel
theorem dX6_partOf_25 : decode cX6_partOf 25 = .ok (.goto 4, 3) := by decide +kernel
theorem dX6_partOf_28 : decode cX6_partOf 28 = .ok (.lload_n 2, 1) := by decide +kernel
theorem dX6_partOf_29 : decode cX6_partOf 29 = .ok (.lload 5, 2) := by decide +kernel
theorem dX6_partOf_31 : decode cX6_partOf 31 = .ok (.ldiv, 1) := by decide +kernel
theorem dX6_partOf_32 : decode cX6_partOf 32 = .ok (.lreturn, 1) := by decide +kernel
theorem dX6_commonDivisor_0 : decode cX6_commonDivisor 0 = .ok (.iconst 0, 1) := by decide +kernel
theorem dX6_commonDivisor_1 : decode cX6_commonDivisor 1 = .ok (.istore 4, 2) := by decide +kernel
theorem dX6_commonDivisor_3 : decode cX6_commonDivisor 3 = .ok (.iload 4, 2) := by decide +kernel
theorem dX6_commonDivisor_5 : decode cX6_commonDivisor 5 = .ok (.bipush 100, 2) := by decide +kernel
theorem dX6_commonDivisor_7 : decode cX6_commonDivisor 7 = .ok (.if_icmp .ge 25, 3) := by decide +kernel
theorem dX6_commonDivisor_10 : decode cX6_commonDivisor 10 = .ok (.lload_n 2, 1) := by decide +kernel
theorem dX6_commonDivisor_11 : decode cX6_commonDivisor 11 = .ok (.lconst 0, 1) := by decide +kernel
theorem dX6_commonDivisor_12 : decode cX6_commonDivisor 12 = .ok (.lcmp, 1) := by decide +kernel
theorem dX6_commonDivisor_13 : decode cX6_commonDivisor 13 = .ok (.ifCond .eq 19, 3) := by decide +kernel
theorem dX6_commonDivisor_16 : decode cX6_commonDivisor 16 = .ok (.lload_n 0, 1) := by decide +kernel
theorem dX6_commonDivisor_17 : decode cX6_commonDivisor 17 = .ok (.lload_n 2, 1) := by decide +kernel
theorem dX6_commonDivisor_18 : decode cX6_commonDivisor 18 = .ok (.lrem, 1) := by decide +kernel
theorem dX6_commonDivisor_19 : decode cX6_commonDivisor 19 = .ok (.lstore 5, 2) := by decide +kernel
theorem dX6_commonDivisor_21 : decode cX6_commonDivisor 21 = .ok (.lload_n 2, 1) := by decide +kernel
theorem dX6_commonDivisor_22 : decode cX6_commonDivisor 22 = .ok (.lstore_n 0, 1) := by decide +kernel
theorem dX6_commonDivisor_23 : decode cX6_commonDivisor 23 = .ok (.lload 5, 2) := by decide +kernel
theorem dX6_commonDivisor_25 : decode cX6_commonDivisor 25 = .ok (.lstore_n 2, 1) := by decide +kernel
theorem dX6_commonDivisor_26 : decode cX6_commonDivisor 26 = .ok (.iinc 4 1, 3) := by decide +kernel
theorem dX6_commonDivisor_29 : decode cX6_commonDivisor 29 = .ok (.goto (-26), 3) := by decide +kernel
theorem dX6_commonDivisor_32 : decode cX6_commonDivisor 32 = .ok (.lload_n 0, 1) := by decide +kernel
theorem dX6_commonDivisor_33 : decode cX6_commonDivisor 33 = .ok (.lreturn, 1) := by decide +kernel
theorem dX7_init_0 : decode cX7_init 0 = .ok (.aload_n 0, 1) := by decide +kernel
theorem dX7_init_1 : decode cX7_init 1 = .ok (.invokespecial 1, 3) := by decide +kernel
theorem dX7_init_4 : decode cX7_init 4 = .ok (.aload_n 0, 1) := by decide +kernel
theorem dX7_init_5 : decode cX7_init 5 = .ok (.bipush 48, 2) := by decide +kernel
theorem dX7_init_7 : decode cX7_init 7 = .ok (.newarray .int, 2) := by decide +kernel
theorem dX7_init_9 : decode cX7_init 9 = .ok (.putfield 7, 3) := by decide +kernel
theorem dX7_init_12 : decode cX7_init 12 = .ok (.aload_n 0, 1) := by decide +kernel
theorem dX7_init_13 : decode cX7_init 13 = .ok (.bipush 24, 2) := by decide +kernel
theorem dX7_init_15 : decode cX7_init 15 = .ok (.newarray .int, 2) := by decide +kernel
theorem dX7_init_17 : decode cX7_init 17 = .ok (.putfield 13, 3) := by decide +kernel
theorem dX7_init_20 : decode cX7_init 20 = .ok (.aload_n 0, 1) := by decide +kernel
theorem dX7_init_21 : decode cX7_init 21 = .ok (.bipush 12, 2) := by decide +kernel
theorem dX7_init_23 : decode cX7_init 23 = .ok (.newarray .boolean, 2) := by decide +kernel
theorem dX7_init_25 : decode cX7_init 25 = .ok (.putfield 16, 3) := by decide +kernel
theorem dX7_init_28 : decode cX7_init 28 = .ok (.aload_n 0, 1) := by decide +kernel
theorem dX7_init_29 : decode cX7_init 29 = .ok (.bipush 12, 2) := by decide +kernel
theorem dX7_init_31 : decode cX7_init 31 = .ok (.newarray .boolean, 2) := by decide +kernel
theorem dX7_init_33 : decode cX7_init 33 = .ok (.putfield 20, 3) := by decide +kernel
theorem dX7_init_36 : decode cX7_init 36 = .ok (.aload_n 0, 1) := by decide +kernel
theorem dX7_init_37 : decode cX7_init 37 = .ok (.bipush 60, 2) := by decide +kernel
theorem dX7_init_39 : decode cX7_init 39 = .ok (.newarray .int, 2) := by decide +kernel
theorem dX7_init_41 : decode cX7_init 41 = .ok (.putfield 23, 3) := by decide +kernel
theorem dX7_init_44 : decode cX7_init 44 = .ok (.aload_n 0, 1) := by decide +kernel
theorem dX7_init_45 : decode cX7_init 45 = .ok (.bipush 60, 2) := by decide +kernel
theorem dX7_init_47 : decode cX7_init 47 = .ok (.newarray .int, 2) := by decide +kernel
theorem dX7_init_49 : decode cX7_init 49 = .ok (.putfield 26, 3) := by decide +kernel
theorem dX7_init_52 : decode cX7_init 52 = .ok (.aload_n 0, 1) := by decide +kernel
theorem dX7_init_53 : decode cX7_init 53 = .ok (.bipush 60, 2) := by decide +kernel
theorem dX7_init_55 : decode cX7_init 55 = .ok (.newarray .int, 2) := by decide +kernel
theorem dX7_init_57 : decode cX7_init 57 = .ok (.putfield 29, 3) := by decide +kernel
theorem dX7_init_60 : decode cX7_init 60 = .ok (.aload_n 0, 1) := by decide +kernel
theorem dX7_init_61 : decode cX7_init 61 = .ok (.bipush 60, 2) := by decide +kernel
theorem dX7_init_63 : decode cX7_init 63 = .ok (.newarray .boolean, 2) := by decide +kernel
theorem dX7_init_65 : decode cX7_init 65 = .ok (.putfield 32, 3) := by decide +kernel
theorem dX7_init_68 : decode cX7_init 68 = .ok (.aload_n 0, 1) := by decide +kernel
theorem dX7_init_69 : decode cX7_init 69 = .ok (.sipush 244, 3) := by decide +kernel
theorem dX7_init_72 : decode cX7_init 72 = .ok (.newarray .boolean, 2) := by decide +kernel
theorem dX7_init_74 : decode cX7_init 74 = .ok (.putfield 35, 3) := by decide +kernel
theorem dX7_init_77 : decode cX7_init 77 = .ok (.aload_n 0, 1) := by decide +kernel
theorem dX7_init_78 : decode cX7_init 78 = .ok (.bipush 8, 2) := by decide +kernel
theorem dX7_init_80 : decode cX7_init 80 = .ok (.putfield 38, 3) := by decide +kernel
theorem dX7_init_83 : decode cX7_init 83 = .ok (.aload_n 0, 1) := by decide +kernel
theorem dX7_init_84 : decode cX7_init 84 = .ok (.bipush 24, 2) := by decide +kernel
theorem dX7_init_86 : decode cX7_init 86 = .ok (.newarray .int, 2) := by decide +kernel
theorem dX7_init_88 : decode cX7_init 88 = .ok (.putfield 42, 3) := by decide +kernel
theorem dX7_init_91 : decode cX7_init 91 = .ok (.aload_n 0, 1) := by decide +kernel
theorem dX7_init_92 : decode cX7_init 92 = .ok (.bipush 100, 2) := by decide +kernel
theorem dX7_init_94 : decode cX7_init 94 = .ok (.putfield 45, 3) := by decide +kernel
theorem dX7_init_97 : decode cX7_init 97 = .ok (.aload_n 0, 1) := by decide +kernel
theorem dX7_init_98 : decode cX7_init 98 = .ok (.bipush 6, 2) := by decide +kernel
theorem dX7_init_100 : decode cX7_init 100 = .ok (.putfield 48, 3) := by decide +kernel
theorem dX7_init_103 : decode cX7_init 103 = .ok (.aload_n 0, 1) := by decide +kernel
theorem dX7_init_104 : decode cX7_init 104 = .ok (.bipush 9, 2) := by decide +kernel
theorem dX7_init_106 : decode cX7_init 106 = .ok (.newarray .long, 2) := by decide +kernel
theorem dX7_init_108 : decode cX7_init 108 = .ok (.putfield 51, 3) := by decide +kernel
theorem dX7_init_111 : decode cX7_init 111 = .ok (.aload_n 0, 1) := by decide +kernel
theorem dX7_init_112 : decode cX7_init 112 = .ok (.bipush 9, 2) := by decide +kernel
theorem dX7_init_114 : decode cX7_init 114 = .ok (.newarray .long, 2) := by decide +kernel
theorem dX7_init_116 : decode cX7_init 116 = .ok (.putfield 55, 3) := by decide +kernel
theorem dX7_init_119 : decode cX7_init 119 = .ok (.aload_n 0, 1) := by decide +kernel
theorem dX7_init_120 : decode cX7_init 120 = .ok (.iconst 3, 1) := by decide +kernel
theorem dX7_init_121 : decode cX7_init 121 = .ok (.newarray .long, 2) := by decide +kernel
theorem dX7_init_123 : decode cX7_init 123 = .ok (.putfield 58, 3) := by decide +kernel
theorem dX7_init_126 : decode cX7_init 126 = .ok (.aload_n 0, 1) := by decide +kernel
theorem dX7_init_127 : decode cX7_init 127 = .ok (.iconst 3, 1) := by decide +kernel
theorem dX7_init_128 : decode cX7_init 128 = .ok (.newarray .long, 2) := by decide +kernel
theorem dX7_init_130 : decode cX7_init 130 = .ok (.putfield 61, 3) := by decide +kernel
theorem dX7_init_133 : decode cX7_init 133 = .ok (.aload_n 0, 1) := by decide +kernel
theorem dX7_init_134 : decode cX7_init 134 = .ok (.bipush 12, 2) := by decide +kernel
theorem dX7_init_136 : decode cX7_init 136 = .ok (.newarray .long, 2) := by decide +kernel
theorem dX7_init_138 : decode cX7_init 138 = .ok (.putfield 64, 3) := by decide +kernel
theorem dX7_init_141 : decode cX7_init 141 = .ok (.aload_n 0, 1) := by decide +kernel
theorem dX7_init_142 : decode cX7_init 142 = .ok (.bipush 6, 2) := by decide +kernel
theorem dX7_init_144 : decode cX7_init 144 = .ok (.newarray .int, 2) := by decide +kernel
theorem dX7_init_146 : decode cX7_init 146 = .ok (.putfield 67, 3) := by decide +kernel
theorem dX7_init_149 : decode cX7_init 149 = .ok (.aload_n 0, 1) := by decide +kernel
theorem dX7_init_150 : decode cX7_init 150 = .ok (.iconst 4, 1) := by decide +kernel
theorem dX7_init_151 : decode cX7_init 151 = .ok (.newarray .int, 2) := by decide +kernel
theorem dX7_init_153 : decode cX7_init 153 = .ok (.putfield 70, 3) := by decide +kernel
theorem dX7_init_156 : decode cX7_init 156 = .ok (.return_, 1) := by decide +kernel
theorem dX7_in_0 : decode cX7_in 0 = .ok (.lload_n 0, 1) := by decide +kernel
theorem dX7_in_1 : decode cX7_in 1 = .ok (.lload_n 2, 1) := by decide +kernel
theorem dX7_in_2 : decode cX7_in 2 = .ok (.lcmp, 1) := by decide +kernel
theorem dX7_in_3 : decode cX7_in 3 = .ok (.ifCond .lt 14, 3) := by decide +kernel
theorem dX7_in_6 : decode cX7_in 6 = .ok (.lload_n 0, 1) := by decide +kernel
theorem dX7_in_7 : decode cX7_in 7 = .ok (.lload 4, 2) := by decide +kernel
theorem dX7_in_9 : decode cX7_in 9 = .ok (.lcmp, 1) := by decide +kernel
theorem dX7_in_10 : decode cX7_in 10 = .ok (.ifCond .gt 7, 3) := by decide +kernel
theorem dX7_in_13 : decode cX7_in 13 = .ok (.iconst 1, 1) := by decide +kernel
theorem dX7_in_14 : decode cX7_in 14 = .ok (.goto 4, 3) := by decide +kernel
theorem dX7_in_17 : decode cX7_in 17 = .ok (.iconst 0, 1) := by decide +kernel
theorem dX7_in_18 : decode cX7_in 18 = .ok (.ireturn, 1) := by decide +kernel
theorem dX7_mark_0 : decode cX7_mark 0 = .ok (.iload_n 1, 1) := by decide +kernel
theorem dX7_mark_1 : decode cX7_mark 1 = .ok (.i2l, 1) := by decide +kernel
theorem dX7_mark_2 : decode cX7_mark 2 = .ok (.ldc2_w 73, 3) := by decide +kernel
theorem dX7_mark_5 : decode cX7_mark 5 = .ok (.ldc2_w 75, 3) := by decide +kernel
theorem dX7_mark_8 : decode cX7_mark 8 = .ok (.invokestatic 77, 3) := by decide +kernel
theorem dX7_mark_11 : decode cX7_mark 11 = .ok (.ifCond .eq 46, 3) := by decide +kernel
theorem dX7_mark_14 : decode cX7_mark 14 = .ok (.iload_n 2, 1) := by decide +kernel
theorem dX7_mark_15 : decode cX7_mark 15 = .ok (.i2l, 1) := by decide +kernel
theorem dX7_mark_16 : decode cX7_mark 16 = .ok (.ldc2_w 73, 3) := by decide +kernel
theorem dX7_mark_19 : decode cX7_mark 19 = .ok (.ldc2_w 75, 3) := by decide +kernel
theorem dX7_mark_22 : decode cX7_mark 22 = .ok (.invokestatic 77, 3) := by decide +kernel
theorem dX7_mark_25 : decode cX7_mark 25 = .ok (.ifCond .eq 32, 3) := by decide +kernel
theorem dX7_mark_28 : decode cX7_mark 28 = .ok (.iload_n 3, 1) := by decide +kernel
theorem dX7_mark_29 : decode cX7_mark 29 = .ok (.i2l, 1) := by decide +kernel
theorem dX7_mark_30 : decode cX7_mark 30 = .ok (.ldc2_w 81, 3) := by decide +kernel
theorem dX7_mark_33 : decode cX7_mark 33 = .ok (.ldc2_w 83, 3) := by decide +kernel
theorem dX7_mark_36 : decode cX7_mark 36 = .ok (.invokestatic 77, 3) := by decide +kernel
theorem dX7_mark_39 : decode cX7_mark 39 = .ok (.ifCond .eq 18, 3) := by decide +kernel
theorem dX7_mark_42 : decode cX7_mark 42 = .ok (.iload 4, 2) := by decide +kernel
theorem dX7_mark_44 : decode cX7_mark 44 = .ok (.i2l, 1) := by decide +kernel
theorem dX7_mark_45 : decode cX7_mark 45 = .ok (.ldc2_w 81, 3) := by decide +kernel
theorem dX7_mark_48 : decode cX7_mark 48 = .ok (.ldc2_w 83, 3) := by decide +kernel
theorem dX7_mark_51 : decode cX7_mark 51 = .ok (.invokestatic 77, 3) := by decide +kernel
theorem dX7_mark_54 : decode cX7_mark 54 = .ok (.ifCond .ne 6, 3) := by decide +kernel
theorem dX7_mark_57 : decode cX7_mark 57 = .ok (.ldc 85, 2) := by decide +kernel
theorem dX7_mark_59 : decode cX7_mark 59 = .ok (.ireturn, 1) := by decide +kernel
theorem dX7_mark_60 : decode cX7_mark 60 = .ok (.aload_n 0, 1) := by decide +kernel
theorem dX7_mark_61 : decode cX7_mark 61 = .ok (.getfield 86, 3) := by decide +kernel
theorem dX7_mark_64 : decode cX7_mark 64 = .ok (.bipush 12, 2) := by decide +kernel
theorem dX7_mark_66 : decode cX7_mark 66 = .ok (.if_icmp .ne 6, 3) := by decide +kernel
theorem dX7_mark_69 : decode cX7_mark 69 = .ok (.ldc 89, 2) := by decide +kernel
theorem dX7_mark_71 : decode cX7_mark 71 = .ok (.ireturn, 1) := by decide +kernel
theorem dX7_mark_72 : decode cX7_mark 72 = .ok (.aload_n 0, 1) := by decide +kernel
theorem dX7_mark_73 : decode cX7_mark 73 = .ok (.getfield 7, 3) := by decide +kernel
theorem dX7_mark_76 : decode cX7_mark 76 = .ok (.iconst 4, 1) := by decide +kernel
theorem dX7_mark_77 : decode cX7_mark 77 = .ok (.aload_n 0, 1) := by decide +kernel
theorem dX7_mark_78 : decode cX7_mark 78 = .ok (.getfield 86, 3) := by decide +kernel
theorem dX7_mark_81 : decode cX7_mark 81 = .ok (.imul, 1) := by decide +kernel
theorem dX7_mark_82 : decode cX7_mark 82 = .ok (.iload_n 1, 1) := by decide +kernel
theorem dX7_mark_83 : decode cX7_mark 83 = .ok (.iastore, 1) := by decide +kernel
theorem dX7_mark_84 : decode cX7_mark 84 = .ok (.aload_n 0, 1) := by decide +kernel
theorem dX7_mark_85 : decode cX7_mark 85 = .ok (.getfield 7, 3) := by decide +kernel
theorem dX7_mark_88 : decode cX7_mark 88 = .ok (.iconst 4, 1) := by decide +kernel
theorem dX7_mark_89 : decode cX7_mark 89 = .ok (.aload_n 0, 1) := by decide +kernel
theorem dX7_mark_90 : decode cX7_mark 90 = .ok (.getfield 86, 3) := by decide +kernel
theorem dX7_mark_93 : decode cX7_mark 93 = .ok (.imul, 1) := by decide +kernel
theorem dX7_mark_94 : decode cX7_mark 94 = .ok (.iconst 1, 1) := by decide +kernel
theorem dX7_mark_95 : decode cX7_mark 95 = .ok (.iadd, 1) := by decide +kernel
theorem dX7_mark_96 : decode cX7_mark 96 = .ok (.iload_n 2, 1) := by decide +kernel
theorem dX7_mark_97 : decode cX7_mark 97 = .ok (.iastore, 1) := by decide +kernel
theorem dX7_mark_98 : decode cX7_mark 98 = .ok (.aload_n 0, 1) := by decide +kernel
theorem dX7_mark_99 : decode cX7_mark 99 = .ok (.getfield 7, 3) := by decide +kernel
theorem dX7_mark_102 : decode cX7_mark 102 = .ok (.iconst 4, 1) := by decide +kernel
theorem dX7_mark_103 : decode cX7_mark 103 = .ok (.aload_n 0, 1) := by decide +kernel
theorem dX7_mark_104 : decode cX7_mark 104 = .ok (.getfield 86, 3) := by decide +kernel
theorem dX7_mark_107 : decode cX7_mark 107 = .ok (.imul, 1) := by decide +kernel
theorem dX7_mark_108 : decode cX7_mark 108 = .ok (.iconst 2, 1) := by decide +kernel
theorem dX7_mark_109 : decode cX7_mark 109 = .ok (.iadd, 1) := by decide +kernel
theorem dX7_mark_110 : decode cX7_mark 110 = .ok (.iload_n 3, 1) := by decide +kernel
theorem dX7_mark_111 : decode cX7_mark 111 = .ok (.iastore, 1) := by decide +kernel
theorem dX7_mark_112 : decode cX7_mark 112 = .ok (.aload_n 0, 1) := by decide +kernel
theorem dX7_mark_113 : decode cX7_mark 113 = .ok (.getfield 7, 3) := by decide +kernel
theorem dX7_mark_116 : decode cX7_mark 116 = .ok (.iconst 4, 1) := by decide +kernel
theorem dX7_mark_117 : decode cX7_mark 117 = .ok (.aload_n 0, 1) := by decide +kernel
theorem dX7_mark_118 : decode cX7_mark 118 = .ok (.getfield 86, 3) := by decide +kernel
theorem dX7_mark_121 : decode cX7_mark 121 = .ok (.imul, 1) := by decide +kernel
theorem dX7_mark_122 : decode cX7_mark 122 = .ok (.iconst 3, 1) := by decide +kernel
theorem dX7_mark_123 : decode cX7_mark 123 = .ok (.iadd, 1) := by decide +kernel
theorem dX7_mark_124 : decode cX7_mark 124 = .ok (.iload 4, 2) := by decide +kernel
theorem dX7_mark_126 : decode cX7_mark 126 = .ok (.iastore, 1) := by decide +kernel
theorem dX7_mark_127 : decode cX7_mark 127 = .ok (.aload_n 0, 1) := by decide +kernel
theorem dX7_mark_128 : decode cX7_mark 128 = .ok (.getfield 13, 3) := by decide +kernel
theorem dX7_mark_131 : decode cX7_mark 131 = .ok (.iconst 2, 1) := by decide +kernel
theorem dX7_mark_132 : decode cX7_mark 132 = .ok (.aload_n 0, 1) := by decide +kernel
theorem dX7_mark_133 : decode cX7_mark 133 = .ok (.getfield 86, 3) := by decide +kernel
theorem dX7_mark_136 : decode cX7_mark 136 = .ok (.imul, 1) := by decide +kernel
theorem dX7_mark_137 : decode cX7_mark 137 = .ok (.iconst 0, 1) := by decide +kernel
theorem dX7_mark_138 : decode cX7_mark 138 = .ok (.iastore, 1) := by decide +kernel
theorem dX7_mark_139 : decode cX7_mark 139 = .ok (.aload_n 0, 1) := by decide +kernel
theorem dX7_mark_140 : decode cX7_mark 140 = .ok (.getfield 13, 3) := by decide +kernel
theorem dX7_mark_143 : decode cX7_mark 143 = .ok (.iconst 2, 1) := by decide +kernel
theorem dX7_mark_144 : decode cX7_mark 144 = .ok (.aload_n 0, 1) := by decide +kernel
theorem dX7_mark_145 : decode cX7_mark 145 = .ok (.getfield 86, 3) := by decide +kernel
theorem dX7_mark_148 : decode cX7_mark 148 = .ok (.imul, 1) := by decide +kernel
theorem dX7_mark_149 : decode cX7_mark 149 = .ok (.iconst 1, 1) := by decide +kernel
theorem dX7_mark_150 : decode cX7_mark 150 = .ok (.iadd, 1) := by decide +kernel
theorem dX7_mark_151 : decode cX7_mark 151 = .ok (.iconst 0, 1) := by decide +kernel
theorem dX7_mark_152 : decode cX7_mark 152 = .ok (.iastore, 1) := by decide +kernel
theorem dX7_mark_153 : decode cX7_mark 153 = .ok (.aload_n 0, 1) := by decide +kernel
theorem dX7_mark_154 : decode cX7_mark 154 = .ok (.getfield 16, 3) := by decide +kernel
theorem dX7_mark_157 : decode cX7_mark 157 = .ok (.aload_n 0, 1) := by decide +kernel
theorem dX7_mark_158 : decode cX7_mark 158 = .ok (.getfield 86, 3) := by decide +kernel
theorem dX7_mark_161 : decode cX7_mark 161 = .ok (.iconst 1, 1) := by decide +kernel
theorem dX7_mark_162 : decode cX7_mark 162 = .ok (.bastore, 1) := by decide +kernel
theorem dX7_mark_163 : decode cX7_mark 163 = .ok (.aload_n 0, 1) := by decide +kernel
theorem dX7_mark_164 : decode cX7_mark 164 = .ok (.getfield 20, 3) := by decide +kernel
theorem dX7_mark_167 : decode cX7_mark 167 = .ok (.aload_n 0, 1) := by decide +kernel
theorem dX7_mark_168 : decode cX7_mark 168 = .ok (.getfield 86, 3) := by decide +kernel
theorem dX7_mark_171 : decode cX7_mark 171 = .ok (.iconst 0, 1) := by decide +kernel
theorem dX7_mark_172 : decode cX7_mark 172 = .ok (.bastore, 1) := by decide +kernel
theorem dX7_mark_173 : decode cX7_mark 173 = .ok (.aload_n 0, 1) := by decide +kernel
theorem dX7_mark_174 : decode cX7_mark 174 = .ok (.dup, 1) := by decide +kernel
theorem dX7_mark_175 : decode cX7_mark 175 = .ok (.getfield 86, 3) := by decide +kernel
theorem dX7_mark_178 : decode cX7_mark 178 = .ok (.iconst 1, 1) := by decide +kernel
theorem dX7_mark_179 : decode cX7_mark 179 = .ok (.iadd, 1) := by decide +kernel
theorem dX7_mark_180 : decode cX7_mark 180 = .ok (.putfield 86, 3) := by decide +kernel
theorem dX7_mark_183 : decode cX7_mark 183 = .ok (.aload_n 0, 1) := by decide +kernel
theorem dX7_mark_184 : decode cX7_mark 184 = .ok (.getfield 86, 3) := by decide +kernel
theorem dX7_mark_187 : decode cX7_mark 187 = .ok (.iconst 1, 1) := by decide +kernel
theorem dX7_mark_188 : decode cX7_mark 188 = .ok (.isub, 1) := by decide +kernel
theorem dX7_mark_189 : decode cX7_mark 189 = .ok (.ireturn, 1) := by decide +kernel
theorem dX7_isMark_0 : decode cX7_isMark 0 = .ok (.iload_n 1, 1) := by decide +kernel
theorem dX7_isMark_1 : decode cX7_isMark 1 = .ok (.i2l, 1) := by decide +kernel
theorem dX7_isMark_2 : decode cX7_isMark 2 = .ok (.lconst 0, 1) := by decide +kernel
theorem dX7_isMark_3 : decode cX7_isMark 3 = .ok (.aload_n 0, 1) := by decide +kernel
theorem dX7_isMark_4 : decode cX7_isMark 4 = .ok (.getfield 86, 3) := by decide +kernel
theorem dX7_isMark_7 : decode cX7_isMark 7 = .ok (.iconst 1, 1) := by decide +kernel
theorem dX7_isMark_8 : decode cX7_isMark 8 = .ok (.isub, 1) := by decide +kernel
theorem dX7_isMark_9 : decode cX7_isMark 9 = .ok (.i2l, 1) := by decide +kernel
theorem dX7_isMark_10 : decode cX7_isMark 10 = .ok (.invokestatic 77, 3) := by decide +kernel
theorem dX7_isMark_13 : decode cX7_isMark 13 = .ok (.ireturn, 1) := by decide +kernel
theorem dX7_read_0 : decode cX7_read 0 = .ok (.aload_n 0, 1) := by decide +kernel
theorem dX7_read_1 : decode cX7_read 1 = .ok (.iload_n 1, 1) := by decide +kernel
theorem dX7_read_2 : decode cX7_read 2 = .ok (.invokevirtual 90, 3) := by decide +kernel
theorem dX7_read_5 : decode cX7_read 5 = .ok (.ifCond .ne 6, 3) := by decide +kernel
theorem dX7_read_8 : decode cX7_read 8 = .ok (.ldc 94, 2) := by decide +kernel
theorem dX7_read_10 : decode cX7_read 10 = .ok (.ireturn, 1) := by decide +kernel
theorem dX7_read_11 : decode cX7_read 11 = .ok (.iload_n 2, 1) := by decide +kernel
theorem dX7_read_12 : decode cX7_read 12 = .ok (.i2l, 1) := by decide +kernel
theorem dX7_read_13 : decode cX7_read 13 = .ok (.ldc2_w 95, 3) := by decide +kernel
theorem dX7_read_16 : decode cX7_read 16 = .ok (.ldc2_w 97, 3) := by decide +kernel
theorem dX7_read_19 : decode cX7_read 19 = .ok (.invokestatic 77, 3) := by decide +kernel
theorem dX7_read_22 : decode cX7_read 22 = .ok (.ifCond .eq 17, 3) := by decide +kernel
theorem dX7_read_25 : decode cX7_read 25 = .ok (.iload_n 3, 1) := by decide +kernel
theorem dX7_read_26 : decode cX7_read 26 = .ok (.i2l, 1) := by decide +kernel
theorem dX7_read_27 : decode cX7_read 27 = .ok (.ldc2_w 95, 3) := by decide +kernel
theorem dX7_read_30 : decode cX7_read 30 = .ok (.ldc2_w 97, 3) := by decide +kernel
theorem dX7_read_33 : decode cX7_read 33 = .ok (.invokestatic 77, 3) := by decide +kernel
theorem dX7_read_36 : decode cX7_read 36 = .ok (.ifCond .ne 6, 3) := by decide +kernel
theorem dX7_read_39 : decode cX7_read 39 = .ok (.ldc 85, 2) := by decide +kernel
theorem dX7_read_41 : decode cX7_read 41 = .ok (.ireturn, 1) := by decide +kernel
theorem dX7_read_42 : decode cX7_read 42 = .ok (.aload_n 0, 1) := by decide +kernel
theorem dX7_read_43 : decode cX7_read 43 = .ok (.getfield 13, 3) := by decide +kernel
theorem dX7_read_46 : decode cX7_read 46 = .ok (.iconst 2, 1) := by decide +kernel
theorem dX7_read_47 : decode cX7_read 47 = .ok (.iload_n 1, 1) := by decide +kernel
theorem dX7_read_48 : decode cX7_read 48 = .ok (.imul, 1) := by decide +kernel
theorem dX7_read_49 : decode cX7_read 49 = .ok (.iload_n 2, 1) := by decide +kernel
theorem dX7_read_50 : decode cX7_read 50 = .ok (.iastore, 1) := by decide +kernel
theorem dX7_read_51 : decode cX7_read 51 = .ok (.aload_n 0, 1) := by decide +kernel
theorem dX7_read_52 : decode cX7_read 52 = .ok (.getfield 13, 3) := by decide +kernel
theorem dX7_read_55 : decode cX7_read 55 = .ok (.iconst 2, 1) := by decide +kernel
theorem dX7_read_56 : decode cX7_read 56 = .ok (.iload_n 1, 1) := by decide +kernel
theorem dX7_read_57 : decode cX7_read 57 = .ok (.imul, 1) := by decide +kernel
theorem dX7_read_58 : decode cX7_read 58 = .ok (.iconst 1, 1) := by decide +kernel
theorem dX7_read_59 : decode cX7_read 59 = .ok (.iadd, 1) := by decide +kernel
theorem dX7_read_60 : decode cX7_read 60 = .ok (.iload_n 3, 1) := by decide +kernel
theorem dX7_read_61 : decode cX7_read 61 = .ok (.iastore, 1) := by decide +kernel
theorem dX7_read_62 : decode cX7_read 62 = .ok (.aload_n 0, 1) := by decide +kernel
theorem dX7_read_63 : decode cX7_read 63 = .ok (.getfield 16, 3) := by decide +kernel
theorem dX7_read_66 : decode cX7_read 66 = .ok (.iload_n 1, 1) := by decide +kernel
theorem dX7_read_67 : decode cX7_read 67 = .ok (.iconst 0, 1) := by decide +kernel
theorem dX7_read_68 : decode cX7_read 68 = .ok (.bastore, 1) := by decide +kernel
theorem dX7_read_69 : decode cX7_read 69 = .ok (.aload_n 0, 1) := by decide +kernel
theorem dX7_read_70 : decode cX7_read 70 = .ok (.getfield 20, 3) := by decide +kernel
theorem dX7_read_73 : decode cX7_read 73 = .ok (.iload_n 1, 1) := by decide +kernel
theorem dX7_read_74 : decode cX7_read 74 = .ok (.iconst 0, 1) := by decide +kernel
theorem dX7_read_75 : decode cX7_read 75 = .ok (.bastore, 1) := by decide +kernel
theorem dX7_read_76 : decode cX7_read 76 = .ok (.iconst 1, 1) := by decide +kernel
theorem dX7_read_77 : decode cX7_read 77 = .ok (.ireturn, 1) := by decide +kernel
theorem dX7_lose_0 : decode cX7_lose 0 = .ok (.aload_n 0, 1) := by decide +kernel
theorem dX7_lose_1 : decode cX7_lose 1 = .ok (.iload_n 1, 1) := by decide +kernel
theorem dX7_lose_2 : decode cX7_lose 2 = .ok (.invokevirtual 90, 3) := by decide +kernel
theorem dX7_lose_5 : decode cX7_lose 5 = .ok (.ifCond .ne 6, 3) := by decide +kernel
theorem dX7_lose_8 : decode cX7_lose 8 = .ok (.ldc 94, 2) := by decide +kernel
theorem dX7_lose_10 : decode cX7_lose 10 = .ok (.ireturn, 1) := by decide +kernel
theorem dX7_lose_11 : decode cX7_lose 11 = .ok (.aload_n 0, 1) := by decide +kernel
theorem dX7_lose_12 : decode cX7_lose 12 = .ok (.getfield 16, 3) := by decide +kernel
theorem dX7_lose_15 : decode cX7_lose 15 = .ok (.iload_n 1, 1) := by decide +kernel
theorem dX7_lose_16 : decode cX7_lose 16 = .ok (.baload, 1) := by decide +kernel
theorem dX7_lose_17 : decode cX7_lose 17 = .ok (.ifCond .eq 7, 3) := by decide +kernel
theorem dX7_lose_20 : decode cX7_lose 20 = .ok (.iconst 0, 1) := by decide +kernel
theorem dX7_lose_21 : decode cX7_lose 21 = .ok (.goto 4, 3) := by decide +kernel
theorem dX7_lose_24 : decode cX7_lose 24 = .ok (.iconst 1, 1) := by decide +kernel
theorem dX7_lose_25 : decode cX7_lose 25 = .ok (.istore_n 2, 1) := by decide +kernel
theorem dX7_lose_26 : decode cX7_lose 26 = .ok (.aload_n 0, 1) := by decide +kernel
theorem dX7_lose_27 : decode cX7_lose 27 = .ok (.getfield 16, 3) := by decide +kernel
theorem dX7_lose_30 : decode cX7_lose 30 = .ok (.iload_n 1, 1) := by decide +kernel
theorem dX7_lose_31 : decode cX7_lose 31 = .ok (.iconst 1, 1) := by decide +kernel
theorem dX7_lose_32 : decode cX7_lose 32 = .ok (.bastore, 1) := by decide +kernel
theorem dX7_lose_33 : decode cX7_lose 33 = .ok (.aload_n 0, 1) := by decide +kernel
theorem dX7_lose_34 : decode cX7_lose 34 = .ok (.getfield 20, 3) := by decide +kernel
theorem dX7_lose_37 : decode cX7_lose 37 = .ok (.iload_n 1, 1) := by decide +kernel
theorem dX7_lose_38 : decode cX7_lose 38 = .ok (.iconst 0, 1) := by decide +kernel
theorem dX7_lose_39 : decode cX7_lose 39 = .ok (.bastore, 1) := by decide +kernel
theorem dX7_lose_40 : decode cX7_lose 40 = .ok (.aload_n 0, 1) := by decide +kernel
theorem dX7_lose_41 : decode cX7_lose 41 = .ok (.getfield 13, 3) := by decide +kernel
theorem dX7_lose_44 : decode cX7_lose 44 = .ok (.iconst 2, 1) := by decide +kernel
theorem dX7_lose_45 : decode cX7_lose 45 = .ok (.iload_n 1, 1) := by decide +kernel
theorem dX7_lose_46 : decode cX7_lose 46 = .ok (.imul, 1) := by decide +kernel
theorem dX7_lose_47 : decode cX7_lose 47 = .ok (.iconst 0, 1) := by decide +kernel
theorem dX7_lose_48 : decode cX7_lose 48 = .ok (.iastore, 1) := by decide +kernel
theorem dX7_lose_49 : decode cX7_lose 49 = .ok (.aload_n 0, 1) := by decide +kernel
theorem dX7_lose_50 : decode cX7_lose 50 = .ok (.getfield 13, 3) := by decide +kernel
theorem dX7_lose_53 : decode cX7_lose 53 = .ok (.iconst 2, 1) := by decide +kernel
theorem dX7_lose_54 : decode cX7_lose 54 = .ok (.iload_n 1, 1) := by decide +kernel
theorem dX7_lose_55 : decode cX7_lose 55 = .ok (.imul, 1) := by decide +kernel
theorem dX7_lose_56 : decode cX7_lose 56 = .ok (.iconst 1, 1) := by decide +kernel
theorem dX7_lose_57 : decode cX7_lose 57 = .ok (.iadd, 1) := by decide +kernel
theorem dX7_lose_58 : decode cX7_lose 58 = .ok (.iconst 0, 1) := by decide +kernel
theorem dX7_lose_59 : decode cX7_lose 59 = .ok (.iastore, 1) := by decide +kernel
theorem dX7_lose_60 : decode cX7_lose 60 = .ok (.iload_n 2, 1) := by decide +kernel
theorem dX7_lose_61 : decode cX7_lose 61 = .ok (.ireturn, 1) := by decide +kernel
theorem dX7_told_0 : decode cX7_told 0 = .ok (.aload_n 0, 1) := by decide +kernel
theorem dX7_told_1 : decode cX7_told 1 = .ok (.iload_n 1, 1) := by decide +kernel
theorem dX7_told_2 : decode cX7_told 2 = .ok (.invokevirtual 90, 3) := by decide +kernel
theorem dX7_told_5 : decode cX7_told 5 = .ok (.ifCond .ne 6, 3) := by decide +kernel
theorem dX7_told_8 : decode cX7_told 8 = .ok (.ldc 94, 2) := by decide +kernel
theorem dX7_told_10 : decode cX7_told 10 = .ok (.ireturn, 1) := by decide +kernel
theorem dX7_told_11 : decode cX7_told 11 = .ok (.iload_n 2, 1) := by decide +kernel
theorem dX7_told_12 : decode cX7_told 12 = .ok (.i2l, 1) := by decide +kernel
theorem dX7_told_13 : decode cX7_told 13 = .ok (.lconst 0, 1) := by decide +kernel
theorem dX7_told_14 : decode cX7_told 14 = .ok (.ldc2_w 99, 3) := by decide +kernel
theorem dX7_told_17 : decode cX7_told 17 = .ok (.invokestatic 77, 3) := by decide +kernel
theorem dX7_told_20 : decode cX7_told 20 = .ok (.ifCond .ne 6, 3) := by decide +kernel
theorem dX7_told_23 : decode cX7_told 23 = .ok (.ldc 85, 2) := by decide +kernel
theorem dX7_told_25 : decode cX7_told 25 = .ok (.ireturn, 1) := by decide +kernel
theorem dX7_told_26 : decode cX7_told 26 = .ok (.iload_n 2, 1) := by decide +kernel
theorem dX7_told_27 : decode cX7_told 27 = .ok (.iconst 4, 1) := by decide +kernel
theorem dX7_told_28 : decode cX7_told 28 = .ok (.if_icmp .ge 16, 3) := by decide +kernel
theorem dX7_told_31 : decode cX7_told 31 = .ok (.aload_n 0, 1) := by decide +kernel
theorem dX7_told_32 : decode cX7_told 32 = .ok (.getfield 7, 3) := by decide +kernel
theorem dX7_told_35 : decode cX7_told 35 = .ok (.iconst 4, 1) := by decide +kernel
theorem dX7_told_36 : decode cX7_told 36 = .ok (.iload_n 1, 1) := by decide +kernel
theorem dX7_told_37 : decode cX7_told 37 = .ok (.imul, 1) := by decide +kernel
theorem dX7_told_38 : decode cX7_told 38 = .ok (.iload_n 2, 1) := by decide +kernel
theorem dX7_told_39 : decode cX7_told 39 = .ok (.iadd, 1) := by decide +kernel
theorem dX7_told_40 : decode cX7_told 40 = .ok (.iaload, 1) := by decide +kernel
theorem dX7_told_41 : decode cX7_told 41 = .ok (.goto 56, 3) := by decide +kernel
theorem dX7_told_44 : decode cX7_told 44 = .ok (.iload_n 2, 1) := by decide +kernel
theorem dX7_told_45 : decode cX7_told 45 = .ok (.bipush 6, 2) := by decide +kernel
theorem dX7_told_47 : decode cX7_told 47 = .ok (.if_icmp .ge 18, 3) := by decide +kernel
theorem dX7_told_50 : decode cX7_told 50 = .ok (.aload_n 0, 1) := by decide +kernel
theorem dX7_told_51 : decode cX7_told 51 = .ok (.getfield 13, 3) := by decide +kernel
theorem dX7_told_54 : decode cX7_told 54 = .ok (.iconst 2, 1) := by decide +kernel
theorem dX7_told_55 : decode cX7_told 55 = .ok (.iload_n 1, 1) := by decide +kernel
theorem dX7_told_56 : decode cX7_told 56 = .ok (.imul, 1) := by decide +kernel
theorem dX7_told_57 : decode cX7_told 57 = .ok (.iload_n 2, 1) := by decide +kernel
theorem dX7_told_58 : decode cX7_told 58 = .ok (.iadd, 1) := by decide +kernel
theorem dX7_told_59 : decode cX7_told 59 = .ok (.iconst 4, 1) := by decide +kernel
theorem dX7_told_60 : decode cX7_told 60 = .ok (.isub, 1) := by decide +kernel
theorem dX7_told_61 : decode cX7_told 61 = .ok (.iaload, 1) := by decide +kernel
theorem dX7_told_62 : decode cX7_told 62 = .ok (.goto 35, 3) := by decide +kernel
theorem dX7_told_65 : decode cX7_told 65 = .ok (.iload_n 2, 1) := by decide +kernel
theorem dX7_told_66 : decode cX7_told 66 = .ok (.bipush 6, 2) := by decide +kernel
theorem dX7_told_68 : decode cX7_told 68 = .ok (.if_icmp .ne 15, 3) := by decide +kernel
theorem dX7_told_71 : decode cX7_told 71 = .ok (.aload_n 0, 1) := by decide +kernel
theorem dX7_told_72 : decode cX7_told 72 = .ok (.getfield 16, 3) := by decide +kernel
theorem dX7_told_75 : decode cX7_told 75 = .ok (.iload_n 1, 1) := by decide +kernel
theorem dX7_told_76 : decode cX7_told 76 = .ok (.baload, 1) := by decide +kernel
theorem dX7_told_77 : decode cX7_told 77 = .ok (.ifCond .eq 19, 3) := by decide +kernel
theorem dX7_told_80 : decode cX7_told 80 = .ok (.goto 12, 3) := by decide +kernel
theorem dX7_told_83 : decode cX7_told 83 = .ok (.aload_n 0, 1) := by decide +kernel
theorem dX7_told_84 : decode cX7_told 84 = .ok (.getfield 20, 3) := by decide +kernel
theorem dX7_told_87 : decode cX7_told 87 = .ok (.iload_n 1, 1) := by decide +kernel
theorem dX7_told_88 : decode cX7_told 88 = .ok (.baload, 1) := by decide +kernel
theorem dX7_told_89 : decode cX7_told 89 = .ok (.ifCond .eq 7, 3) := by decide +kernel
theorem dX7_told_92 : decode cX7_told 92 = .ok (.iconst 1, 1) := by decide +kernel
theorem dX7_told_93 : decode cX7_told 93 = .ok (.goto 4, 3) := by decide +kernel
theorem dX7_told_96 : decode cX7_told 96 = .ok (.iconst 0, 1) := by decide +kernel
theorem dX7_told_97 : decode cX7_told 97 = .ok (.ireturn, 1) := by decide +kernel
theorem dX7_counts_0 : decode cX7_counts 0 = .ok (.aload_n 0, 1) := by decide +kernel
theorem dX7_counts_1 : decode cX7_counts 1 = .ok (.getfield 16, 3) := by decide +kernel
theorem dX7_counts_4 : decode cX7_counts 4 = .ok (.iload_n 1, 1) := by decide +kernel
theorem dX7_counts_5 : decode cX7_counts 5 = .ok (.baload, 1) := by decide +kernel
theorem dX7_counts_6 : decode cX7_counts 6 = .ok (.ifCond .ne 16, 3) := by decide +kernel
theorem dX7_counts_9 : decode cX7_counts 9 = .ok (.aload_n 0, 1) := by decide +kernel
