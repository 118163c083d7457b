theorem dX7_counts_10 : decode cX7_counts 10 = .ok (.getfield 20, 3) := by decide +kernel
theorem dX7_counts_13 : decode cX7_counts 13 = .ok (.iload_n 1, 1) := by decide +kernel
theorem dX7_counts_14 : decode cX7_counts 14 = .ok (.baload, 1) := by decide +kernel
theorem dX7_counts_15 : decode cX7_counts 15 = .ok (.ifCond .ne 7, 3) := by decide +kernel
theorem dX7_counts_18 : decode cX7_counts 18 = .ok (.iconst 1, 1) := by decide +kernel
theorem dX7_counts_19 : decode cX7_counts 19 = .ok (.goto 4, 3) := by decide +kernel
theorem dX7_counts_22 : decode cX7_counts 22 = .ok (.iconst 0, 1) := by decide +kernel
theorem dX7_counts_23 : decode cX7_counts 23 = .ok (.ireturn, 1) := by decide +kernel
theorem dX7_counting_0 : decode cX7_counting 0 = .ok (.iconst 0, 1) := by decide +kernel
theorem dX7_counting_1 : decode cX7_counting 1 = .ok (.istore_n 1, 1) := by decide +kernel
theorem dX7_counting_2 : decode cX7_counting 2 = .ok (.iconst 0, 1) := by decide +kernel
theorem dX7_counting_3 : decode cX7_counting 3 = .ok (.istore_n 2, 1) := by decide +kernel
theorem dX7_counting_4 : decode cX7_counting 4 = .ok (.iload_n 2, 1) := by decide +kernel
theorem dX7_counting_5 : decode cX7_counting 5 = .ok (.aload_n 0, 1) := by decide +kernel
theorem dX7_counting_6 : decode cX7_counting 6 = .ok (.getfield 86, 3) := by decide +kernel
theorem dX7_counting_9 : decode cX7_counting 9 = .ok (.if_icmp .ge 27, 3) := by decide +kernel
theorem dX7_counting_12 : decode cX7_counting 12 = .ok (.iload_n 1, 1) := by decide +kernel
theorem dX7_counting_13 : decode cX7_counting 13 = .ok (.aload_n 0, 1) := by decide +kernel
theorem dX7_counting_14 : decode cX7_counting 14 = .ok (.iload_n 2, 1) := by decide +kernel
theorem dX7_counting_15 : decode cX7_counting 15 = .ok (.invokevirtual 101, 3) := by decide +kernel
theorem dX7_counting_18 : decode cX7_counting 18 = .ok (.ifCond .eq 9, 3) := by decide +kernel
theorem dX7_counting_21 : decode cX7_counting 21 = .ok (.iconst 1, 1) := by decide +kernel
theorem dX7_counting_22 : decode cX7_counting 22 = .ok (.iload_n 2, 1) := by decide +kernel
theorem dX7_counting_23 : decode cX7_counting 23 = .ok (.ishl, 1) := by decide +kernel
theorem dX7_counting_24 : decode cX7_counting 24 = .ok (.goto 4, 3) := by decide +kernel
theorem dX7_counting_27 : decode cX7_counting 27 = .ok (.iconst 0, 1) := by decide +kernel
theorem dX7_counting_28 : decode cX7_counting 28 = .ok (.ior, 1) := by decide +kernel
theorem dX7_counting_29 : decode cX7_counting 29 = .ok (.istore_n 1, 1) := by decide +kernel
theorem dX7_counting_30 : decode cX7_counting 30 = .ok (.iinc 2 1, 3) := by decide +kernel
theorem dX7_counting_33 : decode cX7_counting 33 = .ok (.goto (-29), 3) := by decide +kernel
theorem dX7_counting_36 : decode cX7_counting 36 = .ok (.iload_n 1, 1) := by decide +kernel
theorem dX7_counting_37 : decode cX7_counting 37 = .ok (.ireturn, 1) := by decide +kernel
theorem dX7_bits_0 : decode cX7_bits 0 = .ok (.iconst 0, 1) := by decide +kernel
theorem dX7_bits_1 : decode cX7_bits 1 = .ok (.istore_n 1, 1) := by decide +kernel
theorem dX7_bits_2 : decode cX7_bits 2 = .ok (.iconst 0, 1) := by decide +kernel
theorem dX7_bits_3 : decode cX7_bits 3 = .ok (.istore_n 2, 1) := by decide +kernel
theorem dX7_bits_4 : decode cX7_bits 4 = .ok (.iload_n 2, 1) := by decide +kernel
theorem dX7_bits_5 : decode cX7_bits 5 = .ok (.bipush 12, 2) := by decide +kernel
theorem dX7_bits_7 : decode cX7_bits 7 = .ok (.if_icmp .ge 17, 3) := by decide +kernel
theorem dX7_bits_10 : decode cX7_bits 10 = .ok (.iload_n 1, 1) := by decide +kernel
theorem dX7_bits_11 : decode cX7_bits 11 = .ok (.iload_n 0, 1) := by decide +kernel
theorem dX7_bits_12 : decode cX7_bits 12 = .ok (.iload_n 2, 1) := by decide +kernel
theorem dX7_bits_13 : decode cX7_bits 13 = .ok (.ishr, 1) := by decide +kernel
theorem dX7_bits_14 : decode cX7_bits 14 = .ok (.iconst 1, 1) := by decide +kernel
theorem dX7_bits_15 : decode cX7_bits 15 = .ok (.iand, 1) := by decide +kernel
theorem dX7_bits_16 : decode cX7_bits 16 = .ok (.iadd, 1) := by decide +kernel
theorem dX7_bits_17 : decode cX7_bits 17 = .ok (.istore_n 1, 1) := by decide +kernel
theorem dX7_bits_18 : decode cX7_bits 18 = .ok (.iinc 2 1, 3) := by decide +kernel
theorem dX7_bits_21 : decode cX7_bits 21 = .ok (.goto (-17), 3) := by decide +kernel
theorem dX7_bits_24 : decode cX7_bits 24 = .ok (.iload_n 1, 1) := by decide +kernel
theorem dX7_bits_25 : decode cX7_bits 25 = .ok (.ireturn, 1) := by decide +kernel
theorem dX7_fieldsOf_0 : decode cX7_fieldsOf 0 = .ok (.iconst 0, 1) := by decide +kernel
theorem dX7_fieldsOf_1 : decode cX7_fieldsOf 1 = .ok (.istore_n 2, 1) := by decide +kernel
theorem dX7_fieldsOf_2 : decode cX7_fieldsOf 2 = .ok (.iconst 0, 1) := by decide +kernel
theorem dX7_fieldsOf_3 : decode cX7_fieldsOf 3 = .ok (.istore_n 3, 1) := by decide +kernel
theorem dX7_fieldsOf_4 : decode cX7_fieldsOf 4 = .ok (.iload_n 3, 1) := by decide +kernel
theorem dX7_fieldsOf_5 : decode cX7_fieldsOf 5 = .ok (.aload_n 0, 1) := by decide +kernel
theorem dX7_fieldsOf_6 : decode cX7_fieldsOf 6 = .ok (.getfield 86, 3) := by decide +kernel
theorem dX7_fieldsOf_9 : decode cX7_fieldsOf 9 = .ok (.if_icmp .ge 119, 3) := by decide +kernel
theorem dX7_fieldsOf_12 : decode cX7_fieldsOf 12 = .ok (.iload_n 1, 1) := by decide +kernel
theorem dX7_fieldsOf_13 : decode cX7_fieldsOf 13 = .ok (.iload_n 3, 1) := by decide +kernel
theorem dX7_fieldsOf_14 : decode cX7_fieldsOf 14 = .ok (.ishr, 1) := by decide +kernel
theorem dX7_fieldsOf_15 : decode cX7_fieldsOf 15 = .ok (.iconst 1, 1) := by decide +kernel
theorem dX7_fieldsOf_16 : decode cX7_fieldsOf 16 = .ok (.iand, 1) := by decide +kernel
theorem dX7_fieldsOf_17 : decode cX7_fieldsOf 17 = .ok (.iconst 1, 1) := by decide +kernel
theorem dX7_fieldsOf_18 : decode cX7_fieldsOf 18 = .ok (.if_icmp .ne 7, 3) := by decide +kernel
theorem dX7_fieldsOf_21 : decode cX7_fieldsOf 21 = .ok (.iconst 1, 1) := by decide +kernel
theorem dX7_fieldsOf_22 : decode cX7_fieldsOf 22 = .ok (.goto 4, 3) := by decide +kernel
theorem dX7_fieldsOf_25 : decode cX7_fieldsOf 25 = .ok (.iconst 0, 1) := by decide +kernel
theorem dX7_fieldsOf_26 : decode cX7_fieldsOf 26 = .ok (.istore 4, 2) := by decide +kernel
theorem dX7_fieldsOf_28 : decode cX7_fieldsOf 28 = .ok (.iconst 0, 1) := by decide +kernel
theorem dX7_fieldsOf_29 : decode cX7_fieldsOf 29 = .ok (.istore 5, 2) := by decide +kernel
theorem dX7_fieldsOf_31 : decode cX7_fieldsOf 31 = .ok (.iload 5, 2) := by decide +kernel
theorem dX7_fieldsOf_33 : decode cX7_fieldsOf 33 = .ok (.iload_n 3, 1) := by decide +kernel
theorem dX7_fieldsOf_34 : decode cX7_fieldsOf 34 = .ok (.if_icmp .ge 75, 3) := by decide +kernel
theorem dX7_fieldsOf_37 : decode cX7_fieldsOf 37 = .ok (.iload 4, 2) := by decide +kernel
theorem dX7_fieldsOf_39 : decode cX7_fieldsOf 39 = .ok (.ifCond .eq 61, 3) := by decide +kernel
theorem dX7_fieldsOf_42 : decode cX7_fieldsOf 42 = .ok (.iload_n 1, 1) := by decide +kernel
theorem dX7_fieldsOf_43 : decode cX7_fieldsOf 43 = .ok (.iload 5, 2) := by decide +kernel
theorem dX7_fieldsOf_45 : decode cX7_fieldsOf 45 = .ok (.ishr, 1) := by decide +kernel
theorem dX7_fieldsOf_46 : decode cX7_fieldsOf 46 = .ok (.iconst 1, 1) := by decide +kernel
theorem dX7_fieldsOf_47 : decode cX7_fieldsOf 47 = .ok (.iand, 1) := by decide +kernel
theorem dX7_fieldsOf_48 : decode cX7_fieldsOf 48 = .ok (.iconst 1, 1) := by decide +kernel
theorem dX7_fieldsOf_49 : decode cX7_fieldsOf 49 = .ok (.if_icmp .ne 47, 3) := by decide +kernel
theorem dX7_fieldsOf_52 : decode cX7_fieldsOf 52 = .ok (.aload_n 0, 1) := by decide +kernel
theorem dX7_fieldsOf_53 : decode cX7_fieldsOf 53 = .ok (.getfield 7, 3) := by decide +kernel
theorem dX7_fieldsOf_56 : decode cX7_fieldsOf 56 = .ok (.iconst 4, 1) := by decide +kernel
theorem dX7_fieldsOf_57 : decode cX7_fieldsOf 57 = .ok (.iload 5, 2) := by decide +kernel
theorem dX7_fieldsOf_59 : decode cX7_fieldsOf 59 = .ok (.imul, 1) := by decide +kernel
theorem dX7_fieldsOf_60 : decode cX7_fieldsOf 60 = .ok (.iaload, 1) := by decide +kernel
theorem dX7_fieldsOf_61 : decode cX7_fieldsOf 61 = .ok (.aload_n 0, 1) := by decide +kernel
theorem dX7_fieldsOf_62 : decode cX7_fieldsOf 62 = .ok (.getfield 7, 3) := by decide +kernel
theorem dX7_fieldsOf_65 : decode cX7_fieldsOf 65 = .ok (.iconst 4, 1) := by decide +kernel
theorem dX7_fieldsOf_66 : decode cX7_fieldsOf 66 = .ok (.iload_n 3, 1) := by decide +kernel
theorem dX7_fieldsOf_67 : decode cX7_fieldsOf 67 = .ok (.imul, 1) := by decide +kernel
theorem dX7_fieldsOf_68 : decode cX7_fieldsOf 68 = .ok (.iaload, 1) := by decide +kernel
theorem dX7_fieldsOf_69 : decode cX7_fieldsOf 69 = .ok (.if_icmp .ne 27, 3) := by decide +kernel
theorem dX7_fieldsOf_72 : decode cX7_fieldsOf 72 = .ok (.aload_n 0, 1) := by decide +kernel
theorem dX7_fieldsOf_73 : decode cX7_fieldsOf 73 = .ok (.getfield 7, 3) := by decide +kernel
theorem dX7_fieldsOf_76 : decode cX7_fieldsOf 76 = .ok (.iconst 4, 1) := by decide +kernel
theorem dX7_fieldsOf_77 : decode cX7_fieldsOf 77 = .ok (.iload 5, 2) := by decide +kernel
theorem dX7_fieldsOf_79 : decode cX7_fieldsOf 79 = .ok (.imul, 1) := by decide +kernel
theorem dX7_fieldsOf_80 : decode cX7_fieldsOf 80 = .ok (.iconst 1, 1) := by decide +kernel
theorem dX7_fieldsOf_81 : decode cX7_fieldsOf 81 = .ok (.iadd, 1) := by decide +kernel
theorem dX7_fieldsOf_82 : decode cX7_fieldsOf 82 = .ok (.iaload, 1) := by decide +kernel
theorem dX7_fieldsOf_83 : decode cX7_fieldsOf 83 = .ok (.aload_n 0, 1) := by decide +kernel
theorem dX7_fieldsOf_84 : decode cX7_fieldsOf 84 = .ok (.getfield 7, 3) := by decide +kernel
theorem dX7_fieldsOf_87 : decode cX7_fieldsOf 87 = .ok (.iconst 4, 1) := by decide +kernel
theorem dX7_fieldsOf_88 : decode cX7_fieldsOf 88 = .ok (.iload_n 3, 1) := by decide +kernel
theorem dX7_fieldsOf_89 : decode cX7_fieldsOf 89 = .ok (.imul, 1) := by decide +kernel
theorem dX7_fieldsOf_90 : decode cX7_fieldsOf 90 = .ok (.iconst 1, 1) := by decide +kernel
theorem dX7_fieldsOf_91 : decode cX7_fieldsOf 91 = .ok (.iadd, 1) := by decide +kernel
theorem dX7_fieldsOf_92 : decode cX7_fieldsOf 92 = .ok (.iaload, 1) := by decide +kernel
theorem dX7_fieldsOf_93 : decode cX7_fieldsOf 93 = .ok (.if_icmp .eq 7, 3) := by decide +kernel
theorem dX7_fieldsOf_96 : decode cX7_fieldsOf 96 = .ok (.iconst 1, 1) := by decide +kernel
theorem dX7_fieldsOf_97 : decode cX7_fieldsOf 97 = .ok (.goto 4, 3) := by decide +kernel
theorem dX7_fieldsOf_100 : decode cX7_fieldsOf 100 = .ok (.iconst 0, 1) := by decide +kernel
theorem dX7_fieldsOf_101 : decode cX7_fieldsOf 101 = .ok (.istore 4, 2) := by decide +kernel
theorem dX7_fieldsOf_103 : decode cX7_fieldsOf 103 = .ok (.iinc 5 1, 3) := by decide +kernel
theorem dX7_fieldsOf_106 : decode cX7_fieldsOf 106 = .ok (.goto (-75), 3) := by decide +kernel
theorem dX7_fieldsOf_109 : decode cX7_fieldsOf 109 = .ok (.iload_n 2, 1) := by decide +kernel
theorem dX7_fieldsOf_110 : decode cX7_fieldsOf 110 = .ok (.iload 4, 2) := by decide +kernel
theorem dX7_fieldsOf_112 : decode cX7_fieldsOf 112 = .ok (.ifCond .eq 7, 3) := by decide +kernel
theorem dX7_fieldsOf_115 : decode cX7_fieldsOf 115 = .ok (.iconst 1, 1) := by decide +kernel
theorem dX7_fieldsOf_116 : decode cX7_fieldsOf 116 = .ok (.goto 4, 3) := by decide +kernel
theorem dX7_fieldsOf_119 : decode cX7_fieldsOf 119 = .ok (.iconst 0, 1) := by decide +kernel
theorem dX7_fieldsOf_120 : decode cX7_fieldsOf 120 = .ok (.iadd, 1) := by decide +kernel
theorem dX7_fieldsOf_121 : decode cX7_fieldsOf 121 = .ok (.istore_n 2, 1) := by decide +kernel
theorem dX7_fieldsOf_122 : decode cX7_fieldsOf 122 = .ok (.iinc 3 1, 3) := by decide +kernel
theorem dX7_fieldsOf_125 : decode cX7_fieldsOf 125 = .ok (.goto (-121), 3) := by decide +kernel
theorem dX7_fieldsOf_128 : decode cX7_fieldsOf 128 = .ok (.iload_n 2, 1) := by decide +kernel
theorem dX7_fieldsOf_129 : decode cX7_fieldsOf 129 = .ok (.ireturn, 1) := by decide +kernel
theorem dX7_count_0 : decode cX7_count 0 = .ok (.iconst 0, 1) := by decide +kernel
theorem dX7_count_1 : decode cX7_count 1 = .ok (.istore_n 2, 1) := by decide +kernel
theorem dX7_count_2 : decode cX7_count 2 = .ok (.iconst 0, 1) := by decide +kernel
theorem dX7_count_3 : decode cX7_count 3 = .ok (.istore_n 3, 1) := by decide +kernel
theorem dX7_count_4 : decode cX7_count 4 = .ok (.iconst 0, 1) := by decide +kernel
theorem dX7_count_5 : decode cX7_count 5 = .ok (.istore 4, 2) := by decide +kernel
theorem dX7_count_7 : decode cX7_count 7 = .ok (.iconst 0, 1) := by decide +kernel
theorem dX7_count_8 : decode cX7_count 8 = .ok (.istore 5, 2) := by decide +kernel
theorem dX7_count_10 : decode cX7_count 10 = .ok (.iload 5, 2) := by decide +kernel
theorem dX7_count_12 : decode cX7_count 12 = .ok (.aload_n 0, 1) := by decide +kernel
theorem dX7_count_13 : decode cX7_count 13 = .ok (.getfield 86, 3) := by decide +kernel
theorem dX7_count_16 : decode cX7_count 16 = .ok (.if_icmp .ge 45, 3) := by decide +kernel
theorem dX7_count_19 : decode cX7_count 19 = .ok (.iload_n 2, 1) := by decide +kernel
theorem dX7_count_20 : decode cX7_count 20 = .ok (.aload_n 0, 1) := by decide +kernel
theorem dX7_count_21 : decode cX7_count 21 = .ok (.getfield 16, 3) := by decide +kernel
theorem dX7_count_24 : decode cX7_count 24 = .ok (.iload 5, 2) := by decide +kernel
theorem dX7_count_26 : decode cX7_count 26 = .ok (.baload, 1) := by decide +kernel
theorem dX7_count_27 : decode cX7_count 27 = .ok (.ifCond .eq 7, 3) := by decide +kernel
theorem dX7_count_30 : decode cX7_count 30 = .ok (.iconst 1, 1) := by decide +kernel
theorem dX7_count_31 : decode cX7_count 31 = .ok (.goto 4, 3) := by decide +kernel
theorem dX7_count_34 : decode cX7_count 34 = .ok (.iconst 0, 1) := by decide +kernel
theorem dX7_count_35 : decode cX7_count 35 = .ok (.iadd, 1) := by decide +kernel
theorem dX7_count_36 : decode cX7_count 36 = .ok (.istore_n 2, 1) := by decide +kernel
theorem dX7_count_37 : decode cX7_count 37 = .ok (.iload_n 3, 1) := by decide +kernel
theorem dX7_count_38 : decode cX7_count 38 = .ok (.aload_n 0, 1) := by decide +kernel
theorem dX7_count_39 : decode cX7_count 39 = .ok (.getfield 20, 3) := by decide +kernel
theorem dX7_count_42 : decode cX7_count 42 = .ok (.iload 5, 2) := by decide +kernel
theorem dX7_count_44 : decode cX7_count 44 = .ok (.baload, 1) := by decide +kernel
theorem dX7_count_45 : decode cX7_count 45 = .ok (.ifCond .eq 7, 3) := by decide +kernel
theorem dX7_count_48 : decode cX7_count 48 = .ok (.iconst 1, 1) := by decide +kernel
theorem dX7_count_49 : decode cX7_count 49 = .ok (.goto 4, 3) := by decide +kernel
theorem dX7_count_52 : decode cX7_count 52 = .ok (.iconst 0, 1) := by decide +kernel
theorem dX7_count_53 : decode cX7_count 53 = .ok (.iadd, 1) := by decide +kernel
theorem dX7_count_54 : decode cX7_count 54 = .ok (.istore_n 3, 1) := by decide +kernel
theorem dX7_count_55 : decode cX7_count 55 = .ok (.iinc 5 1, 3) := by decide +kernel
theorem dX7_count_58 : decode cX7_count 58 = .ok (.goto (-48), 3) := by decide +kernel
theorem dX7_count_61 : decode cX7_count 61 = .ok (.iconst 0, 1) := by decide +kernel
theorem dX7_count_62 : decode cX7_count 62 = .ok (.istore 5, 2) := by decide +kernel
theorem dX7_count_64 : decode cX7_count 64 = .ok (.iload 5, 2) := by decide +kernel
theorem dX7_count_66 : decode cX7_count 66 = .ok (.aload_n 0, 1) := by decide +kernel
theorem dX7_count_67 : decode cX7_count 67 = .ok (.getfield 104, 3) := by decide +kernel
theorem dX7_count_70 : decode cX7_count 70 = .ok (.if_icmp .ge 29, 3) := by decide +kernel
theorem dX7_count_73 : decode cX7_count 73 = .ok (.iload 4, 2) := by decide +kernel
theorem dX7_count_75 : decode cX7_count 75 = .ok (.aload_n 0, 1) := by decide +kernel
theorem dX7_count_76 : decode cX7_count 76 = .ok (.getfield 32, 3) := by decide +kernel
theorem dX7_count_79 : decode cX7_count 79 = .ok (.iload 5, 2) := by decide +kernel
theorem dX7_count_81 : decode cX7_count 81 = .ok (.baload, 1) := by decide +kernel
theorem dX7_count_82 : decode cX7_count 82 = .ok (.ifCond .eq 7, 3) := by decide +kernel
theorem dX7_count_85 : decode cX7_count 85 = .ok (.iconst 1, 1) := by decide +kernel
theorem dX7_count_86 : decode cX7_count 86 = .ok (.goto 4, 3) := by decide +kernel
theorem dX7_count_89 : decode cX7_count 89 = .ok (.iconst 0, 1) := by decide +kernel
theorem dX7_count_90 : decode cX7_count 90 = .ok (.iadd, 1) := by decide +kernel
theorem dX7_count_91 : decode cX7_count 91 = .ok (.istore 4, 2) := by decide +kernel
theorem dX7_count_93 : decode cX7_count 93 = .ok (.iinc 5 1, 3) := by decide +kernel
theorem dX7_count_96 : decode cX7_count 96 = .ok (.goto (-32), 3) := by decide +kernel
theorem dX7_count_99 : decode cX7_count 99 = .ok (.iload_n 1, 1) := by decide +kernel
theorem dX7_count_100 : decode cX7_count 100 = .ok (.tableswitch 78 0 6 #[44, 49, 51, 53, 61, 66, 69], 44) := by decide +kernel
theorem dX7_count_144 : decode cX7_count 144 = .ok (.aload_n 0, 1) := by decide +kernel
theorem dX7_count_145 : decode cX7_count 145 = .ok (.getfield 86, 3) := by decide +kernel
theorem dX7_count_148 : decode cX7_count 148 = .ok (.ireturn, 1) := by decide +kernel
theorem dX7_count_149 : decode cX7_count 149 = .ok (.iload_n 2, 1) := by decide +kernel
theorem dX7_count_150 : decode cX7_count 150 = .ok (.ireturn, 1) := by decide +kernel
theorem dX7_count_151 : decode cX7_count 151 = .ok (.iload_n 3, 1) := by decide +kernel
theorem dX7_count_152 : decode cX7_count 152 = .ok (.ireturn, 1) := by decide +kernel
theorem dX7_count_153 : decode cX7_count 153 = .ok (.aload_n 0, 1) := by decide +kernel
theorem dX7_count_154 : decode cX7_count 154 = .ok (.invokevirtual 107, 3) := by decide +kernel
theorem dX7_count_157 : decode cX7_count 157 = .ok (.invokestatic 111, 3) := by decide +kernel
theorem dX7_count_160 : decode cX7_count 160 = .ok (.ireturn, 1) := by decide +kernel
theorem dX7_count_161 : decode cX7_count 161 = .ok (.aload_n 0, 1) := by decide +kernel
theorem dX7_count_162 : decode cX7_count 162 = .ok (.getfield 104, 3) := by decide +kernel
theorem dX7_count_165 : decode cX7_count 165 = .ok (.ireturn, 1) := by decide +kernel
theorem dX7_count_166 : decode cX7_count 166 = .ok (.iload 4, 2) := by decide +kernel
theorem dX7_count_168 : decode cX7_count 168 = .ok (.ireturn, 1) := by decide +kernel
theorem dX7_count_169 : decode cX7_count 169 = .ok (.aload_n 0, 1) := by decide +kernel
theorem dX7_count_170 : decode cX7_count 170 = .ok (.aload_n 0, 1) := by decide +kernel
theorem dX7_count_171 : decode cX7_count 171 = .ok (.invokevirtual 107, 3) := by decide +kernel
theorem dX7_count_174 : decode cX7_count 174 = .ok (.invokevirtual 115, 3) := by decide +kernel
theorem dX7_count_177 : decode cX7_count 177 = .ok (.ireturn, 1) := by decide +kernel
theorem dX7_count_178 : decode cX7_count 178 = .ok (.ldc 85, 2) := by decide +kernel
theorem dX7_count_180 : decode cX7_count 180 = .ok (.ireturn, 1) := by decide +kernel
theorem dX7_isModel_0 : decode cX7_isModel 0 = .ok (.iload_n 0, 1) := by decide +kernel
theorem dX7_isModel_1 : decode cX7_isModel 1 = .ok (.i2l, 1) := by decide +kernel
theorem dX7_isModel_2 : decode cX7_isModel 2 = .ok (.lconst 0, 1) := by decide +kernel
theorem dX7_isModel_3 : decode cX7_isModel 3 = .ok (.ldc2_w 118, 3) := by decide +kernel
theorem dX7_isModel_6 : decode cX7_isModel 6 = .ok (.invokestatic 77, 3) := by decide +kernel
theorem dX7_isModel_9 : decode cX7_isModel 9 = .ok (.ireturn, 1) := by decide +kernel
theorem dX7_termsOf_0 : decode cX7_termsOf 0 = .ok (.iload_n 0, 1) := by decide +kernel
theorem dX7_termsOf_1 : decode cX7_termsOf 1 = .ok (.ifCond .ne 7, 3) := by decide +kernel
theorem dX7_termsOf_4 : decode cX7_termsOf 4 = .ok (.iconst 1, 1) := by decide +kernel
theorem dX7_termsOf_5 : decode cX7_termsOf 5 = .ok (.goto 4, 3) := by decide +kernel
theorem dX7_termsOf_8 : decode cX7_termsOf 8 = .ok (.iconst 3, 1) := by decide +kernel
theorem dX7_termsOf_9 : decode cX7_termsOf 9 = .ok (.ireturn, 1) := by decide +kernel
theorem dX7_term_0 : decode cX7_term 0 = .ok (.iload_n 3, 1) := by decide +kernel
theorem dX7_term_1 : decode cX7_term 1 = .ok (.ifCond .ne 7, 3) := by decide +kernel
theorem dX7_term_4 : decode cX7_term 4 = .ok (.lconst 1, 1) := by decide +kernel
theorem dX7_term_5 : decode cX7_term 5 = .ok (.goto 27, 3) := by decide +kernel
theorem dX7_term_8 : decode cX7_term 8 = .ok (.aload_n 0, 1) := by decide +kernel
theorem dX7_term_9 : decode cX7_term 9 = .ok (.getfield 7, 3) := by decide +kernel
theorem dX7_term_12 : decode cX7_term 12 = .ok (.iconst 4, 1) := by decide +kernel
theorem dX7_term_13 : decode cX7_term 13 = .ok (.iload_n 2, 1) := by decide +kernel
theorem dX7_term_14 : decode cX7_term 14 = .ok (.imul, 1) := by decide +kernel
theorem dX7_term_15 : decode cX7_term 15 = .ok (.iload_n 1, 1) := by decide +kernel
theorem dX7_term_16 : decode cX7_term 16 = .ok (.iconst 1, 1) := by decide +kernel
theorem dX7_term_17 : decode cX7_term 17 = .ok (.if_icmp .ne 7, 3) := by decide +kernel
theorem dX7_term_20 : decode cX7_term 20 = .ok (.iconst 0, 1) := by decide +kernel
theorem dX7_term_21 : decode cX7_term 21 = .ok (.goto 4, 3) := by decide +kernel
theorem dX7_term_24 : decode cX7_term 24 = .ok (.iconst 2, 1) := by decide +kernel
theorem dX7_term_25 : decode cX7_term 25 = .ok (.iadd, 1) := by decide +kernel
theorem dX7_term_26 : decode cX7_term 26 = .ok (.iload_n 3, 1) := by decide +kernel
theorem dX7_term_27 : decode cX7_term 27 = .ok (.iadd, 1) := by decide +kernel
theorem dX7_term_28 : decode cX7_term 28 = .ok (.iconst 1, 1) := by decide +kernel
theorem dX7_term_29 : decode cX7_term 29 = .ok (.isub, 1) := by decide +kernel
theorem dX7_term_30 : decode cX7_term 30 = .ok (.iaload, 1) := by decide +kernel
theorem dX7_term_31 : decode cX7_term 31 = .ok (.i2l, 1) := by decide +kernel
theorem dX7_term_32 : decode cX7_term 32 = .ok (.lreturn, 1) := by decide +kernel
theorem dX7_minor_0 : decode cX7_minor 0 = .ok (.iload_n 1, 1) := by decide +kernel
theorem dX7_minor_1 : decode cX7_minor 1 = .ok (.iconst 1, 1) := by decide +kernel
theorem dX7_minor_2 : decode cX7_minor 2 = .ok (.iadd, 1) := by decide +kernel
theorem dX7_minor_3 : decode cX7_minor 3 = .ok (.iconst 3, 1) := by decide +kernel
theorem dX7_minor_4 : decode cX7_minor 4 = .ok (.irem, 1) := by decide +kernel
theorem dX7_minor_5 : decode cX7_minor 5 = .ok (.istore_n 3, 1) := by decide +kernel
theorem dX7_minor_6 : decode cX7_minor 6 = .ok (.iload_n 1, 1) := by decide +kernel
theorem dX7_minor_7 : decode cX7_minor 7 = .ok (.iconst 2, 1) := by decide +kernel
theorem dX7_minor_8 : decode cX7_minor 8 = .ok (.iadd, 1) := by decide +kernel
theorem dX7_minor_9 : decode cX7_minor 9 = .ok (.iconst 3, 1) := by decide +kernel
theorem dX7_minor_10 : decode cX7_minor 10 = .ok (.irem, 1) := by decide +kernel
theorem dX7_minor_11 : decode cX7_minor 11 = .ok (.istore 4, 2) := by decide +kernel
theorem dX7_minor_13 : decode cX7_minor 13 = .ok (.iload_n 2, 1) := by decide +kernel
theorem dX7_minor_14 : decode cX7_minor 14 = .ok (.iconst 1, 1) := by decide +kernel
theorem dX7_minor_15 : decode cX7_minor 15 = .ok (.iadd, 1) := by decide +kernel
theorem dX7_minor_16 : decode cX7_minor 16 = .ok (.iconst 3, 1) := by decide +kernel
theorem dX7_minor_17 : decode cX7_minor 17 = .ok (.irem, 1) := by decide +kernel
theorem dX7_minor_18 : decode cX7_minor 18 = .ok (.istore 5, 2) := by decide +kernel
theorem dX7_minor_20 : decode cX7_minor 20 = .ok (.iload_n 2, 1) := by decide +kernel
theorem dX7_minor_21 : decode cX7_minor 21 = .ok (.iconst 2, 1) := by decide +kernel
theorem dX7_minor_22 : decode cX7_minor 22 = .ok (.iadd, 1) := by decide +kernel
theorem dX7_minor_23 : decode cX7_minor 23 = .ok (.iconst 3, 1) := by decide +kernel
theorem dX7_minor_24 : decode cX7_minor 24 = .ok (.irem, 1) := by decide +kernel
theorem dX7_minor_25 : decode cX7_minor 25 = .ok (.istore 6, 2) := by decide +kernel
theorem dX7_minor_27 : decode cX7_minor 27 = .ok (.aload_n 0, 1) := by decide +kernel
theorem dX7_minor_28 : decode cX7_minor 28 = .ok (.getfield 51, 3) := by decide +kernel
theorem dX7_minor_31 : decode cX7_minor 31 = .ok (.iconst 3, 1) := by decide +kernel
theorem dX7_minor_32 : decode cX7_minor 32 = .ok (.iload_n 3, 1) := by decide +kernel
theorem dX7_minor_33 : decode cX7_minor 33 = .ok (.imul, 1) := by decide +kernel
theorem dX7_minor_34 : decode cX7_minor 34 = .ok (.iload 5, 2) := by decide +kernel
theorem dX7_minor_36 : decode cX7_minor 36 = .ok (.iadd, 1) := by decide +kernel
theorem dX7_minor_37 : decode cX7_minor 37 = .ok (.laload, 1) := by decide +kernel
theorem dX7_minor_38 : decode cX7_minor 38 = .ok (.aload_n 0, 1) := by decide +kernel
theorem dX7_minor_39 : decode cX7_minor 39 = .ok (.getfield 51, 3) := by decide +kernel
theorem dX7_minor_42 : decode cX7_minor 42 = .ok (.iconst 3, 1) := by decide +kernel
theorem dX7_minor_43 : decode cX7_minor 43 = .ok (.iload 4, 2) := by decide +kernel
theorem dX7_minor_45 : decode cX7_minor 45 = .ok (.imul, 1) := by decide +kernel
theorem dX7_minor_46 : decode cX7_minor 46 = .ok (.iload 6, 2) := by decide +kernel
theorem dX7_minor_48 : decode cX7_minor 48 = .ok (.iadd, 1) := by decide +kernel
theorem dX7_minor_49 : decode cX7_minor 49 = .ok (.laload, 1) := by decide +kernel
theorem dX7_minor_50 : decode cX7_minor 50 = .ok (.lmul, 1) := by decide +kernel
theorem dX7_minor_51 : decode cX7_minor 51 = .ok (.aload_n 0, 1) := by decide +kernel
theorem dX7_minor_52 : decode cX7_minor 52 = .ok (.getfield 51, 3) := by decide +kernel
theorem dX7_minor_55 : decode cX7_minor 55 = .ok (.iconst 3, 1) := by decide +kernel
theorem dX7_minor_56 : decode cX7_minor 56 = .ok (.iload_n 3, 1) := by decide +kernel
theorem dX7_minor_57 : decode cX7_minor 57 = .ok (.imul, 1) := by decide +kernel
theorem dX7_minor_58 : decode cX7_minor 58 = .ok (.iload 6, 2) := by decide +kernel
theorem dX7_minor_60 : decode cX7_minor 60 = .ok (.iadd, 1) := by decide +kernel
theorem dX7_minor_61 : decode cX7_minor 61 = .ok (.laload, 1) := by decide +kernel
theorem dX7_minor_62 : decode cX7_minor 62 = .ok (.aload_n 0, 1) := by decide +kernel
theorem dX7_minor_63 : decode cX7_minor 63 = .ok (.getfield 51, 3) := by decide +kernel
theorem dX7_minor_66 : decode cX7_minor 66 = .ok (.iconst 3, 1) := by decide +kernel
theorem dX7_minor_67 : decode cX7_minor 67 = .ok (.iload 4, 2) := by decide +kernel
theorem dX7_minor_69 : decode cX7_minor 69 = .ok (.imul, 1) := by decide +kernel
theorem dX7_minor_70 : decode cX7_minor 70 = .ok (.iload 5, 2) := by decide +kernel
theorem dX7_minor_72 : decode cX7_minor 72 = .ok (.iadd, 1) := by decide +kernel
theorem dX7_minor_73 : decode cX7_minor 73 = .ok (.laload, 1) := by decide +kernel
theorem dX7_minor_74 : decode cX7_minor 74 = .ok (.lmul, 1) := by decide +kernel
theorem dX7_minor_75 : decode cX7_minor 75 = .ok (.lsub, 1) := by decide +kernel
theorem dX7_minor_76 : decode cX7_minor 76 = .ok (.lreturn, 1) := by decide +kernel
theorem dX7_lay_0 : decode cX7_lay 0 = .ok (.iload_n 1, 1) := by decide +kernel
theorem dX7_lay_1 : decode cX7_lay 1 = .ok (.invokestatic 120, 3) := by decide +kernel
theorem dX7_lay_4 : decode cX7_lay 4 = .ok (.istore_n 3, 1) := by decide +kernel
theorem dX7_lay_5 : decode cX7_lay 5 = .ok (.iconst 0, 1) := by decide +kernel
theorem dX7_lay_6 : decode cX7_lay 6 = .ok (.istore 4, 2) := by decide +kernel
theorem dX7_lay_8 : decode cX7_lay 8 = .ok (.iload 4, 2) := by decide +kernel
theorem dX7_lay_10 : decode cX7_lay 10 = .ok (.bipush 9, 2) := by decide +kernel
theorem dX7_lay_12 : decode cX7_lay 12 = .ok (.if_icmp .ge 38, 3) := by decide +kernel
theorem dX7_lay_15 : decode cX7_lay 15 = .ok (.aload_n 0, 1) := by decide +kernel
theorem dX7_lay_16 : decode cX7_lay 16 = .ok (.getfield 51, 3) := by decide +kernel
theorem dX7_lay_19 : decode cX7_lay 19 = .ok (.iload 4, 2) := by decide +kernel
theorem dX7_lay_21 : decode cX7_lay 21 = .ok (.iload_n 3, 1) := by decide +kernel
theorem dX7_lay_22 : decode cX7_lay 22 = .ok (.iconst 1, 1) := by decide +kernel
theorem dX7_lay_23 : decode cX7_lay 23 = .ok (.if_icmp .ne 19, 3) := by decide +kernel
theorem dX7_lay_26 : decode cX7_lay 26 = .ok (.iload 4, 2) := by decide +kernel
theorem dX7_lay_28 : decode cX7_lay 28 = .ok (.iconst 4, 1) := by decide +kernel
theorem dX7_lay_29 : decode cX7_lay 29 = .ok (.irem, 1) := by decide +kernel
theorem dX7_lay_30 : decode cX7_lay 30 = .ok (.ifCond .ne 12, 3) := by decide +kernel
theorem dX7_lay_33 : decode cX7_lay 33 = .ok (.iload 4, 2) := by decide +kernel
theorem dX7_lay_35 : decode cX7_lay 35 = .ok (.ifCond .le 7, 3) := by decide +kernel
theorem dX7_lay_38 : decode cX7_lay 38 = .ok (.lconst 1, 1) := by decide +kernel
theorem dX7_lay_39 : decode cX7_lay 39 = .ok (.goto 4, 3) := by decide +kernel
theorem dX7_lay_42 : decode cX7_lay 42 = .ok (.lconst 0, 1) := by decide +kernel
theorem dX7_lay_43 : decode cX7_lay 43 = .ok (.lastore, 1) := by decide +kernel
theorem dX7_lay_44 : decode cX7_lay 44 = .ok (.iinc 4 1, 3) := by decide +kernel
theorem dX7_lay_47 : decode cX7_lay 47 = .ok (.goto (-39), 3) := by decide +kernel
theorem dX7_lay_50 : decode cX7_lay 50 = .ok (.iconst 0, 1) := by decide +kernel
theorem dX7_lay_51 : decode cX7_lay 51 = .ok (.istore 4, 2) := by decide +kernel
theorem dX7_lay_53 : decode cX7_lay 53 = .ok (.iload 4, 2) := by decide +kernel
theorem dX7_lay_55 : decode cX7_lay 55 = .ok (.aload_n 0, 1) := by decide +kernel
theorem dX7_lay_56 : decode cX7_lay 56 = .ok (.getfield 86, 3) := by decide +kernel
theorem dX7_lay_59 : decode cX7_lay 59 = .ok (.if_icmp .ge 78, 3) := by decide +kernel
theorem dX7_lay_62 : decode cX7_lay 62 = .ok (.iconst 0, 1) := by decide +kernel
theorem dX7_lay_63 : decode cX7_lay 63 = .ok (.istore 5, 2) := by decide +kernel
theorem dX7_lay_65 : decode cX7_lay 65 = .ok (.iload 5, 2) := by decide +kernel
theorem dX7_lay_67 : decode cX7_lay 67 = .ok (.iload_n 3, 1) := by decide +kernel
theorem dX7_lay_68 : decode cX7_lay 68 = .ok (.iload_n 3, 1) := by decide +kernel
theorem dX7_lay_69 : decode cX7_lay 69 = .ok (.imul, 1) := by decide +kernel
theorem dX7_lay_70 : decode cX7_lay 70 = .ok (.if_icmp .ge 61, 3) := by decide +kernel
theorem dX7_lay_73 : decode cX7_lay 73 = .ok (.iload_n 2, 1) := by decide +kernel
theorem dX7_lay_74 : decode cX7_lay 74 = .ok (.iload 4, 2) := by decide +kernel
theorem dX7_lay_76 : decode cX7_lay 76 = .ok (.ishr, 1) := by decide +kernel
theorem dX7_lay_77 : decode cX7_lay 77 = .ok (.iconst 1, 1) := by decide +kernel
theorem dX7_lay_78 : decode cX7_lay 78 = .ok (.iand, 1) := by decide +kernel
theorem dX7_lay_79 : decode cX7_lay 79 = .ok (.iconst 1, 1) := by decide +kernel
theorem dX7_lay_80 : decode cX7_lay 80 = .ok (.if_icmp .ne 51, 3) := by decide +kernel
theorem dX7_lay_83 : decode cX7_lay 83 = .ok (.aload_n 0, 1) := by decide +kernel
theorem dX7_lay_84 : decode cX7_lay 84 = .ok (.getfield 51, 3) := by decide +kernel
theorem dX7_lay_87 : decode cX7_lay 87 = .ok (.iconst 3, 1) := by decide +kernel
theorem dX7_lay_88 : decode cX7_lay 88 = .ok (.iload 5, 2) := by decide +kernel
theorem dX7_lay_90 : decode cX7_lay 90 = .ok (.iload_n 3, 1) := by decide +kernel
theorem dX7_lay_91 : decode cX7_lay 91 = .ok (.idiv, 1) := by decide +kernel
theorem dX7_lay_92 : decode cX7_lay 92 = .ok (.imul, 1) := by decide +kernel
theorem dX7_lay_93 : decode cX7_lay 93 = .ok (.iload 5, 2) := by decide +kernel
theorem dX7_lay_95 : decode cX7_lay 95 = .ok (.iload_n 3, 1) := by decide +kernel
theorem dX7_lay_96 : decode cX7_lay 96 = .ok (.irem, 1) := by decide +kernel
theorem dX7_lay_97 : decode cX7_lay 97 = .ok (.iadd, 1) := by decide +kernel
theorem dX7_lay_98 : decode cX7_lay 98 = .ok (.dup2, 1) := by decide +kernel
theorem dX7_lay_99 : decode cX7_lay 99 = .ok (.laload, 1) := by decide +kernel
theorem dX7_lay_100 : decode cX7_lay 100 = .ok (.aload_n 0, 1) := by decide +kernel
theorem dX7_lay_101 : decode cX7_lay 101 = .ok (.iload_n 1, 1) := by decide +kernel
theorem dX7_lay_102 : decode cX7_lay 102 = .ok (.iload 4, 2) := by decide +kernel
theorem dX7_lay_104 : decode cX7_lay 104 = .ok (.iload 5, 2) := by decide +kernel
theorem dX7_lay_106 : decode cX7_lay 106 = .ok (.iload_n 3, 1) := by decide +kernel
theorem dX7_lay_107 : decode cX7_lay 107 = .ok (.idiv, 1) := by decide +kernel
theorem dX7_lay_108 : decode cX7_lay 108 = .ok (.invokevirtual 123, 3) := by decide +kernel
theorem dX7_lay_111 : decode cX7_lay 111 = .ok (.aload_n 0, 1) := by decide +kernel
theorem dX7_lay_112 : decode cX7_lay 112 = .ok (.iload_n 1, 1) := by decide +kernel
theorem dX7_lay_113 : decode cX7_lay 113 = .ok (.iload 4, 2) := by decide +kernel
theorem dX7_lay_115 : decode cX7_lay 115 = .ok (.iload 5, 2) := by decide +kernel
theorem dX7_lay_117 : decode cX7_lay 117 = .ok (.iload_n 3, 1) := by decide +kernel
theorem dX7_lay_118 : decode cX7_lay 118 = .ok (.irem, 1) := by decide +kernel
theorem dX7_lay_119 : decode cX7_lay 119 = .ok (.invokevirtual 123, 3) := by decide +kernel
theorem dX7_lay_122 : decode cX7_lay 122 = .ok (.lmul, 1) := by decide +kernel
theorem dX7_lay_123 : decode cX7_lay 123 = .ok (.ladd, 1) := by decide +kernel
theorem dX7_lay_124 : decode cX7_lay 124 = .ok (.lastore, 1) := by decide +kernel
theorem dX7_lay_125 : decode cX7_lay 125 = .ok (.iinc 5 1, 3) := by decide +kernel
theorem dX7_lay_128 : decode cX7_lay 128 = .ok (.goto (-63), 3) := by decide +kernel
theorem dX7_lay_131 : decode cX7_lay 131 = .ok (.iinc 4 1, 3) := by decide +kernel
theorem dX7_lay_134 : decode cX7_lay 134 = .ok (.goto (-81), 3) := by decide +kernel
theorem dX7_lay_137 : decode cX7_lay 137 = .ok (.iconst 0, 1) := by decide +kernel
theorem dX7_lay_138 : decode cX7_lay 138 = .ok (.istore 4, 2) := by decide +kernel
theorem dX7_lay_140 : decode cX7_lay 140 = .ok (.iload 4, 2) := by decide +kernel
theorem dX7_lay_142 : decode cX7_lay 142 = .ok (.bipush 9, 2) := by decide +kernel
theorem dX7_lay_144 : decode cX7_lay 144 = .ok (.if_icmp .ge 28, 3) := by decide +kernel
theorem dX7_lay_147 : decode cX7_lay 147 = .ok (.aload_n 0, 1) := by decide +kernel
theorem dX7_lay_148 : decode cX7_lay 148 = .ok (.getfield 55, 3) := by decide +kernel
theorem dX7_lay_151 : decode cX7_lay 151 = .ok (.iload 4, 2) := by decide +kernel
theorem dX7_lay_153 : decode cX7_lay 153 = .ok (.aload_n 0, 1) := by decide +kernel
theorem dX7_lay_154 : decode cX7_lay 154 = .ok (.iload 4, 2) := by decide +kernel
theorem dX7_lay_156 : decode cX7_lay 156 = .ok (.iconst 3, 1) := by decide +kernel
theorem dX7_lay_157 : decode cX7_lay 157 = .ok (.irem, 1) := by decide +kernel
theorem dX7_lay_158 : decode cX7_lay 158 = .ok (.iload 4, 2) := by decide +kernel
theorem dX7_lay_160 : decode cX7_lay 160 = .ok (.iconst 3, 1) := by decide +kernel
theorem dX7_lay_161 : decode cX7_lay 161 = .ok (.idiv, 1) := by decide +kernel
theorem dX7_lay_162 : decode cX7_lay 162 = .ok (.invokevirtual 127, 3) := by decide +kernel
theorem dX7_lay_165 : decode cX7_lay 165 = .ok (.lastore, 1) := by decide +kernel
theorem dX7_lay_166 : decode cX7_lay 166 = .ok (.iinc 4 1, 3) := by decide +kernel
theorem dX7_lay_169 : decode cX7_lay 169 = .ok (.goto (-29), 3) := by decide +kernel
theorem dX7_lay_172 : decode cX7_lay 172 = .ok (.aload_n 0, 1) := by decide +kernel
theorem dX7_lay_173 : decode cX7_lay 173 = .ok (.aload_n 0, 1) := by decide +kernel
theorem dX7_lay_174 : decode cX7_lay 174 = .ok (.getfield 51, 3) := by decide +kernel
theorem dX7_lay_177 : decode cX7_lay 177 = .ok (.iconst 0, 1) := by decide +kernel
theorem dX7_lay_178 : decode cX7_lay 178 = .ok (.laload, 1) := by decide +kernel
theorem dX7_lay_179 : decode cX7_lay 179 = .ok (.aload_n 0, 1) := by decide +kernel
theorem dX7_lay_180 : decode cX7_lay 180 = .ok (.getfield 55, 3) := by decide +kernel
theorem dX7_lay_183 : decode cX7_lay 183 = .ok (.iconst 0, 1) := by decide +kernel
theorem dX7_lay_184 : decode cX7_lay 184 = .ok (.laload, 1) := by decide +kernel
theorem dX7_lay_185 : decode cX7_lay 185 = .ok (.lmul, 1) := by decide +kernel
theorem dX7_lay_186 : decode cX7_lay 186 = .ok (.aload_n 0, 1) := by decide +kernel
theorem dX7_lay_187 : decode cX7_lay 187 = .ok (.getfield 51, 3) := by decide +kernel
theorem dX7_lay_190 : decode cX7_lay 190 = .ok (.iconst 1, 1) := by decide +kernel
theorem dX7_lay_191 : decode cX7_lay 191 = .ok (.laload, 1) := by decide +kernel
theorem dX7_lay_192 : decode cX7_lay 192 = .ok (.aload_n 0, 1) := by decide +kernel
theorem dX7_lay_193 : decode cX7_lay 193 = .ok (.getfield 55, 3) := by decide +kernel
theorem dX7_lay_196 : decode cX7_lay 196 = .ok (.iconst 3, 1) := by decide +kernel
theorem dX7_lay_197 : decode cX7_lay 197 = .ok (.laload, 1) := by decide +kernel
theorem dX7_lay_198 : decode cX7_lay 198 = .ok (.lmul, 1) := by decide +kernel
theorem dX7_lay_199 : decode cX7_lay 199 = .ok (.ladd, 1) := by decide +kernel
theorem dX7_lay_200 : decode cX7_lay 200 = .ok (.aload_n 0, 1) := by decide +kernel
theorem dX7_lay_201 : decode cX7_lay 201 = .ok (.getfield 51, 3) := by decide +kernel
theorem dX7_lay_204 : decode cX7_lay 204 = .ok (.iconst 2, 1) := by decide +kernel
theorem dX7_lay_205 : decode cX7_lay 205 = .ok (.laload, 1) := by decide +kernel
theorem dX7_lay_206 : decode cX7_lay 206 = .ok (.aload_n 0, 1) := by decide +kernel
theorem dX7_lay_207 : decode cX7_lay 207 = .ok (.getfield 55, 3) := by decide +kernel
theorem dX7_lay_210 : decode cX7_lay 210 = .ok (.bipush 6, 2) := by decide +kernel
theorem dX7_lay_212 : decode cX7_lay 212 = .ok (.laload, 1) := by decide +kernel
theorem dX7_lay_213 : decode cX7_lay 213 = .ok (.lmul, 1) := by decide +kernel
theorem dX7_lay_214 : decode cX7_lay 214 = .ok (.ladd, 1) := by decide +kernel
theorem dX7_lay_215 : decode cX7_lay 215 = .ok (.putfield 131, 3) := by decide +kernel
theorem dX7_lay_218 : decode cX7_lay 218 = .ok (.return_, 1) := by decide +kernel
theorem dX7_det_0 : decode cX7_det 0 = .ok (.iload_n 1, 1) := by decide +kernel
theorem dX7_det_1 : decode cX7_det 1 = .ok (.invokestatic 135, 3) := by decide +kernel
theorem dX7_det_4 : decode cX7_det 4 = .ok (.ifCond .ne 7, 3) := by decide +kernel
theorem dX7_det_7 : decode cX7_det 7 = .ok (.ldc2_w 138, 3) := by decide +kernel
theorem dX7_det_10 : decode cX7_det 10 = .ok (.lreturn, 1) := by decide +kernel
theorem dX7_det_11 : decode cX7_det 11 = .ok (.aload_n 0, 1) := by decide +kernel
theorem dX7_det_12 : decode cX7_det 12 = .ok (.iload_n 1, 1) := by decide +kernel
theorem dX7_det_13 : decode cX7_det 13 = .ok (.aload_n 0, 1) := by decide +kernel
theorem dX7_det_14 : decode cX7_det 14 = .ok (.invokevirtual 107, 3) := by decide +kernel
theorem dX7_det_17 : decode cX7_det 17 = .ok (.invokevirtual 140, 3) := by decide +kernel
theorem dX7_det_20 : decode cX7_det 20 = .ok (.aload_n 0, 1) := by decide +kernel
theorem dX7_det_21 : decode cX7_det 21 = .ok (.getfield 131, 3) := by decide +kernel
theorem dX7_det_24 : decode cX7_det 24 = .ok (.lreturn, 1) := by decide +kernel
theorem dX7_findFit_0 : decode cX7_findFit 0 = .ok (.aload_n 0, 1) := by decide +kernel
theorem dX7_findFit_1 : decode cX7_findFit 1 = .ok (.iload_n 1, 1) := by decide +kernel
theorem dX7_findFit_2 : decode cX7_findFit 2 = .ok (.iload_n 3, 1) := by decide +kernel
theorem dX7_findFit_3 : decode cX7_findFit 3 = .ok (.invokevirtual 140, 3) := by decide +kernel
theorem dX7_findFit_6 : decode cX7_findFit 6 = .ok (.iload_n 1, 1) := by decide +kernel
theorem dX7_findFit_7 : decode cX7_findFit 7 = .ok (.invokestatic 120, 3) := by decide +kernel
theorem dX7_findFit_10 : decode cX7_findFit 10 = .ok (.istore 4, 2) := by decide +kernel
theorem dX7_findFit_12 : decode cX7_findFit 12 = .ok (.iconst 0, 1) := by decide +kernel
theorem dX7_findFit_13 : decode cX7_findFit 13 = .ok (.istore 5, 2) := by decide +kernel
theorem dX7_findFit_15 : decode cX7_findFit 15 = .ok (.iload 5, 2) := by decide +kernel
theorem dX7_findFit_17 : decode cX7_findFit 17 = .ok (.iconst 3, 1) := by decide +kernel
theorem dX7_findFit_18 : decode cX7_findFit 18 = .ok (.if_icmp .ge 17, 3) := by decide +kernel
theorem dX7_findFit_21 : decode cX7_findFit 21 = .ok (.aload_n 0, 1) := by decide +kernel
theorem dX7_findFit_22 : decode cX7_findFit 22 = .ok (.getfield 58, 3) := by decide +kernel
theorem dX7_findFit_25 : decode cX7_findFit 25 = .ok (.iload 5, 2) := by decide +kernel
theorem dX7_findFit_27 : decode cX7_findFit 27 = .ok (.lconst 0, 1) := by decide +kernel
theorem dX7_findFit_28 : decode cX7_findFit 28 = .ok (.lastore, 1) := by decide +kernel
theorem dX7_findFit_29 : decode cX7_findFit 29 = .ok (.iinc 5 1, 3) := by decide +kernel
theorem dX7_findFit_32 : decode cX7_findFit 32 = .ok (.goto (-17), 3) := by decide +kernel
theorem dX7_findFit_35 : decode cX7_findFit 35 = .ok (.iconst 0, 1) := by decide +kernel
theorem dX7_findFit_36 : decode cX7_findFit 36 = .ok (.istore 5, 2) := by decide +kernel
theorem dX7_findFit_38 : decode cX7_findFit 38 = .ok (.iload 5, 2) := by decide +kernel
theorem dX7_findFit_40 : decode cX7_findFit 40 = .ok (.aload_n 0, 1) := by decide +kernel
theorem dX7_findFit_41 : decode cX7_findFit 41 = .ok (.getfield 86, 3) := by decide +kernel
theorem dX7_findFit_44 : decode cX7_findFit 44 = .ok (.if_icmp .ge 67, 3) := by decide +kernel
theorem dX7_findFit_47 : decode cX7_findFit 47 = .ok (.iconst 0, 1) := by decide +kernel
theorem dX7_findFit_48 : decode cX7_findFit 48 = .ok (.istore 6, 2) := by decide +kernel
theorem dX7_findFit_50 : decode cX7_findFit 50 = .ok (.iload 6, 2) := by decide +kernel
theorem dX7_findFit_52 : decode cX7_findFit 52 = .ok (.iload 4, 2) := by decide +kernel
theorem dX7_findFit_54 : decode cX7_findFit 54 = .ok (.if_icmp .ge 51, 3) := by decide +kernel
theorem dX7_findFit_57 : decode cX7_findFit 57 = .ok (.iload_n 3, 1) := by decide +kernel
theorem dX7_findFit_58 : decode cX7_findFit 58 = .ok (.iload 5, 2) := by decide +kernel
theorem dX7_findFit_60 : decode cX7_findFit 60 = .ok (.ishr, 1) := by decide +kernel
theorem dX7_findFit_61 : decode cX7_findFit 61 = .ok (.iconst 1, 1) := by decide +kernel
theorem dX7_findFit_62 : decode cX7_findFit 62 = .ok (.iand, 1) := by decide +kernel
theorem dX7_findFit_63 : decode cX7_findFit 63 = .ok (.iconst 1, 1) := by decide +kernel
theorem dX7_findFit_64 : decode cX7_findFit 64 = .ok (.if_icmp .ne 41, 3) := by decide +kernel
theorem dX7_findFit_67 : decode cX7_findFit 67 = .ok (.aload_n 0, 1) := by decide +kernel
theorem dX7_findFit_68 : decode cX7_findFit 68 = .ok (.getfield 58, 3) := by decide +kernel
theorem dX7_findFit_71 : decode cX7_findFit 71 = .ok (.iload 6, 2) := by decide +kernel
theorem dX7_findFit_73 : decode cX7_findFit 73 = .ok (.dup2, 1) := by decide +kernel
theorem dX7_findFit_74 : decode cX7_findFit 74 = .ok (.laload, 1) := by decide +kernel
theorem dX7_findFit_75 : decode cX7_findFit 75 = .ok (.aload_n 0, 1) := by decide +kernel
theorem dX7_findFit_76 : decode cX7_findFit 76 = .ok (.iload_n 1, 1) := by decide +kernel
theorem dX7_findFit_77 : decode cX7_findFit 77 = .ok (.iload 5, 2) := by decide +kernel
theorem dX7_findFit_79 : decode cX7_findFit 79 = .ok (.iload 6, 2) := by decide +kernel
theorem dX7_findFit_81 : decode cX7_findFit 81 = .ok (.invokevirtual 123, 3) := by decide +kernel
theorem dX7_findFit_84 : decode cX7_findFit 84 = .ok (.aload_n 0, 1) := by decide +kernel
theorem dX7_findFit_85 : decode cX7_findFit 85 = .ok (.getfield 13, 3) := by decide +kernel
theorem dX7_findFit_88 : decode cX7_findFit 88 = .ok (.iconst 2, 1) := by decide +kernel
theorem dX7_findFit_89 : decode cX7_findFit 89 = .ok (.iload 5, 2) := by decide +kernel
theorem dX7_findFit_91 : decode cX7_findFit 91 = .ok (.imul, 1) := by decide +kernel
theorem dX7_findFit_92 : decode cX7_findFit 92 = .ok (.iload_n 2, 1) := by decide +kernel
theorem dX7_findFit_93 : decode cX7_findFit 93 = .ok (.iadd, 1) := by decide +kernel
theorem dX7_findFit_94 : decode cX7_findFit 94 = .ok (.iaload, 1) := by decide +kernel
theorem dX7_findFit_95 : decode cX7_findFit 95 = .ok (.i2l, 1) := by decide +kernel
theorem dX7_findFit_96 : decode cX7_findFit 96 = .ok (.lmul, 1) := by decide +kernel
theorem dX7_findFit_97 : decode cX7_findFit 97 = .ok (.ladd, 1) := by decide +kernel
theorem dX7_findFit_98 : decode cX7_findFit 98 = .ok (.lastore, 1) := by decide +kernel
theorem dX7_findFit_99 : decode cX7_findFit 99 = .ok (.iinc 6 1, 3) := by decide +kernel
theorem dX7_findFit_102 : decode cX7_findFit 102 = .ok (.goto (-52), 3) := by decide +kernel
theorem dX7_findFit_105 : decode cX7_findFit 105 = .ok (.iinc 5 1, 3) := by decide +kernel
theorem dX7_findFit_108 : decode cX7_findFit 108 = .ok (.goto (-70), 3) := by decide +kernel
theorem dX7_findFit_111 : decode cX7_findFit 111 = .ok (.iconst 0, 1) := by decide +kernel
theorem dX7_findFit_112 : decode cX7_findFit 112 = .ok (.istore 5, 2) := by decide +kernel
theorem dX7_findFit_114 : decode cX7_findFit 114 = .ok (.iload 5, 2) := by decide +kernel
theorem dX7_findFit_116 : decode cX7_findFit 116 = .ok (.iconst 3, 1) := by decide +kernel
theorem dX7_findFit_117 : decode cX7_findFit 117 = .ok (.if_icmp .ge 70, 3) := by decide +kernel
theorem dX7_findFit_120 : decode cX7_findFit 120 = .ok (.aload_n 0, 1) := by decide +kernel
theorem dX7_findFit_121 : decode cX7_findFit 121 = .ok (.getfield 61, 3) := by decide +kernel
theorem dX7_findFit_124 : decode cX7_findFit 124 = .ok (.iload 5, 2) := by decide +kernel
theorem dX7_findFit_126 : decode cX7_findFit 126 = .ok (.aload_n 0, 1) := by decide +kernel
theorem dX7_findFit_127 : decode cX7_findFit 127 = .ok (.getfield 55, 3) := by decide +kernel
theorem dX7_findFit_130 : decode cX7_findFit 130 = .ok (.iconst 3, 1) := by decide +kernel
theorem dX7_findFit_131 : decode cX7_findFit 131 = .ok (.iload 5, 2) := by decide +kernel
theorem dX7_findFit_133 : decode cX7_findFit 133 = .ok (.imul, 1) := by decide +kernel
theorem dX7_findFit_134 : decode cX7_findFit 134 = .ok (.laload, 1) := by decide +kernel
theorem dX7_findFit_135 : decode cX7_findFit 135 = .ok (.aload_n 0, 1) := by decide +kernel
theorem dX7_findFit_136 : decode cX7_findFit 136 = .ok (.getfield 58, 3) := by decide +kernel
theorem dX7_findFit_139 : decode cX7_findFit 139 = .ok (.iconst 0, 1) := by decide +kernel
theorem dX7_findFit_140 : decode cX7_findFit 140 = .ok (.laload, 1) := by decide +kernel
theorem dX7_findFit_141 : decode cX7_findFit 141 = .ok (.lmul, 1) := by decide +kernel
theorem dX7_findFit_142 : decode cX7_findFit 142 = .ok (.aload_n 0, 1) := by decide +kernel
theorem dX7_findFit_143 : decode cX7_findFit 143 = .ok (.getfield 55, 3) := by decide +kernel
theorem dX7_findFit_146 : decode cX7_findFit 146 = .ok (.iconst 3, 1) := by decide +kernel
theorem dX7_findFit_147 : decode cX7_findFit 147 = .ok (.iload 5, 2) := by decide +kernel
theorem dX7_findFit_149 : decode cX7_findFit 149 = .ok (.imul, 1) := by decide +kernel
theorem dX7_findFit_150 : decode cX7_findFit 150 = .ok (.iconst 1, 1) := by decide +kernel
theorem dX7_findFit_151 : decode cX7_findFit 151 = .ok (.iadd, 1) := by decide +kernel
theorem dX7_findFit_152 : decode cX7_findFit 152 = .ok (.laload, 1) := by decide +kernel
theorem dX7_findFit_153 : decode cX7_findFit 153 = .ok (.aload_n 0, 1) := by decide +kernel
theorem dX7_findFit_154 : decode cX7_findFit 154 = .ok (.getfield 58, 3) := by decide +kernel
theorem dX7_findFit_157 : decode cX7_findFit 157 = .ok (.iconst 1, 1) := by decide +kernel
theorem dX7_findFit_158 : decode cX7_findFit 158 = .ok (.laload, 1) := by decide +kernel
theorem dX7_findFit_159 : decode cX7_findFit 159 = .ok (.lmul, 1) := by decide +kernel
theorem dX7_findFit_160 : decode cX7_findFit 160 = .ok (.ladd, 1) := by decide +kernel
theorem dX7_findFit_161 : decode cX7_findFit 161 = .ok (.aload_n 0, 1) := by decide +kernel
theorem dX7_findFit_162 : decode cX7_findFit 162 = .ok (.getfield 55, 3) := by decide +kernel
theorem dX7_findFit_165 : decode cX7_findFit 165 = .ok (.iconst 3, 1) := by decide +kernel
theorem dX7_findFit_166 : decode cX7_findFit 166 = .ok (.iload 5, 2) := by decide +kernel
theorem dX7_findFit_168 : decode cX7_findFit 168 = .ok (.imul, 1) := by decide +kernel
theorem dX7_findFit_169 : decode cX7_findFit 169 = .ok (.iconst 2, 1) := by decide +kernel
theorem dX7_findFit_170 : decode cX7_findFit 170 = .ok (.iadd, 1) := by decide +kernel
theorem dX7_findFit_171 : decode cX7_findFit 171 = .ok (.laload, 1) := by decide +kernel
theorem dX7_findFit_172 : decode cX7_findFit 172 = .ok (.aload_n 0, 1) := by decide +kernel
theorem dX7_findFit_173 : decode cX7_findFit 173 = .ok (.getfield 58, 3) := by decide +kernel
theorem dX7_findFit_176 : decode cX7_findFit 176 = .ok (.iconst 2, 1) := by decide +kernel
theorem dX7_findFit_177 : decode cX7_findFit 177 = .ok (.laload, 1) := by decide +kernel
theorem dX7_findFit_178 : decode cX7_findFit 178 = .ok (.lmul, 1) := by decide +kernel
theorem dX7_findFit_179 : decode cX7_findFit 179 = .ok (.ladd, 1) := by decide +kernel
theorem dX7_findFit_180 : decode cX7_findFit 180 = .ok (.lastore, 1) := by decide +kernel
theorem dX7_findFit_181 : decode cX7_findFit 181 = .ok (.iinc 5 1, 3) := by decide +kernel
theorem dX7_findFit_184 : decode cX7_findFit 184 = .ok (.goto (-70), 3) := by decide +kernel
theorem dX7_findFit_187 : decode cX7_findFit 187 = .ok (.return_, 1) := by decide +kernel
theorem dX7_restOf_0 : decode cX7_restOf 0 = .ok (.aload_n 0, 1) := by decide +kernel
theorem dX7_restOf_1 : decode cX7_restOf 1 = .ok (.getfield 13, 3) := by decide +kernel
theorem dX7_restOf_4 : decode cX7_restOf 4 = .ok (.iconst 2, 1) := by decide +kernel
theorem dX7_restOf_5 : decode cX7_restOf 5 = .ok (.iload_n 3, 1) := by decide +kernel
theorem dX7_restOf_6 : decode cX7_restOf 6 = .ok (.imul, 1) := by decide +kernel
theorem dX7_restOf_7 : decode cX7_restOf 7 = .ok (.iload_n 2, 1) := by decide +kernel
theorem dX7_restOf_8 : decode cX7_restOf 8 = .ok (.iadd, 1) := by decide +kernel
theorem dX7_restOf_9 : decode cX7_restOf 9 = .ok (.iaload, 1) := by decide +kernel
theorem dX7_restOf_10 : decode cX7_restOf 10 = .ok (.i2l, 1) := by decide +kernel
theorem dX7_restOf_11 : decode cX7_restOf 11 = .ok (.aload_n 0, 1) := by decide +kernel
theorem dX7_restOf_12 : decode cX7_restOf 12 = .ok (.getfield 131, 3) := by decide +kernel
theorem dX7_restOf_15 : decode cX7_restOf 15 = .ok (.lmul, 1) := by decide +kernel
theorem dX7_restOf_16 : decode cX7_restOf 16 = .ok (.lstore 4, 2) := by decide +kernel
theorem dX7_restOf_18 : decode cX7_restOf 18 = .ok (.iconst 0, 1) := by decide +kernel
theorem dX7_restOf_19 : decode cX7_restOf 19 = .ok (.istore 6, 2) := by decide +kernel
theorem dX7_restOf_21 : decode cX7_restOf 21 = .ok (.iload 6, 2) := by decide +kernel
theorem dX7_restOf_23 : decode cX7_restOf 23 = .ok (.iload_n 1, 1) := by decide +kernel
theorem dX7_restOf_24 : decode cX7_restOf 24 = .ok (.invokestatic 120, 3) := by decide +kernel
theorem dX7_restOf_27 : decode cX7_restOf 27 = .ok (.if_icmp .ge 30, 3) := by decide +kernel
theorem dX7_restOf_30 : decode cX7_restOf 30 = .ok (.lload 4, 2) := by decide +kernel
theorem dX7_restOf_32 : decode cX7_restOf 32 = .ok (.aload_n 0, 1) := by decide +kernel
theorem dX7_restOf_33 : decode cX7_restOf 33 = .ok (.getfield 61, 3) := by decide +kernel
theorem dX7_restOf_36 : decode cX7_restOf 36 = .ok (.iload 6, 2) := by decide +kernel
theorem dX7_restOf_38 : decode cX7_restOf 38 = .ok (.laload, 1) := by decide +kernel
theorem dX7_restOf_39 : decode cX7_restOf 39 = .ok (.aload_n 0, 1) := by decide +kernel
theorem dX7_restOf_40 : decode cX7_restOf 40 = .ok (.iload_n 1, 1) := by decide +kernel
theorem dX7_restOf_41 : decode cX7_restOf 41 = .ok (.iload_n 3, 1) := by decide +kernel
theorem dX7_restOf_42 : decode cX7_restOf 42 = .ok (.iload 6, 2) := by decide +kernel
theorem dX7_restOf_44 : decode cX7_restOf 44 = .ok (.invokevirtual 123, 3) := by decide +kernel
theorem dX7_restOf_47 : decode cX7_restOf 47 = .ok (.lmul, 1) := by decide +kernel
theorem dX7_restOf_48 : decode cX7_restOf 48 = .ok (.lsub, 1) := by decide +kernel
theorem dX7_restOf_49 : decode cX7_restOf 49 = .ok (.lstore 4, 2) := by decide +kernel
theorem dX7_restOf_51 : decode cX7_restOf 51 = .ok (.iinc 6 1, 3) := by decide +kernel
theorem dX7_restOf_54 : decode cX7_restOf 54 = .ok (.goto (-33), 3) := by decide +kernel
theorem dX7_restOf_57 : decode cX7_restOf 57 = .ok (.lload 4, 2) := by decide +kernel
theorem dX7_restOf_59 : decode cX7_restOf 59 = .ok (.lreturn, 1) := by decide +kernel
theorem dX7_size_0 : decode cX7_size 0 = .ok (.lload_n 0, 1) := by decide +kernel
theorem dX7_size_1 : decode cX7_size 1 = .ok (.lconst 0, 1) := by decide +kernel
theorem dX7_size_2 : decode cX7_size 2 = .ok (.lcmp, 1) := by decide +kernel
theorem dX7_size_3 : decode cX7_size 3 = .ok (.ifCond .ge 8, 3) := by decide +kernel
theorem dX7_size_6 : decode cX7_size 6 = .ok (.lload_n 0, 1) := by decide +kernel
theorem dX7_size_7 : decode cX7_size 7 = .ok (.lneg, 1) := by decide +kernel
theorem dX7_size_8 : decode cX7_size 8 = .ok (.goto 4, 3) := by decide +kernel
theorem dX7_size_11 : decode cX7_size 11 = .ok (.lload_n 0, 1) := by decide +kernel
theorem dX7_size_12 : decode cX7_size 12 = .ok (.lreturn, 1) := by decide +kernel
theorem dX7_share_0 : decode cX7_share 0 = .ok (.lload_n 0, 1) := by decide +kernel
theorem dX7_share_1 : decode cX7_share 1 = .ok (.invokestatic 144, 3) := by decide +kernel
theorem dX7_share_4 : decode cX7_share 4 = .ok (.lstore 5, 2) := by decide +kernel
theorem dX7_share_6 : decode cX7_share 6 = .ok (.lload_n 2, 1) := by decide +kernel
theorem dX7_share_7 : decode cX7_share 7 = .ok (.lstore 7, 2) := by decide +kernel
theorem dX7_share_9 : decode cX7_share 9 = .ok (.lload 7, 2) := by decide +kernel
theorem dX7_share_11 : decode cX7_share 11 = .ok (.lconst 0, 1) := by decide +kernel
theorem dX7_share_12 : decode cX7_share 12 = .ok (.lcmp, 1) := by decide +kernel
theorem dX7_share_13 : decode cX7_share 13 = .ok (.ifCond .eq 21, 3) := by decide +kernel
theorem dX7_share_16 : decode cX7_share 16 = .ok (.lload 5, 2) := by decide +kernel
theorem dX7_share_18 : decode cX7_share 18 = .ok (.lload 7, 2) := by decide +kernel
theorem dX7_share_20 : decode cX7_share 20 = .ok (.lrem, 1) := by decide +kernel
theorem dX7_share_21 : decode cX7_share 21 = .ok (.lstore 9, 2) := by decide +kernel
theorem dX7_share_23 : decode cX7_share 23 = .ok (.lload 7, 2) := by decide +kernel
theorem dX7_share_25 : decode cX7_share 25 = .ok (.lstore 5, 2) := by decide +kernel
theorem dX7_share_27 : decode cX7_share 27 = .ok (.lload 9, 2) := by decide +kernel
theorem dX7_share_29 : decode cX7_share 29 = .ok (.lstore 7, 2) := by decide +kernel
theorem dX7_share_31 : decode cX7_share 31 = .ok (.goto (-22), 3) := by decide +kernel
theorem dX7_share_34 : decode cX7_share 34 = .ok (.iload 4, 2) := by decide +kernel
theorem dX7_share_36 : decode cX7_share 36 = .ok (.ifCond .ne 10, 3) := by decide +kernel
theorem dX7_share_39 : decode cX7_share 39 = .ok (.lload_n 0, 1) := by decide +kernel
theorem dX7_share_40 : decode cX7_share 40 = .ok (.lload 5, 2) := by decide +kernel
theorem dX7_share_42 : decode cX7_share 42 = .ok (.ldiv, 1) := by decide +kernel
theorem dX7_share_43 : decode cX7_share 43 = .ok (.goto 7, 3) := by decide +kernel
theorem dX7_share_46 : decode cX7_share 46 = .ok (.lload_n 2, 1) := by decide +kernel
theorem dX7_share_47 : decode cX7_share 47 = .ok (.lload 5, 2) := by decide +kernel
theorem dX7_share_49 : decode cX7_share 49 = .ok (.ldiv, 1) := by decide +kernel
theorem dX7_share_50 : decode cX7_share 50 = .ok (.lreturn, 1) := by decide +kernel
theorem dX7_fit_0 : decode cX7_fit 0 = .ok (.iload_n 1, 1) := by decide +kernel
theorem dX7_fit_1 : decode cX7_fit 1 = .ok (.invokestatic 135, 3) := by decide +kernel
theorem dX7_fit_4 : decode cX7_fit 4 = .ok (.ifCond .eq 40, 3) := by decide +kernel
theorem dX7_fit_7 : decode cX7_fit 7 = .ok (.iload_n 2, 1) := by decide +kernel
theorem dX7_fit_8 : decode cX7_fit 8 = .ok (.i2l, 1) := by decide +kernel
theorem dX7_fit_9 : decode cX7_fit 9 = .ok (.lconst 0, 1) := by decide +kernel
theorem dX7_fit_10 : decode cX7_fit 10 = .ok (.lconst 1, 1) := by decide +kernel
theorem dX7_fit_11 : decode cX7_fit 11 = .ok (.invokestatic 77, 3) := by decide +kernel
theorem dX7_fit_14 : decode cX7_fit 14 = .ok (.ifCond .eq 30, 3) := by decide +kernel
theorem dX7_fit_17 : decode cX7_fit 17 = .ok (.iload_n 3, 1) := by decide +kernel
theorem dX7_fit_18 : decode cX7_fit 18 = .ok (.i2l, 1) := by decide +kernel
theorem dX7_fit_19 : decode cX7_fit 19 = .ok (.lconst 0, 1) := by decide +kernel
theorem dX7_fit_20 : decode cX7_fit 20 = .ok (.iload_n 1, 1) := by decide +kernel
theorem dX7_fit_21 : decode cX7_fit 21 = .ok (.invokestatic 120, 3) := by decide +kernel
theorem dX7_fit_24 : decode cX7_fit 24 = .ok (.iconst 1, 1) := by decide +kernel
theorem dX7_fit_25 : decode cX7_fit 25 = .ok (.isub, 1) := by decide +kernel
theorem dX7_fit_26 : decode cX7_fit 26 = .ok (.i2l, 1) := by decide +kernel
theorem dX7_fit_27 : decode cX7_fit 27 = .ok (.invokestatic 77, 3) := by decide +kernel
theorem dX7_fit_30 : decode cX7_fit 30 = .ok (.ifCond .eq 14, 3) := by decide +kernel
theorem dX7_fit_33 : decode cX7_fit 33 = .ok (.iload 4, 2) := by decide +kernel
theorem dX7_fit_35 : decode cX7_fit 35 = .ok (.i2l, 1) := by decide +kernel
theorem dX7_fit_36 : decode cX7_fit 36 = .ok (.lconst 0, 1) := by decide +kernel
theorem dX7_fit_37 : decode cX7_fit 37 = .ok (.lconst 1, 1) := by decide +kernel
theorem dX7_fit_38 : decode cX7_fit 38 = .ok (.invokestatic 77, 3) := by decide +kernel
theorem dX7_fit_41 : decode cX7_fit 41 = .ok (.ifCond .ne 7, 3) := by decide +kernel
theorem dX7_fit_44 : decode cX7_fit 44 = .ok (.ldc2_w 138, 3) := by decide +kernel
theorem dX7_fit_47 : decode cX7_fit 47 = .ok (.lreturn, 1) := by decide +kernel
theorem dX7_fit_48 : decode cX7_fit 48 = .ok (.aload_n 0, 1) := by decide +kernel
theorem dX7_fit_49 : decode cX7_fit 49 = .ok (.iload_n 1, 1) := by decide +kernel
theorem dX7_fit_50 : decode cX7_fit 50 = .ok (.iload_n 2, 1) := by decide +kernel
theorem dX7_fit_51 : decode cX7_fit 51 = .ok (.aload_n 0, 1) := by decide +kernel
theorem dX7_fit_52 : decode cX7_fit 52 = .ok (.invokevirtual 107, 3) := by decide +kernel
theorem dX7_fit_55 : decode cX7_fit 55 = .ok (.invokevirtual 148, 3) := by decide +kernel
theorem dX7_fit_58 : decode cX7_fit 58 = .ok (.aload_n 0, 1) := by decide +kernel
theorem dX7_fit_59 : decode cX7_fit 59 = .ok (.getfield 131, 3) := by decide +kernel
theorem dX7_fit_62 : decode cX7_fit 62 = .ok (.lconst 0, 1) := by decide +kernel
theorem dX7_fit_63 : decode cX7_fit 63 = .ok (.lcmp, 1) := by decide +kernel
theorem dX7_fit_64 : decode cX7_fit 64 = .ok (.ifCond .ne 9, 3) := by decide +kernel
theorem dX7_fit_67 : decode cX7_fit 67 = .ok (.ldc2_w 152, 3) := by decide +kernel
theorem dX7_fit_70 : decode cX7_fit 70 = .ok (.goto 18, 3) := by decide +kernel
theorem dX7_fit_73 : decode cX7_fit 73 = .ok (.aload_n 0, 1) := by decide +kernel
theorem dX7_fit_74 : decode cX7_fit 74 = .ok (.getfield 61, 3) := by decide +kernel
theorem dX7_fit_77 : decode cX7_fit 77 = .ok (.iload_n 3, 1) := by decide +kernel
theorem dX7_fit_78 : decode cX7_fit 78 = .ok (.laload, 1) := by decide +kernel
theorem dX7_fit_79 : decode cX7_fit 79 = .ok (.aload_n 0, 1) := by decide +kernel
theorem dX7_fit_80 : decode cX7_fit 80 = .ok (.getfield 131, 3) := by decide +kernel
theorem dX7_fit_83 : decode cX7_fit 83 = .ok (.iload 4, 2) := by decide +kernel
theorem dX7_fit_85 : decode cX7_fit 85 = .ok (.invokestatic 154, 3) := by decide +kernel
theorem dX7_fit_88 : decode cX7_fit 88 = .ok (.lreturn, 1) := by decide +kernel
theorem dX7_rest_0 : decode cX7_rest 0 = .ok (.aload_n 0, 1) := by decide +kernel
theorem dX7_rest_1 : decode cX7_rest 1 = .ok (.iload_n 3, 1) := by decide +kernel
theorem dX7_rest_2 : decode cX7_rest 2 = .ok (.invokevirtual 90, 3) := by decide +kernel
theorem dX7_rest_5 : decode cX7_rest 5 = .ok (.ifCond .ne 7, 3) := by decide +kernel
theorem dX7_rest_8 : decode cX7_rest 8 = .ok (.ldc2_w 158, 3) := by decide +kernel
theorem dX7_rest_11 : decode cX7_rest 11 = .ok (.lreturn, 1) := by decide +kernel
theorem dX7_rest_12 : decode cX7_rest 12 = .ok (.iload_n 1, 1) := by decide +kernel
theorem dX7_rest_13 : decode cX7_rest 13 = .ok (.invokestatic 135, 3) := by decide +kernel
theorem dX7_rest_16 : decode cX7_rest 16 = .ok (.ifCond .eq 24, 3) := by decide +kernel
theorem dX7_rest_19 : decode cX7_rest 19 = .ok (.iload_n 2, 1) := by decide +kernel
theorem dX7_rest_20 : decode cX7_rest 20 = .ok (.i2l, 1) := by decide +kernel
theorem dX7_rest_21 : decode cX7_rest 21 = .ok (.lconst 0, 1) := by decide +kernel
theorem dX7_rest_22 : decode cX7_rest 22 = .ok (.lconst 1, 1) := by decide +kernel
theorem dX7_rest_23 : decode cX7_rest 23 = .ok (.invokestatic 77, 3) := by decide +kernel
theorem dX7_rest_26 : decode cX7_rest 26 = .ok (.ifCond .eq 14, 3) := by decide +kernel
theorem dX7_rest_29 : decode cX7_rest 29 = .ok (.iload 4, 2) := by decide +kernel
theorem dX7_rest_31 : decode cX7_rest 31 = .ok (.i2l, 1) := by decide +kernel
theorem dX7_rest_32 : decode cX7_rest 32 = .ok (.lconst 0, 1) := by decide +kernel
theorem dX7_rest_33 : decode cX7_rest 33 = .ok (.lconst 1, 1) := by decide +kernel
theorem dX7_rest_34 : decode cX7_rest 34 = .ok (.invokestatic 77, 3) := by decide +kernel
theorem dX7_rest_37 : decode cX7_rest 37 = .ok (.ifCond .ne 7, 3) := by decide +kernel
theorem dX7_rest_40 : decode cX7_rest 40 = .ok (.ldc2_w 138, 3) := by decide +kernel
theorem dX7_rest_43 : decode cX7_rest 43 = .ok (.lreturn, 1) := by decide +kernel
theorem dX7_rest_44 : decode cX7_rest 44 = .ok (.aload_n 0, 1) := by decide +kernel
theorem dX7_rest_45 : decode cX7_rest 45 = .ok (.iload_n 1, 1) := by decide +kernel
theorem dX7_rest_46 : decode cX7_rest 46 = .ok (.iload_n 2, 1) := by decide +kernel
theorem dX7_rest_47 : decode cX7_rest 47 = .ok (.aload_n 0, 1) := by decide +kernel
theorem dX7_rest_48 : decode cX7_rest 48 = .ok (.invokevirtual 107, 3) := by decide +kernel
theorem dX7_rest_51 : decode cX7_rest 51 = .ok (.invokevirtual 148, 3) := by decide +kernel
theorem dX7_rest_54 : decode cX7_rest 54 = .ok (.aload_n 0, 1) := by decide +kernel
theorem dX7_rest_55 : decode cX7_rest 55 = .ok (.getfield 131, 3) := by decide +kernel
theorem dX7_rest_58 : decode cX7_rest 58 = .ok (.lconst 0, 1) := by decide +kernel
theorem dX7_rest_59 : decode cX7_rest 59 = .ok (.lcmp, 1) := by decide +kernel
theorem dX7_rest_60 : decode cX7_rest 60 = .ok (.ifCond .eq 12, 3) := by decide +kernel
theorem dX7_rest_63 : decode cX7_rest 63 = .ok (.aload_n 0, 1) := by decide +kernel
theorem dX7_rest_64 : decode cX7_rest 64 = .ok (.getfield 16, 3) := by decide +kernel
theorem dX7_rest_67 : decode cX7_rest 67 = .ok (.iload_n 3, 1) := by decide +kernel
theorem dX7_rest_68 : decode cX7_rest 68 = .ok (.baload, 1) := by decide +kernel
theorem dX7_rest_69 : decode cX7_rest 69 = .ok (.ifCond .eq 9, 3) := by decide +kernel
theorem dX7_rest_72 : decode cX7_rest 72 = .ok (.ldc2_w 152, 3) := by decide +kernel
theorem dX7_rest_75 : decode cX7_rest 75 = .ok (.goto 19, 3) := by decide +kernel
theorem dX7_rest_78 : decode cX7_rest 78 = .ok (.aload_n 0, 1) := by decide +kernel
theorem dX7_rest_79 : decode cX7_rest 79 = .ok (.iload_n 1, 1) := by decide +kernel
theorem dX7_rest_80 : decode cX7_rest 80 = .ok (.iload_n 2, 1) := by decide +kernel
theorem dX7_rest_81 : decode cX7_rest 81 = .ok (.iload_n 3, 1) := by decide +kernel
theorem dX7_rest_82 : decode cX7_rest 82 = .ok (.invokevirtual 160, 3) := by decide +kernel
theorem dX7_rest_85 : decode cX7_rest 85 = .ok (.aload_n 0, 1) := by decide +kernel
theorem dX7_rest_86 : decode cX7_rest 86 = .ok (.getfield 131, 3) := by decide +kernel
theorem dX7_rest_89 : decode cX7_rest 89 = .ok (.iload 4, 2) := by decide +kernel
theorem dX7_rest_91 : decode cX7_rest 91 = .ok (.invokestatic 154, 3) := by decide +kernel
theorem dX7_rest_94 : decode cX7_rest 94 = .ok (.lreturn, 1) := by decide +kernel
theorem dX7_spread_0 : decode cX7_spread 0 = .ok (.iload_n 1, 1) := by decide +kernel
theorem dX7_spread_1 : decode cX7_spread 1 = .ok (.invokestatic 135, 3) := by decide +kernel
theorem dX7_spread_4 : decode cX7_spread 4 = .ok (.ifCond .eq 23, 3) := by decide +kernel
theorem dX7_spread_7 : decode cX7_spread 7 = .ok (.iload_n 2, 1) := by decide +kernel
theorem dX7_spread_8 : decode cX7_spread 8 = .ok (.i2l, 1) := by decide +kernel
theorem dX7_spread_9 : decode cX7_spread 9 = .ok (.lconst 0, 1) := by decide +kernel
theorem dX7_spread_10 : decode cX7_spread 10 = .ok (.lconst 1, 1) := by decide +kernel
theorem dX7_spread_11 : decode cX7_spread 11 = .ok (.invokestatic 77, 3) := by decide +kernel
theorem dX7_spread_14 : decode cX7_spread 14 = .ok (.ifCond .eq 13, 3) := by decide +kernel
theorem dX7_spread_17 : decode cX7_spread 17 = .ok (.iload_n 3, 1) := by decide +kernel
theorem dX7_spread_18 : decode cX7_spread 18 = .ok (.i2l, 1) := by decide +kernel
theorem dX7_spread_19 : decode cX7_spread 19 = .ok (.lconst 0, 1) := by decide +kernel
theorem dX7_spread_20 : decode cX7_spread 20 = .ok (.lconst 1, 1) := by decide +kernel
theorem dX7_spread_21 : decode cX7_spread 21 = .ok (.invokestatic 77, 3) := by decide +kernel
theorem dX7_spread_24 : decode cX7_spread 24 = .ok (.ifCond .ne 7, 3) := by decide +kernel
theorem dX7_spread_27 : decode cX7_spread 27 = .ok (.ldc2_w 138, 3) := by decide +kernel
theorem dX7_spread_30 : decode cX7_spread 30 = .ok (.lreturn, 1) := by decide +kernel
theorem dX7_spread_31 : decode cX7_spread 31 = .ok (.aload_n 0, 1) := by decide +kernel
theorem dX7_spread_32 : decode cX7_spread 32 = .ok (.iload_n 1, 1) := by decide +kernel
theorem dX7_spread_33 : decode cX7_spread 33 = .ok (.iload_n 2, 1) := by decide +kernel
theorem dX7_spread_34 : decode cX7_spread 34 = .ok (.aload_n 0, 1) := by decide +kernel
theorem dX7_spread_35 : decode cX7_spread 35 = .ok (.invokevirtual 107, 3) := by decide +kernel
theorem dX7_spread_38 : decode cX7_spread 38 = .ok (.invokevirtual 148, 3) := by decide +kernel
theorem dX7_spread_41 : decode cX7_spread 41 = .ok (.aload_n 0, 1) := by decide +kernel
theorem dX7_spread_42 : decode cX7_spread 42 = .ok (.getfield 131, 3) := by decide +kernel
theorem dX7_spread_45 : decode cX7_spread 45 = .ok (.lconst 0, 1) := by decide +kernel
theorem dX7_spread_46 : decode cX7_spread 46 = .ok (.lcmp, 1) := by decide +kernel
theorem dX7_spread_47 : decode cX7_spread 47 = .ok (.ifCond .ne 7, 3) := by decide +kernel
theorem dX7_spread_50 : decode cX7_spread 50 = .ok (.ldc2_w 152, 3) := by decide +kernel
theorem dX7_spread_53 : decode cX7_spread 53 = .ok (.lreturn, 1) := by decide +kernel
theorem dX7_spread_54 : decode cX7_spread 54 = .ok (.lconst 0, 1) := by decide +kernel
theorem dX7_spread_55 : decode cX7_spread 55 = .ok (.lstore 4, 2) := by decide +kernel
theorem dX7_spread_57 : decode cX7_spread 57 = .ok (.iconst 0, 1) := by decide +kernel
theorem dX7_spread_58 : decode cX7_spread 58 = .ok (.istore 6, 2) := by decide +kernel
theorem dX7_spread_60 : decode cX7_spread 60 = .ok (.iload 6, 2) := by decide +kernel
theorem dX7_spread_62 : decode cX7_spread 62 = .ok (.aload_n 0, 1) := by decide +kernel
theorem dX7_spread_63 : decode cX7_spread 63 = .ok (.getfield 86, 3) := by decide +kernel
theorem dX7_spread_66 : decode cX7_spread 66 = .ok (.if_icmp .ge 52, 3) := by decide +kernel
theorem dX7_spread_69 : decode cX7_spread 69 = .ok (.lload 4, 2) := by decide +kernel
theorem dX7_spread_71 : decode cX7_spread 71 = .ok (.aload_n 0, 1) := by decide +kernel
theorem dX7_spread_72 : decode cX7_spread 72 = .ok (.iload 6, 2) := by decide +kernel
theorem dX7_spread_74 : decode cX7_spread 74 = .ok (.invokevirtual 101, 3) := by decide +kernel
theorem dX7_spread_77 : decode cX7_spread 77 = .ok (.ifCond .eq 31, 3) := by decide +kernel
theorem dX7_spread_80 : decode cX7_spread 80 = .ok (.aload_n 0, 1) := by decide +kernel
theorem dX7_spread_81 : decode cX7_spread 81 = .ok (.getfield 13, 3) := by decide +kernel
theorem dX7_spread_84 : decode cX7_spread 84 = .ok (.iconst 2, 1) := by decide +kernel
theorem dX7_spread_85 : decode cX7_spread 85 = .ok (.iload 6, 2) := by decide +kernel
theorem dX7_spread_87 : decode cX7_spread 87 = .ok (.imul, 1) := by decide +kernel
theorem dX7_spread_88 : decode cX7_spread 88 = .ok (.iload_n 2, 1) := by decide +kernel
theorem dX7_spread_89 : decode cX7_spread 89 = .ok (.iadd, 1) := by decide +kernel
theorem dX7_spread_90 : decode cX7_spread 90 = .ok (.iaload, 1) := by decide +kernel
theorem dX7_spread_91 : decode cX7_spread 91 = .ok (.i2l, 1) := by decide +kernel
theorem dX7_spread_92 : decode cX7_spread 92 = .ok (.aload_n 0, 1) := by decide +kernel
theorem dX7_spread_93 : decode cX7_spread 93 = .ok (.getfield 13, 3) := by decide +kernel
theorem dX7_spread_96 : decode cX7_spread 96 = .ok (.iconst 2, 1) := by decide +kernel
theorem dX7_spread_97 : decode cX7_spread 97 = .ok (.iload 6, 2) := by decide +kernel
theorem dX7_spread_99 : decode cX7_spread 99 = .ok (.imul, 1) := by decide +kernel
theorem dX7_spread_100 : decode cX7_spread 100 = .ok (.iload_n 2, 1) := by decide +kernel
theorem dX7_spread_101 : decode cX7_spread 101 = .ok (.iadd, 1) := by decide +kernel
theorem dX7_spread_102 : decode cX7_spread 102 = .ok (.iaload, 1) := by decide +kernel
theorem dX7_spread_103 : decode cX7_spread 103 = .ok (.i2l, 1) := by decide +kernel
theorem dX7_spread_104 : decode cX7_spread 104 = .ok (.lmul, 1) := by decide +kernel
theorem dX7_spread_105 : decode cX7_spread 105 = .ok (.goto 4, 3) := by decide +kernel
theorem dX7_spread_108 : decode cX7_spread 108 = .ok (.lconst 0, 1) := by decide +kernel
theorem dX7_spread_109 : decode cX7_spread 109 = .ok (.ladd, 1) := by decide +kernel
theorem dX7_spread_110 : decode cX7_spread 110 = .ok (.lstore 4, 2) := by decide +kernel
theorem dX7_spread_112 : decode cX7_spread 112 = .ok (.iinc 6 1, 3) := by decide +kernel
theorem dX7_spread_115 : decode cX7_spread 115 = .ok (.goto (-55), 3) := by decide +kernel
theorem dX7_spread_118 : decode cX7_spread 118 = .ok (.lload 4, 2) := by decide +kernel
theorem dX7_spread_120 : decode cX7_spread 120 = .ok (.aload_n 0, 1) := by decide +kernel
theorem dX7_spread_121 : decode cX7_spread 121 = .ok (.getfield 131, 3) := by decide +kernel
theorem dX7_spread_124 : decode cX7_spread 124 = .ok (.lmul, 1) := by decide +kernel
theorem dX7_spread_125 : decode cX7_spread 125 = .ok (.lstore 6, 2) := by decide +kernel
theorem dX7_spread_127 : decode cX7_spread 127 = .ok (.iconst 0, 1) := by decide +kernel
theorem dX7_spread_128 : decode cX7_spread 128 = .ok (.istore 8, 2) := by decide +kernel
theorem dX7_spread_130 : decode cX7_spread 130 = .ok (.iload 8, 2) := by decide +kernel
theorem dX7_spread_132 : decode cX7_spread 132 = .ok (.iconst 3, 1) := by decide +kernel
theorem dX7_spread_133 : decode cX7_spread 133 = .ok (.if_icmp .ge 29, 3) := by decide +kernel
theorem dX7_spread_136 : decode cX7_spread 136 = .ok (.lload 6, 2) := by decide +kernel
theorem dX7_spread_138 : decode cX7_spread 138 = .ok (.aload_n 0, 1) := by decide +kernel
theorem dX7_spread_139 : decode cX7_spread 139 = .ok (.getfield 61, 3) := by decide +kernel
theorem dX7_spread_142 : decode cX7_spread 142 = .ok (.iload 8, 2) := by decide +kernel
theorem dX7_spread_144 : decode cX7_spread 144 = .ok (.laload, 1) := by decide +kernel
theorem dX7_spread_145 : decode cX7_spread 145 = .ok (.aload_n 0, 1) := by decide +kernel
theorem dX7_spread_146 : decode cX7_spread 146 = .ok (.getfield 58, 3) := by decide +kernel
theorem dX7_spread_149 : decode cX7_spread 149 = .ok (.iload 8, 2) := by decide +kernel
theorem dX7_spread_151 : decode cX7_spread 151 = .ok (.laload, 1) := by decide +kernel
theorem dX7_spread_152 : decode cX7_spread 152 = .ok (.lmul, 1) := by decide +kernel
theorem dX7_spread_153 : decode cX7_spread 153 = .ok (.lsub, 1) := by decide +kernel
theorem dX7_spread_154 : decode cX7_spread 154 = .ok (.lstore 6, 2) := by decide +kernel
theorem dX7_spread_156 : decode cX7_spread 156 = .ok (.iinc 8 1, 3) := by decide +kernel
theorem dX7_spread_159 : decode cX7_spread 159 = .ok (.goto (-29), 3) := by decide +kernel
theorem dX7_spread_162 : decode cX7_spread 162 = .ok (.lload 6, 2) := by decide +kernel
theorem dX7_spread_164 : decode cX7_spread 164 = .ok (.aload_n 0, 1) := by decide +kernel
theorem dX7_spread_165 : decode cX7_spread 165 = .ok (.getfield 131, 3) := by decide +kernel
theorem dX7_spread_168 : decode cX7_spread 168 = .ok (.iload_n 3, 1) := by decide +kernel
theorem dX7_spread_169 : decode cX7_spread 169 = .ok (.invokestatic 154, 3) := by decide +kernel
theorem dX7_spread_172 : decode cX7_spread 172 = .ok (.lreturn, 1) := by decide +kernel
theorem dX7_findWorst_0 : decode cX7_findWorst 0 = .ok (.iconst 0, 1) := by decide +kernel
theorem dX7_findWorst_1 : decode cX7_findWorst 1 = .ok (.istore_n 3, 1) := by decide +kernel
theorem dX7_findWorst_2 : decode cX7_findWorst 2 = .ok (.iload_n 3, 1) := by decide +kernel
theorem dX7_findWorst_3 : decode cX7_findWorst 3 = .ok (.aload_n 0, 1) := by decide +kernel
theorem dX7_findWorst_4 : decode cX7_findWorst 4 = .ok (.getfield 86, 3) := by decide +kernel
theorem dX7_findWorst_7 : decode cX7_findWorst 7 = .ok (.if_icmp .ge 18, 3) := by decide +kernel
theorem dX7_findWorst_10 : decode cX7_findWorst 10 = .ok (.aload_n 0, 1) := by decide +kernel
theorem dX7_findWorst_11 : decode cX7_findWorst 11 = .ok (.getfield 64, 3) := by decide +kernel
theorem dX7_findWorst_14 : decode cX7_findWorst 14 = .ok (.iload_n 3, 1) := by decide +kernel
theorem dX7_findWorst_15 : decode cX7_findWorst 15 = .ok (.ldc2_w 163, 3) := by decide +kernel
theorem dX7_findWorst_18 : decode cX7_findWorst 18 = .ok (.lastore, 1) := by decide +kernel
theorem dX7_findWorst_19 : decode cX7_findWorst 19 = .ok (.iinc 3 1, 3) := by decide +kernel
theorem dX7_findWorst_22 : decode cX7_findWorst 22 = .ok (.goto (-20), 3) := by decide +kernel
theorem dX7_findWorst_25 : decode cX7_findWorst 25 = .ok (.iconst 0, 1) := by decide +kernel
theorem dX7_findWorst_26 : decode cX7_findWorst 26 = .ok (.istore_n 3, 1) := by decide +kernel
theorem dX7_findWorst_27 : decode cX7_findWorst 27 = .ok (.iload_n 3, 1) := by decide +kernel
theorem dX7_findWorst_28 : decode cX7_findWorst 28 = .ok (.iconst 2, 1) := by decide +kernel
theorem dX7_findWorst_29 : decode cX7_findWorst 29 = .ok (.if_icmp .ge 95, 3) := by decide +kernel
theorem dX7_findWorst_32 : decode cX7_findWorst 32 = .ok (.aload_n 0, 1) := by decide +kernel
theorem dX7_findWorst_33 : decode cX7_findWorst 33 = .ok (.iload_n 1, 1) := by decide +kernel
theorem dX7_findWorst_34 : decode cX7_findWorst 34 = .ok (.iload_n 3, 1) := by decide +kernel
theorem dX7_findWorst_35 : decode cX7_findWorst 35 = .ok (.iload_n 2, 1) := by decide +kernel
theorem dX7_findWorst_36 : decode cX7_findWorst 36 = .ok (.invokevirtual 148, 3) := by decide +kernel
theorem dX7_findWorst_39 : decode cX7_findWorst 39 = .ok (.iconst 0, 1) := by decide +kernel
theorem dX7_findWorst_40 : decode cX7_findWorst 40 = .ok (.istore 4, 2) := by decide +kernel
theorem dX7_findWorst_42 : decode cX7_findWorst 42 = .ok (.iload 4, 2) := by decide +kernel
theorem dX7_findWorst_44 : decode cX7_findWorst 44 = .ok (.aload_n 0, 1) := by decide +kernel
theorem dX7_findWorst_45 : decode cX7_findWorst 45 = .ok (.getfield 86, 3) := by decide +kernel
theorem dX7_findWorst_48 : decode cX7_findWorst 48 = .ok (.if_icmp .ge 70, 3) := by decide +kernel
theorem dX7_findWorst_51 : decode cX7_findWorst 51 = .ok (.iload_n 2, 1) := by decide +kernel
theorem dX7_findWorst_52 : decode cX7_findWorst 52 = .ok (.iload 4, 2) := by decide +kernel
theorem dX7_findWorst_54 : decode cX7_findWorst 54 = .ok (.ishr, 1) := by decide +kernel
theorem dX7_findWorst_55 : decode cX7_findWorst 55 = .ok (.iconst 1, 1) := by decide +kernel
theorem dX7_findWorst_56 : decode cX7_findWorst 56 = .ok (.iand, 1) := by decide +kernel
theorem dX7_findWorst_57 : decode cX7_findWorst 57 = .ok (.iconst 1, 1) := by decide +kernel
theorem dX7_findWorst_58 : decode cX7_findWorst 58 = .ok (.if_icmp .ne 17, 3) := by decide +kernel
theorem dX7_findWorst_61 : decode cX7_findWorst 61 = .ok (.aload_n 0, 1) := by decide +kernel
theorem dX7_findWorst_62 : decode cX7_findWorst 62 = .ok (.iload_n 1, 1) := by decide +kernel
theorem dX7_findWorst_63 : decode cX7_findWorst 63 = .ok (.iload_n 3, 1) := by decide +kernel
theorem dX7_findWorst_64 : decode cX7_findWorst 64 = .ok (.iload 4, 2) := by decide +kernel
theorem dX7_findWorst_66 : decode cX7_findWorst 66 = .ok (.invokevirtual 160, 3) := by decide +kernel
theorem dX7_findWorst_69 : decode cX7_findWorst 69 = .ok (.invokestatic 144, 3) := by decide +kernel
theorem dX7_findWorst_72 : decode cX7_findWorst 72 = .ok (.goto 6, 3) := by decide +kernel
theorem dX7_findWorst_75 : decode cX7_findWorst 75 = .ok (.ldc2_w 163, 3) := by decide +kernel
theorem dX7_findWorst_78 : decode cX7_findWorst 78 = .ok (.lstore 5, 2) := by decide +kernel
theorem dX7_findWorst_80 : decode cX7_findWorst 80 = .ok (.aload_n 0, 1) := by decide +kernel
theorem dX7_findWorst_81 : decode cX7_findWorst 81 = .ok (.getfield 64, 3) := by decide +kernel
theorem dX7_findWorst_84 : decode cX7_findWorst 84 = .ok (.iload 4, 2) := by decide +kernel
theorem dX7_findWorst_86 : decode cX7_findWorst 86 = .ok (.lload 5, 2) := by decide +kernel
theorem dX7_findWorst_88 : decode cX7_findWorst 88 = .ok (.aload_n 0, 1) := by decide +kernel
theorem dX7_findWorst_89 : decode cX7_findWorst 89 = .ok (.getfield 64, 3) := by decide +kernel
theorem dX7_findWorst_92 : decode cX7_findWorst 92 = .ok (.iload 4, 2) := by decide +kernel
theorem dX7_findWorst_94 : decode cX7_findWorst 94 = .ok (.laload, 1) := by decide +kernel
theorem dX7_findWorst_95 : decode cX7_findWorst 95 = .ok (.lcmp, 1) := by decide +kernel
theorem dX7_findWorst_96 : decode cX7_findWorst 96 = .ok (.ifCond .le 8, 3) := by decide +kernel
theorem dX7_findWorst_99 : decode cX7_findWorst 99 = .ok (.lload 5, 2) := by decide +kernel
theorem dX7_findWorst_101 : decode cX7_findWorst 101 = .ok (.goto 10, 3) := by decide +kernel
theorem dX7_findWorst_104 : decode cX7_findWorst 104 = .ok (.aload_n 0, 1) := by decide +kernel
theorem dX7_findWorst_105 : decode cX7_findWorst 105 = .ok (.getfield 64, 3) := by decide +kernel
theorem dX7_findWorst_108 : decode cX7_findWorst 108 = .ok (.iload 4, 2) := by decide +kernel
theorem dX7_findWorst_110 : decode cX7_findWorst 110 = .ok (.laload, 1) := by decide +kernel
theorem dX7_findWorst_111 : decode cX7_findWorst 111 = .ok (.lastore, 1) := by decide +kernel
theorem dX7_findWorst_112 : decode cX7_findWorst 112 = .ok (.iinc 4 1, 3) := by decide +kernel
theorem dX7_findWorst_115 : decode cX7_findWorst 115 = .ok (.goto (-73), 3) := by decide +kernel
theorem dX7_findWorst_118 : decode cX7_findWorst 118 = .ok (.iinc 3 1, 3) := by decide +kernel
theorem dX7_findWorst_121 : decode cX7_findWorst 121 = .ok (.goto (-94), 3) := by decide +kernel
theorem dX7_findWorst_124 : decode cX7_findWorst 124 = .ok (.return_, 1) := by decide +kernel
theorem dX7_judge_0 : decode cX7_judge 0 = .ok (.iload_n 1, 1) := by decide +kernel
theorem dX7_judge_1 : decode cX7_judge 1 = .ok (.invokestatic 135, 3) := by decide +kernel
theorem dX7_judge_4 : decode cX7_judge 4 = .ok (.ifCond .eq 15, 3) := by decide +kernel
theorem dX7_judge_7 : decode cX7_judge 7 = .ok (.iload_n 2, 1) := by decide +kernel
theorem dX7_judge_8 : decode cX7_judge 8 = .ok (.i2l, 1) := by decide +kernel
theorem dX7_judge_9 : decode cX7_judge 9 = .ok (.lconst 1, 1) := by decide +kernel
theorem dX7_judge_10 : decode cX7_judge 10 = .ok (.ldc2_w 97, 3) := by decide +kernel
theorem dX7_judge_13 : decode cX7_judge 13 = .ok (.invokestatic 77, 3) := by decide +kernel
theorem dX7_judge_16 : decode cX7_judge 16 = .ok (.ifCond .ne 6, 3) := by decide +kernel
theorem dX7_judge_19 : decode cX7_judge 19 = .ok (.ldc 85, 2) := by decide +kernel
theorem dX7_judge_21 : decode cX7_judge 21 = .ok (.ireturn, 1) := by decide +kernel
theorem dX7_judge_22 : decode cX7_judge 22 = .ok (.iconst 0, 1) := by decide +kernel
theorem dX7_judge_23 : decode cX7_judge 23 = .ok (.istore_n 3, 1) := by decide +kernel
theorem dX7_judge_24 : decode cX7_judge 24 = .ok (.iconst 0, 1) := by decide +kernel
theorem dX7_judge_25 : decode cX7_judge 25 = .ok (.istore 4, 2) := by decide +kernel
theorem dX7_judge_27 : decode cX7_judge 27 = .ok (.iload 4, 2) := by decide +kernel
theorem dX7_judge_29 : decode cX7_judge 29 = .ok (.aload_n 0, 1) := by decide +kernel
theorem dX7_judge_30 : decode cX7_judge 30 = .ok (.getfield 86, 3) := by decide +kernel
theorem dX7_judge_33 : decode cX7_judge 33 = .ok (.if_icmp .ge 30, 3) := by decide +kernel
theorem dX7_judge_36 : decode cX7_judge 36 = .ok (.iload_n 3, 1) := by decide +kernel
theorem dX7_judge_37 : decode cX7_judge 37 = .ok (.aload_n 0, 1) := by decide +kernel
theorem dX7_judge_38 : decode cX7_judge 38 = .ok (.getfield 16, 3) := by decide +kernel
theorem dX7_judge_41 : decode cX7_judge 41 = .ok (.iload 4, 2) := by decide +kernel
theorem dX7_judge_43 : decode cX7_judge 43 = .ok (.baload, 1) := by decide +kernel
theorem dX7_judge_44 : decode cX7_judge 44 = .ok (.ifCond .eq 7, 3) := by decide +kernel
theorem dX7_judge_47 : decode cX7_judge 47 = .ok (.iconst 0, 1) := by decide +kernel
theorem dX7_judge_48 : decode cX7_judge 48 = .ok (.goto 7, 3) := by decide +kernel
theorem dX7_judge_51 : decode cX7_judge 51 = .ok (.iconst 1, 1) := by decide +kernel
theorem dX7_judge_52 : decode cX7_judge 52 = .ok (.iload 4, 2) := by decide +kernel
theorem dX7_judge_54 : decode cX7_judge 54 = .ok (.ishl, 1) := by decide +kernel
theorem dX7_judge_55 : decode cX7_judge 55 = .ok (.ior, 1) := by decide +kernel
theorem dX7_judge_56 : decode cX7_judge 56 = .ok (.istore_n 3, 1) := by decide +kernel
theorem dX7_judge_57 : decode cX7_judge 57 = .ok (.iinc 4 1, 3) := by decide +kernel
theorem dX7_judge_60 : decode cX7_judge 60 = .ok (.goto (-33), 3) := by decide +kernel
theorem dX7_judge_63 : decode cX7_judge 63 = .ok (.aload_n 0, 1) := by decide +kernel
theorem dX7_judge_64 : decode cX7_judge 64 = .ok (.iload_n 1, 1) := by decide +kernel
theorem dX7_judge_65 : decode cX7_judge 65 = .ok (.iload_n 3, 1) := by decide +kernel
theorem dX7_judge_66 : decode cX7_judge 66 = .ok (.invokevirtual 140, 3) := by decide +kernel
theorem dX7_judge_69 : decode cX7_judge 69 = .ok (.aload_n 0, 1) := by decide +kernel
theorem dX7_judge_70 : decode cX7_judge 70 = .ok (.getfield 131, 3) := by decide +kernel
theorem dX7_judge_73 : decode cX7_judge 73 = .ok (.lconst 0, 1) := by decide +kernel
theorem dX7_judge_74 : decode cX7_judge 74 = .ok (.lcmp, 1) := by decide +kernel
theorem dX7_judge_75 : decode cX7_judge 75 = .ok (.ifCond .ne 6, 3) := by decide +kernel
theorem dX7_judge_78 : decode cX7_judge 78 = .ok (.ldc 165, 2) := by decide +kernel
theorem dX7_judge_80 : decode cX7_judge 80 = .ok (.ireturn, 1) := by decide +kernel
theorem dX7_judge_81 : decode cX7_judge 81 = .ok (.iload_n 3, 1) := by decide +kernel
theorem dX7_judge_82 : decode cX7_judge 82 = .ok (.istore 4, 2) := by decide +kernel
theorem dX7_judge_84 : decode cX7_judge 84 = .ok (.iconst 1, 1) := by decide +kernel
theorem dX7_judge_85 : decode cX7_judge 85 = .ok (.istore 5, 2) := by decide +kernel
theorem dX7_judge_87 : decode cX7_judge 87 = .ok (.iload 5, 2) := by decide +kernel
theorem dX7_judge_89 : decode cX7_judge 89 = .ok (.ifCond .eq 147, 3) := by decide +kernel
theorem dX7_judge_92 : decode cX7_judge 92 = .ok (.aload_n 0, 1) := by decide +kernel
theorem dX7_judge_93 : decode cX7_judge 93 = .ok (.iload_n 1, 1) := by decide +kernel
theorem dX7_judge_94 : decode cX7_judge 94 = .ok (.iload_n 3, 1) := by decide +kernel
theorem dX7_judge_95 : decode cX7_judge 95 = .ok (.invokevirtual 166, 3) := by decide +kernel
theorem dX7_judge_98 : decode cX7_judge 98 = .ok (.iconst (-1), 1) := by decide +kernel
theorem dX7_judge_99 : decode cX7_judge 99 = .ok (.istore 6, 2) := by decide +kernel
theorem dX7_judge_101 : decode cX7_judge 101 = .ok (.iconst 0, 1) := by decide +kernel
theorem dX7_judge_102 : decode cX7_judge 102 = .ok (.istore 7, 2) := by decide +kernel
theorem dX7_judge_104 : decode cX7_judge 104 = .ok (.iload 7, 2) := by decide +kernel
theorem dX7_judge_106 : decode cX7_judge 106 = .ok (.aload_n 0, 1) := by decide +kernel
theorem dX7_judge_107 : decode cX7_judge 107 = .ok (.getfield 86, 3) := by decide +kernel
theorem dX7_judge_110 : decode cX7_judge 110 = .ok (.if_icmp .ge 59, 3) := by decide +kernel
theorem dX7_judge_113 : decode cX7_judge 113 = .ok (.aload_n 0, 1) := by decide +kernel
theorem dX7_judge_114 : decode cX7_judge 114 = .ok (.getfield 64, 3) := by decide +kernel
theorem dX7_judge_117 : decode cX7_judge 117 = .ok (.iload 7, 2) := by decide +kernel
theorem dX7_judge_119 : decode cX7_judge 119 = .ok (.laload, 1) := by decide +kernel
theorem dX7_judge_120 : decode cX7_judge 120 = .ok (.iload_n 2, 1) := by decide +kernel
theorem dX7_judge_121 : decode cX7_judge 121 = .ok (.i2l, 1) := by decide +kernel
theorem dX7_judge_122 : decode cX7_judge 122 = .ok (.aload_n 0, 1) := by decide +kernel
theorem dX7_judge_123 : decode cX7_judge 123 = .ok (.getfield 131, 3) := by decide +kernel
theorem dX7_judge_126 : decode cX7_judge 126 = .ok (.lmul, 1) := by decide +kernel
theorem dX7_judge_127 : decode cX7_judge 127 = .ok (.lcmp, 1) := by decide +kernel
theorem dX7_judge_128 : decode cX7_judge 128 = .ok (.ifCond .le 31, 3) := by decide +kernel
theorem dX7_judge_131 : decode cX7_judge 131 = .ok (.iload 6, 2) := by decide +kernel
theorem dX7_judge_133 : decode cX7_judge 133 = .ok (.ifCond .lt 21, 3) := by decide +kernel
theorem dX7_judge_136 : decode cX7_judge 136 = .ok (.aload_n 0, 1) := by decide +kernel
theorem dX7_judge_137 : decode cX7_judge 137 = .ok (.getfield 64, 3) := by decide +kernel
theorem dX7_judge_140 : decode cX7_judge 140 = .ok (.iload 7, 2) := by decide +kernel
theorem dX7_judge_142 : decode cX7_judge 142 = .ok (.laload, 1) := by decide +kernel
theorem dX7_judge_143 : decode cX7_judge 143 = .ok (.aload_n 0, 1) := by decide +kernel
theorem dX7_judge_144 : decode cX7_judge 144 = .ok (.getfield 64, 3) := by decide +kernel
theorem dX7_judge_147 : decode cX7_judge 147 = .ok (.iload 6, 2) := by decide +kernel
theorem dX7_judge_149 : decode cX7_judge 149 = .ok (.laload, 1) := by decide +kernel
theorem dX7_judge_150 : decode cX7_judge 150 = .ok (.lcmp, 1) := by decide +kernel
theorem dX7_judge_151 : decode cX7_judge 151 = .ok (.ifCond .le 8, 3) := by decide +kernel
theorem dX7_judge_154 : decode cX7_judge 154 = .ok (.iload 7, 2) := by decide +kernel
theorem dX7_judge_156 : decode cX7_judge 156 = .ok (.goto 5, 3) := by decide +kernel
theorem dX7_judge_159 : decode cX7_judge 159 = .ok (.iload 6, 2) := by decide +kernel
theorem dX7_judge_161 : decode cX7_judge 161 = .ok (.istore 6, 2) := by decide +kernel
theorem dX7_judge_163 : decode cX7_judge 163 = .ok (.iinc 7 1, 3) := by decide +kernel
theorem dX7_judge_166 : decode cX7_judge 166 = .ok (.goto (-62), 3) := by decide +kernel
theorem dX7_judge_169 : decode cX7_judge 169 = .ok (.iload 6, 2) := by decide +kernel
theorem dX7_judge_171 : decode cX7_judge 171 = .ok (.ifCond .lt 7, 3) := by decide +kernel
theorem dX7_judge_174 : decode cX7_judge 174 = .ok (.iconst 1, 1) := by decide +kernel
theorem dX7_judge_175 : decode cX7_judge 175 = .ok (.goto 4, 3) := by decide +kernel
theorem dX7_judge_178 : decode cX7_judge 178 = .ok (.iconst 0, 1) := by decide +kernel
theorem dX7_judge_179 : decode cX7_judge 179 = .ok (.istore 5, 2) := by decide +kernel
theorem dX7_judge_181 : decode cX7_judge 181 = .ok (.iload 5, 2) := by decide +kernel
theorem dX7_judge_183 : decode cX7_judge 183 = .ok (.ifCond .eq 50, 3) := by decide +kernel
theorem dX7_judge_186 : decode cX7_judge 186 = .ok (.aload_n 0, 1) := by decide +kernel
theorem dX7_judge_187 : decode cX7_judge 187 = .ok (.iload_n 1, 1) := by decide +kernel
theorem dX7_judge_188 : decode cX7_judge 188 = .ok (.iload_n 3, 1) := by decide +kernel
theorem dX7_judge_189 : decode cX7_judge 189 = .ok (.iconst 1, 1) := by decide +kernel
theorem dX7_judge_190 : decode cX7_judge 190 = .ok (.iload 6, 2) := by decide +kernel
theorem dX7_judge_192 : decode cX7_judge 192 = .ok (.ishl, 1) := by decide +kernel
theorem dX7_judge_193 : decode cX7_judge 193 = .ok (.iconst (-1), 1) := by decide +kernel
theorem dX7_judge_194 : decode cX7_judge 194 = .ok (.ixor, 1) := by decide +kernel
theorem dX7_judge_195 : decode cX7_judge 195 = .ok (.iand, 1) := by decide +kernel
theorem dX7_judge_196 : decode cX7_judge 196 = .ok (.invokevirtual 140, 3) := by decide +kernel
theorem dX7_judge_199 : decode cX7_judge 199 = .ok (.aload_n 0, 1) := by decide +kernel
theorem dX7_judge_200 : decode cX7_judge 200 = .ok (.getfield 131, 3) := by decide +kernel
theorem dX7_judge_203 : decode cX7_judge 203 = .ok (.lconst 0, 1) := by decide +kernel
theorem dX7_judge_204 : decode cX7_judge 204 = .ok (.lcmp, 1) := by decide +kernel
theorem dX7_judge_205 : decode cX7_judge 205 = .ok (.ifCond .eq 7, 3) := by decide +kernel
theorem dX7_judge_208 : decode cX7_judge 208 = .ok (.iconst 1, 1) := by decide +kernel
theorem dX7_judge_209 : decode cX7_judge 209 = .ok (.goto 4, 3) := by decide +kernel
theorem dX7_judge_212 : decode cX7_judge 212 = .ok (.iconst 0, 1) := by decide +kernel
theorem dX7_judge_213 : decode cX7_judge 213 = .ok (.istore 5, 2) := by decide +kernel
theorem dX7_judge_215 : decode cX7_judge 215 = .ok (.iload 5, 2) := by decide +kernel
theorem dX7_judge_217 : decode cX7_judge 217 = .ok (.ifCond .eq 14, 3) := by decide +kernel
theorem dX7_judge_220 : decode cX7_judge 220 = .ok (.iload_n 3, 1) := by decide +kernel
theorem dX7_judge_221 : decode cX7_judge 221 = .ok (.iconst 1, 1) := by decide +kernel
theorem dX7_judge_222 : decode cX7_judge 222 = .ok (.iload 6, 2) := by decide +kernel
theorem dX7_judge_224 : decode cX7_judge 224 = .ok (.ishl, 1) := by decide +kernel
theorem dX7_judge_225 : decode cX7_judge 225 = .ok (.iconst (-1), 1) := by decide +kernel
theorem dX7_judge_226 : decode cX7_judge 226 = .ok (.ixor, 1) := by decide +kernel
theorem dX7_judge_227 : decode cX7_judge 227 = .ok (.iand, 1) := by decide +kernel
theorem dX7_judge_228 : decode cX7_judge 228 = .ok (.goto 4, 3) := by decide +kernel
theorem dX7_judge_231 : decode cX7_judge 231 = .ok (.iload_n 3, 1) := by decide +kernel
theorem dX7_judge_232 : decode cX7_judge 232 = .ok (.istore_n 3, 1) := by decide +kernel
theorem dX7_judge_233 : decode cX7_judge 233 = .ok (.goto (-146), 3) := by decide +kernel
theorem dX7_judge_236 : decode cX7_judge 236 = .ok (.iconst 0, 1) := by decide +kernel
theorem dX7_judge_237 : decode cX7_judge 237 = .ok (.istore 6, 2) := by decide +kernel
theorem dX7_judge_239 : decode cX7_judge 239 = .ok (.iload 6, 2) := by decide +kernel
theorem dX7_judge_241 : decode cX7_judge 241 = .ok (.aload_n 0, 1) := by decide +kernel
theorem dX7_judge_242 : decode cX7_judge 242 = .ok (.getfield 86, 3) := by decide +kernel
theorem dX7_judge_245 : decode cX7_judge 245 = .ok (.if_icmp .ge 41, 3) := by decide +kernel
theorem dX7_judge_248 : decode cX7_judge 248 = .ok (.aload_n 0, 1) := by decide +kernel
theorem dX7_judge_249 : decode cX7_judge 249 = .ok (.getfield 20, 3) := by decide +kernel
theorem dX7_judge_252 : decode cX7_judge 252 = .ok (.iload 6, 2) := by decide +kernel
theorem dX7_judge_254 : decode cX7_judge 254 = .ok (.iload 4, 2) := by decide +kernel
theorem dX7_judge_256 : decode cX7_judge 256 = .ok (.iload 6, 2) := by decide +kernel
theorem dX7_judge_258 : decode cX7_judge 258 = .ok (.ishr, 1) := by decide +kernel
theorem dX7_judge_259 : decode cX7_judge 259 = .ok (.iconst 1, 1) := by decide +kernel
theorem dX7_judge_260 : decode cX7_judge 260 = .ok (.iand, 1) := by decide +kernel
theorem dX7_judge_261 : decode cX7_judge 261 = .ok (.iconst 1, 1) := by decide +kernel
theorem dX7_judge_262 : decode cX7_judge 262 = .ok (.if_icmp .ne 16, 3) := by decide +kernel
theorem dX7_judge_265 : decode cX7_judge 265 = .ok (.iload_n 3, 1) := by decide +kernel
theorem dX7_judge_266 : decode cX7_judge 266 = .ok (.iload 6, 2) := by decide +kernel
theorem dX7_judge_268 : decode cX7_judge 268 = .ok (.ishr, 1) := by decide +kernel
theorem dX7_judge_269 : decode cX7_judge 269 = .ok (.iconst 1, 1) := by decide +kernel
theorem dX7_judge_270 : decode cX7_judge 270 = .ok (.iand, 1) := by decide +kernel
theorem dX7_judge_271 : decode cX7_judge 271 = .ok (.ifCond .ne 7, 3) := by decide +kernel
theorem dX7_judge_274 : decode cX7_judge 274 = .ok (.iconst 1, 1) := by decide +kernel
theorem dX7_judge_275 : decode cX7_judge 275 = .ok (.goto 4, 3) := by decide +kernel
theorem dX7_judge_278 : decode cX7_judge 278 = .ok (.iconst 0, 1) := by decide +kernel
theorem dX7_judge_279 : decode cX7_judge 279 = .ok (.bastore, 1) := by decide +kernel
theorem dX7_judge_280 : decode cX7_judge 280 = .ok (.iinc 6 1, 3) := by decide +kernel
theorem dX7_judge_283 : decode cX7_judge 283 = .ok (.goto (-44), 3) := by decide +kernel
theorem dX7_judge_286 : decode cX7_judge 286 = .ok (.iload 4, 2) := by decide +kernel
theorem dX7_judge_288 : decode cX7_judge 288 = .ok (.iload_n 3, 1) := by decide +kernel
theorem dX7_judge_289 : decode cX7_judge 289 = .ok (.iconst (-1), 1) := by decide +kernel
theorem dX7_judge_290 : decode cX7_judge 290 = .ok (.ixor, 1) := by decide +kernel
theorem dX7_judge_291 : decode cX7_judge 291 = .ok (.iand, 1) := by decide +kernel
theorem dX7_judge_292 : decode cX7_judge 292 = .ok (.invokestatic 111, 3) := by decide +kernel
theorem dX7_judge_295 : decode cX7_judge 295 = .ok (.ireturn, 1) := by decide +kernel
theorem dX7_worstOf_0 : decode cX7_worstOf 0 = .ok (.lconst 0, 1) := by decide +kernel
theorem dX7_worstOf_1 : decode cX7_worstOf 1 = .ok (.lstore_n 2, 1) := by decide +kernel
theorem dX7_worstOf_2 : decode cX7_worstOf 2 = .ok (.iconst 0, 1) := by decide +kernel
theorem dX7_worstOf_3 : decode cX7_worstOf 3 = .ok (.istore 4, 2) := by decide +kernel
theorem dX7_worstOf_5 : decode cX7_worstOf 5 = .ok (.iload 4, 2) := by decide +kernel
theorem dX7_worstOf_7 : decode cX7_worstOf 7 = .ok (.aload_n 0, 1) := by decide +kernel
theorem dX7_worstOf_8 : decode cX7_worstOf 8 = .ok (.getfield 86, 3) := by decide +kernel
theorem dX7_worstOf_11 : decode cX7_worstOf 11 = .ok (.if_icmp .ge 104, 3) := by decide +kernel
theorem dX7_worstOf_14 : decode cX7_worstOf 14 = .ok (.lconst 0, 1) := by decide +kernel
theorem dX7_worstOf_15 : decode cX7_worstOf 15 = .ok (.lstore 5, 2) := by decide +kernel
theorem dX7_worstOf_17 : decode cX7_worstOf 17 = .ok (.iconst 0, 1) := by decide +kernel
theorem dX7_worstOf_18 : decode cX7_worstOf 18 = .ok (.istore 7, 2) := by decide +kernel
theorem dX7_worstOf_20 : decode cX7_worstOf 20 = .ok (.iload 7, 2) := by decide +kernel
theorem dX7_worstOf_22 : decode cX7_worstOf 22 = .ok (.bipush 9, 2) := by decide +kernel
theorem dX7_worstOf_24 : decode cX7_worstOf 24 = .ok (.if_icmp .ge 71, 3) := by decide +kernel
theorem dX7_worstOf_27 : decode cX7_worstOf 27 = .ok (.lload 5, 2) := by decide +kernel
theorem dX7_worstOf_29 : decode cX7_worstOf 29 = .ok (.iload 7, 2) := by decide +kernel
theorem dX7_worstOf_31 : decode cX7_worstOf 31 = .ok (.iconst 3, 1) := by decide +kernel
theorem dX7_worstOf_32 : decode cX7_worstOf 32 = .ok (.idiv, 1) := by decide +kernel
theorem dX7_worstOf_33 : decode cX7_worstOf 33 = .ok (.iload_n 1, 1) := by decide +kernel
theorem dX7_worstOf_34 : decode cX7_worstOf 34 = .ok (.invokestatic 120, 3) := by decide +kernel
theorem dX7_worstOf_37 : decode cX7_worstOf 37 = .ok (.if_icmp .ge 48, 3) := by decide +kernel
theorem dX7_worstOf_40 : decode cX7_worstOf 40 = .ok (.iload 7, 2) := by decide +kernel
theorem dX7_worstOf_42 : decode cX7_worstOf 42 = .ok (.iconst 3, 1) := by decide +kernel
theorem dX7_worstOf_43 : decode cX7_worstOf 43 = .ok (.irem, 1) := by decide +kernel
theorem dX7_worstOf_44 : decode cX7_worstOf 44 = .ok (.iload_n 1, 1) := by decide +kernel
theorem dX7_worstOf_45 : decode cX7_worstOf 45 = .ok (.invokestatic 120, 3) := by decide +kernel
theorem dX7_worstOf_48 : decode cX7_worstOf 48 = .ok (.if_icmp .ge 37, 3) := by decide +kernel
theorem dX7_worstOf_51 : decode cX7_worstOf 51 = .ok (.aload_n 0, 1) := by decide +kernel
theorem dX7_worstOf_52 : decode cX7_worstOf 52 = .ok (.iload_n 1, 1) := by decide +kernel
theorem dX7_worstOf_53 : decode cX7_worstOf 53 = .ok (.iload 4, 2) := by decide +kernel
theorem dX7_worstOf_55 : decode cX7_worstOf 55 = .ok (.iload 7, 2) := by decide +kernel
theorem dX7_worstOf_57 : decode cX7_worstOf 57 = .ok (.iconst 3, 1) := by decide +kernel
theorem dX7_worstOf_58 : decode cX7_worstOf 58 = .ok (.idiv, 1) := by decide +kernel
theorem dX7_worstOf_59 : decode cX7_worstOf 59 = .ok (.invokevirtual 123, 3) := by decide +kernel
theorem dX7_worstOf_62 : decode cX7_worstOf 62 = .ok (.aload_n 0, 1) := by decide +kernel
theorem dX7_worstOf_63 : decode cX7_worstOf 63 = .ok (.getfield 55, 3) := by decide +kernel
theorem dX7_worstOf_66 : decode cX7_worstOf 66 = .ok (.iload 7, 2) := by decide +kernel
theorem dX7_worstOf_68 : decode cX7_worstOf 68 = .ok (.laload, 1) := by decide +kernel
theorem dX7_worstOf_69 : decode cX7_worstOf 69 = .ok (.lmul, 1) := by decide +kernel
theorem dX7_worstOf_70 : decode cX7_worstOf 70 = .ok (.aload_n 0, 1) := by decide +kernel
theorem dX7_worstOf_71 : decode cX7_worstOf 71 = .ok (.iload_n 1, 1) := by decide +kernel
theorem dX7_worstOf_72 : decode cX7_worstOf 72 = .ok (.iload 4, 2) := by decide +kernel
theorem dX7_worstOf_74 : decode cX7_worstOf 74 = .ok (.iload 7, 2) := by decide +kernel
theorem dX7_worstOf_76 : decode cX7_worstOf 76 = .ok (.iconst 3, 1) := by decide +kernel
theorem dX7_worstOf_77 : decode cX7_worstOf 77 = .ok (.irem, 1) := by decide +kernel
theorem dX7_worstOf_78 : decode cX7_worstOf 78 = .ok (.invokevirtual 123, 3) := by decide +kernel
theorem dX7_worstOf_81 : decode cX7_worstOf 81 = .ok (.lmul, 1) := by decide +kernel
theorem dX7_worstOf_82 : decode cX7_worstOf 82 = .ok (.goto 4, 3) := by decide +kernel
theorem dX7_worstOf_85 : decode cX7_worstOf 85 = .ok (.lconst 0, 1) := by decide +kernel
theorem dX7_worstOf_86 : decode cX7_worstOf 86 = .ok (.ladd, 1) := by decide +kernel
theorem dX7_worstOf_87 : decode cX7_worstOf 87 = .ok (.lstore 5, 2) := by decide +kernel
theorem dX7_worstOf_89 : decode cX7_worstOf 89 = .ok (.iinc 7 1, 3) := by decide +kernel
theorem dX7_worstOf_92 : decode cX7_worstOf 92 = .ok (.goto (-72), 3) := by decide +kernel
theorem dX7_worstOf_95 : decode cX7_worstOf 95 = .ok (.lload 5, 2) := by decide +kernel
theorem dX7_worstOf_97 : decode cX7_worstOf 97 = .ok (.lload_n 2, 1) := by decide +kernel
theorem dX7_worstOf_98 : decode cX7_worstOf 98 = .ok (.lcmp, 1) := by decide +kernel
theorem dX7_worstOf_99 : decode cX7_worstOf 99 = .ok (.ifCond .le 8, 3) := by decide +kernel
theorem dX7_worstOf_102 : decode cX7_worstOf 102 = .ok (.lload 5, 2) := by decide +kernel
theorem dX7_worstOf_104 : decode cX7_worstOf 104 = .ok (.goto 4, 3) := by decide +kernel
theorem dX7_worstOf_107 : decode cX7_worstOf 107 = .ok (.lload_n 2, 1) := by decide +kernel
theorem dX7_worstOf_108 : decode cX7_worstOf 108 = .ok (.lstore_n 2, 1) := by decide +kernel
theorem dX7_worstOf_109 : decode cX7_worstOf 109 = .ok (.iinc 4 1, 3) := by decide +kernel
theorem dX7_worstOf_112 : decode cX7_worstOf 112 = .ok (.goto (-107), 3) := by decide +kernel
theorem dX7_worstOf_115 : decode cX7_worstOf 115 = .ok (.lload_n 2, 1) := by decide +kernel
theorem dX7_worstOf_116 : decode cX7_worstOf 116 = .ok (.lreturn, 1) := by decide +kernel
theorem dX7_plan_0 : decode cX7_plan 0 = .ok (.iload_n 1, 1) := by decide +kernel
theorem dX7_plan_1 : decode cX7_plan 1 = .ok (.i2l, 1) := by decide +kernel
theorem dX7_plan_2 : decode cX7_plan 2 = .ok (.lconst 1, 1) := by decide +kernel
theorem dX7_plan_3 : decode cX7_plan 3 = .ok (.ldc2_w 169, 3) := by decide +kernel
theorem dX7_plan_6 : decode cX7_plan 6 = .ok (.invokestatic 77, 3) := by decide +kernel
theorem dX7_plan_9 : decode cX7_plan 9 = .ok (.ifCond .eq 22, 3) := by decide +kernel
theorem dX7_plan_12 : decode cX7_plan 12 = .ok (.iload_n 2, 1) := by decide +kernel
theorem dX7_plan_13 : decode cX7_plan 13 = .ok (.invokestatic 135, 3) := by decide +kernel
theorem dX7_plan_16 : decode cX7_plan 16 = .ok (.ifCond .eq 15, 3) := by decide +kernel
theorem dX7_plan_19 : decode cX7_plan 19 = .ok (.iload_n 3, 1) := by decide +kernel
theorem dX7_plan_20 : decode cX7_plan 20 = .ok (.i2l, 1) := by decide +kernel
theorem dX7_plan_21 : decode cX7_plan 21 = .ok (.lconst 0, 1) := by decide +kernel
theorem dX7_plan_22 : decode cX7_plan 22 = .ok (.ldc2_w 118, 3) := by decide +kernel
theorem dX7_plan_25 : decode cX7_plan 25 = .ok (.invokestatic 77, 3) := by decide +kernel
theorem dX7_plan_28 : decode cX7_plan 28 = .ok (.ifCond .ne 7, 3) := by decide +kernel
theorem dX7_plan_31 : decode cX7_plan 31 = .ok (.ldc2_w 138, 3) := by decide +kernel
theorem dX7_plan_34 : decode cX7_plan 34 = .ok (.lreturn, 1) := by decide +kernel
theorem dX7_plan_35 : decode cX7_plan 35 = .ok (.iconst (-1), 1) := by decide +kernel
theorem dX7_plan_36 : decode cX7_plan 36 = .ok (.istore 4, 2) := by decide +kernel
theorem dX7_plan_38 : decode cX7_plan 38 = .ok (.lconst 0, 1) := by decide +kernel
theorem dX7_plan_39 : decode cX7_plan 39 = .ok (.lstore 5, 2) := by decide +kernel
theorem dX7_plan_41 : decode cX7_plan 41 = .ok (.lconst 1, 1) := by decide +kernel
theorem dX7_plan_42 : decode cX7_plan 42 = .ok (.lstore 7, 2) := by decide +kernel
theorem dX7_plan_44 : decode cX7_plan 44 = .ok (.iconst 0, 1) := by decide +kernel
theorem dX7_plan_45 : decode cX7_plan 45 = .ok (.istore 9, 2) := by decide +kernel
theorem dX7_plan_47 : decode cX7_plan 47 = .ok (.iload 9, 2) := by decide +kernel
theorem dX7_plan_49 : decode cX7_plan 49 = .ok (.iconst 1, 1) := by decide +kernel
theorem dX7_plan_50 : decode cX7_plan 50 = .ok (.aload_n 0, 1) := by decide +kernel
theorem dX7_plan_51 : decode cX7_plan 51 = .ok (.getfield 86, 3) := by decide +kernel
theorem dX7_plan_54 : decode cX7_plan 54 = .ok (.ishl, 1) := by decide +kernel
theorem dX7_plan_55 : decode cX7_plan 55 = .ok (.if_icmp .ge 99, 3) := by decide +kernel
theorem dX7_plan_58 : decode cX7_plan 58 = .ok (.iload 9, 2) := by decide +kernel
theorem dX7_plan_60 : decode cX7_plan 60 = .ok (.invokestatic 111, 3) := by decide +kernel
theorem dX7_plan_63 : decode cX7_plan 63 = .ok (.iload_n 1, 1) := by decide +kernel
theorem dX7_plan_64 : decode cX7_plan 64 = .ok (.if_icmp .ne 84, 3) := by decide +kernel
theorem dX7_plan_67 : decode cX7_plan 67 = .ok (.aload_n 0, 1) := by decide +kernel
theorem dX7_plan_68 : decode cX7_plan 68 = .ok (.iload_n 2, 1) := by decide +kernel
theorem dX7_plan_69 : decode cX7_plan 69 = .ok (.iload 9, 2) := by decide +kernel
theorem dX7_plan_71 : decode cX7_plan 71 = .ok (.invokevirtual 140, 3) := by decide +kernel
theorem dX7_plan_74 : decode cX7_plan 74 = .ok (.aload_n 0, 1) := by decide +kernel
theorem dX7_plan_75 : decode cX7_plan 75 = .ok (.getfield 131, 3) := by decide +kernel
theorem dX7_plan_78 : decode cX7_plan 78 = .ok (.lconst 0, 1) := by decide +kernel
theorem dX7_plan_79 : decode cX7_plan 79 = .ok (.lcmp, 1) := by decide +kernel
theorem dX7_plan_80 : decode cX7_plan 80 = .ok (.ifCond .eq 68, 3) := by decide +kernel
theorem dX7_plan_83 : decode cX7_plan 83 = .ok (.aload_n 0, 1) := by decide +kernel
theorem dX7_plan_84 : decode cX7_plan 84 = .ok (.iload_n 2, 1) := by decide +kernel
theorem dX7_plan_85 : decode cX7_plan 85 = .ok (.invokevirtual 171, 3) := by decide +kernel
theorem dX7_plan_88 : decode cX7_plan 88 = .ok (.lstore 10, 2) := by decide +kernel
theorem dX7_plan_90 : decode cX7_plan 90 = .ok (.lload 10, 2) := by decide +kernel
theorem dX7_plan_92 : decode cX7_plan 92 = .ok (.lload 7, 2) := by decide +kernel
theorem dX7_plan_94 : decode cX7_plan 94 = .ok (.lmul, 1) := by decide +kernel
theorem dX7_plan_95 : decode cX7_plan 95 = .ok (.lload 5, 2) := by decide +kernel
theorem dX7_plan_97 : decode cX7_plan 97 = .ok (.aload_n 0, 1) := by decide +kernel
theorem dX7_plan_98 : decode cX7_plan 98 = .ok (.getfield 131, 3) := by decide +kernel
theorem dX7_plan_101 : decode cX7_plan 101 = .ok (.lmul, 1) := by decide +kernel
theorem dX7_plan_102 : decode cX7_plan 102 = .ok (.lsub, 1) := by decide +kernel
theorem dX7_plan_103 : decode cX7_plan 103 = .ok (.lstore 12, 2) := by decide +kernel
theorem dX7_plan_105 : decode cX7_plan 105 = .ok (.iload 4, 2) := by decide +kernel
theorem dX7_plan_107 : decode cX7_plan 107 = .ok (.ifCond .lt 27, 3) := by decide +kernel
theorem dX7_plan_110 : decode cX7_plan 110 = .ok (.lload 12, 2) := by decide +kernel
theorem dX7_plan_112 : decode cX7_plan 112 = .ok (.lconst 0, 1) := by decide +kernel
theorem dX7_plan_113 : decode cX7_plan 113 = .ok (.lcmp, 1) := by decide +kernel
theorem dX7_plan_114 : decode cX7_plan 114 = .ok (.ifCond .lt 20, 3) := by decide +kernel
theorem dX7_plan_117 : decode cX7_plan 117 = .ok (.lload 12, 2) := by decide +kernel
theorem dX7_plan_119 : decode cX7_plan 119 = .ok (.lconst 0, 1) := by decide +kernel
theorem dX7_plan_120 : decode cX7_plan 120 = .ok (.lcmp, 1) := by decide +kernel
theorem dX7_plan_121 : decode cX7_plan 121 = .ok (.ifCond .ne 27, 3) := by decide +kernel
theorem dX7_plan_124 : decode cX7_plan 124 = .ok (.iload 9, 2) := by decide +kernel
theorem dX7_plan_126 : decode cX7_plan 126 = .ok (.iload 4, 2) := by decide +kernel
theorem dX7_plan_128 : decode cX7_plan 128 = .ok (.invokestatic 175, 3) := by decide +kernel
theorem dX7_plan_131 : decode cX7_plan 131 = .ok (.ifCond .eq 17, 3) := by decide +kernel
theorem dX7_plan_134 : decode cX7_plan 134 = .ok (.iload 9, 2) := by decide +kernel
theorem dX7_plan_136 : decode cX7_plan 136 = .ok (.istore 4, 2) := by decide +kernel
theorem dX7_plan_138 : decode cX7_plan 138 = .ok (.lload 10, 2) := by decide +kernel
theorem dX7_plan_140 : decode cX7_plan 140 = .ok (.lstore 5, 2) := by decide +kernel
theorem dX7_plan_142 : decode cX7_plan 142 = .ok (.aload_n 0, 1) := by decide +kernel
theorem dX7_plan_143 : decode cX7_plan 143 = .ok (.getfield 131, 3) := by decide +kernel
theorem dX7_plan_146 : decode cX7_plan 146 = .ok (.lstore 7, 2) := by decide +kernel
theorem dX7_plan_148 : decode cX7_plan 148 = .ok (.iinc 9 1, 3) := by decide +kernel
theorem dX7_plan_151 : decode cX7_plan 151 = .ok (.goto (-104), 3) := by decide +kernel
theorem dX7_plan_154 : decode cX7_plan 154 = .ok (.iload 4, 2) := by decide +kernel
theorem dX7_plan_156 : decode cX7_plan 156 = .ok (.ifCond .ge 9, 3) := by decide +kernel
theorem dX7_plan_159 : decode cX7_plan 159 = .ok (.ldc2_w 152, 3) := by decide +kernel
theorem dX7_plan_162 : decode cX7_plan 162 = .ok (.goto 23, 3) := by decide +kernel
theorem dX7_plan_165 : decode cX7_plan 165 = .ok (.iload_n 3, 1) := by decide +kernel
theorem dX7_plan_166 : decode cX7_plan 166 = .ok (.ifCond .ne 9, 3) := by decide +kernel
theorem dX7_plan_169 : decode cX7_plan 169 = .ok (.iload 4, 2) := by decide +kernel
theorem dX7_plan_171 : decode cX7_plan 171 = .ok (.i2l, 1) := by decide +kernel
theorem dX7_plan_172 : decode cX7_plan 172 = .ok (.goto 13, 3) := by decide +kernel
theorem dX7_plan_175 : decode cX7_plan 175 = .ok (.lload 5, 2) := by decide +kernel
theorem dX7_plan_177 : decode cX7_plan 177 = .ok (.lload 7, 2) := by decide +kernel
theorem dX7_plan_179 : decode cX7_plan 179 = .ok (.iload_n 3, 1) := by decide +kernel
theorem dX7_plan_180 : decode cX7_plan 180 = .ok (.iconst 1, 1) := by decide +kernel
theorem dX7_plan_181 : decode cX7_plan 181 = .ok (.isub, 1) := by decide +kernel
theorem dX7_plan_182 : decode cX7_plan 182 = .ok (.invokestatic 154, 3) := by decide +kernel
theorem dX7_plan_185 : decode cX7_plan 185 = .ok (.lreturn, 1) := by decide +kernel
theorem dX7_isAhead_0 : decode cX7_isAhead 0 = .ok (.iload_n 0, 1) := by decide +kernel
theorem dX7_isAhead_1 : decode cX7_isAhead 1 = .ok (.iload_n 1, 1) := by decide +kernel
theorem dX7_isAhead_2 : decode cX7_isAhead 2 = .ok (.ixor, 1) := by decide +kernel
theorem dX7_isAhead_3 : decode cX7_isAhead 3 = .ok (.istore_n 2, 1) := by decide +kernel
theorem dX7_isAhead_4 : decode cX7_isAhead 4 = .ok (.iload_n 0, 1) := by decide +kernel
theorem dX7_isAhead_5 : decode cX7_isAhead 5 = .ok (.iload_n 2, 1) := by decide +kernel
theorem dX7_isAhead_6 : decode cX7_isAhead 6 = .ok (.iand, 1) := by decide +kernel
theorem dX7_isAhead_7 : decode cX7_isAhead 7 = .ok (.iload_n 2, 1) := by decide +kernel
theorem dX7_isAhead_8 : decode cX7_isAhead 8 = .ok (.ineg, 1) := by decide +kernel
theorem dX7_isAhead_9 : decode cX7_isAhead 9 = .ok (.iand, 1) := by decide +kernel
theorem dX7_isAhead_10 : decode cX7_isAhead 10 = .ok (.ifCond .eq 7, 3) := by decide +kernel
theorem dX7_isAhead_13 : decode cX7_isAhead 13 = .ok (.iconst 1, 1) := by decide +kernel
theorem dX7_isAhead_14 : decode cX7_isAhead 14 = .ok (.goto 4, 3) := by decide +kernel
theorem dX7_isAhead_17 : decode cX7_isAhead 17 = .ok (.iconst 0, 1) := by decide +kernel
theorem dX7_isAhead_18 : decode cX7_isAhead 18 = .ok (.ireturn, 1) := by decide +kernel
theorem dX7_isTool_0 : decode cX7_isTool 0 = .ok (.iload_n 0, 1) := by decide +kernel
theorem dX7_isTool_1 : decode cX7_isTool 1 = .ok (.i2l, 1) := by decide +kernel
theorem dX7_isTool_2 : decode cX7_isTool 2 = .ok (.lconst 0, 1) := by decide +kernel
theorem dX7_isTool_3 : decode cX7_isTool 3 = .ok (.ldc2_w 83, 3) := by decide +kernel
theorem dX7_isTool_6 : decode cX7_isTool 6 = .ok (.invokestatic 77, 3) := by decide +kernel
theorem dX7_isTool_9 : decode cX7_isTool 9 = .ok (.ireturn, 1) := by decide +kernel
theorem dX7_lot_0 : decode cX7_lot 0 = .ok (.iload_n 1, 1) := by decide +kernel
theorem dX7_lot_1 : decode cX7_lot 1 = .ok (.invokestatic 179, 3) := by decide +kernel
theorem dX7_lot_4 : decode cX7_lot 4 = .ok (.ifCond .ne 6, 3) := by decide +kernel
theorem dX7_lot_7 : decode cX7_lot 7 = .ok (.ldc 94, 2) := by decide +kernel
theorem dX7_lot_9 : decode cX7_lot 9 = .ok (.ireturn, 1) := by decide +kernel
theorem dX7_lot_10 : decode cX7_lot 10 = .ok (.iload_n 2, 1) := by decide +kernel
theorem dX7_lot_11 : decode cX7_lot 11 = .ok (.i2l, 1) := by decide +kernel
theorem dX7_lot_12 : decode cX7_lot 12 = .ok (.ldc2_w 182, 3) := by decide +kernel
theorem dX7_lot_15 : decode cX7_lot 15 = .ok (.ldc2_w 184, 3) := by decide +kernel
theorem dX7_lot_18 : decode cX7_lot 18 = .ok (.invokestatic 77, 3) := by decide +kernel
theorem dX7_lot_21 : decode cX7_lot 21 = .ok (.ifCond .ne 6, 3) := by decide +kernel
theorem dX7_lot_24 : decode cX7_lot 24 = .ok (.ldc 85, 2) := by decide +kernel
theorem dX7_lot_26 : decode cX7_lot 26 = .ok (.ireturn, 1) := by decide +kernel
theorem dX7_lot_27 : decode cX7_lot 27 = .ok (.aload_n 0, 1) := by decide +kernel
theorem dX7_lot_28 : decode cX7_lot 28 = .ok (.getfield 104, 3) := by decide +kernel
theorem dX7_lot_31 : decode cX7_lot 31 = .ok (.bipush 60, 2) := by decide +kernel
theorem dX7_lot_33 : decode cX7_lot 33 = .ok (.if_icmp .ne 6, 3) := by decide +kernel
theorem dX7_lot_36 : decode cX7_lot 36 = .ok (.ldc 89, 2) := by decide +kernel
theorem dX7_lot_38 : decode cX7_lot 38 = .ok (.ireturn, 1) := by decide +kernel
theorem dX7_lot_39 : decode cX7_lot 39 = .ok (.aload_n 0, 1) := by decide +kernel
theorem dX7_lot_40 : decode cX7_lot 40 = .ok (.getfield 23, 3) := by decide +kernel
theorem dX7_lot_43 : decode cX7_lot 43 = .ok (.aload_n 0, 1) := by decide +kernel
theorem dX7_lot_44 : decode cX7_lot 44 = .ok (.getfield 104, 3) := by decide +kernel
theorem dX7_lot_47 : decode cX7_lot 47 = .ok (.iload_n 1, 1) := by decide +kernel
theorem dX7_lot_48 : decode cX7_lot 48 = .ok (.iastore, 1) := by decide +kernel
theorem dX7_lot_49 : decode cX7_lot 49 = .ok (.aload_n 0, 1) := by decide +kernel
theorem dX7_lot_50 : decode cX7_lot 50 = .ok (.getfield 26, 3) := by decide +kernel
theorem dX7_lot_53 : decode cX7_lot 53 = .ok (.aload_n 0, 1) := by decide +kernel
theorem dX7_lot_54 : decode cX7_lot 54 = .ok (.getfield 104, 3) := by decide +kernel
theorem dX7_lot_57 : decode cX7_lot 57 = .ok (.iload_n 2, 1) := by decide +kernel
theorem dX7_lot_58 : decode cX7_lot 58 = .ok (.iastore, 1) := by decide +kernel
theorem dX7_lot_59 : decode cX7_lot 59 = .ok (.aload_n 0, 1) := by decide +kernel
theorem dX7_lot_60 : decode cX7_lot 60 = .ok (.getfield 32, 3) := by decide +kernel
theorem dX7_lot_63 : decode cX7_lot 63 = .ok (.aload_n 0, 1) := by decide +kernel
theorem dX7_lot_64 : decode cX7_lot 64 = .ok (.getfield 104, 3) := by decide +kernel
theorem dX7_lot_67 : decode cX7_lot 67 = .ok (.iconst 0, 1) := by decide +kernel
theorem dX7_lot_68 : decode cX7_lot 68 = .ok (.bastore, 1) := by decide +kernel
theorem dX7_lot_69 : decode cX7_lot 69 = .ok (.aload_n 0, 1) := by decide +kernel
theorem dX7_lot_70 : decode cX7_lot 70 = .ok (.dup, 1) := by decide +kernel
theorem dX7_lot_71 : decode cX7_lot 71 = .ok (.getfield 104, 3) := by decide +kernel
theorem dX7_lot_74 : decode cX7_lot 74 = .ok (.iconst 1, 1) := by decide +kernel
theorem dX7_lot_75 : decode cX7_lot 75 = .ok (.iadd, 1) := by decide +kernel
theorem dX7_lot_76 : decode cX7_lot 76 = .ok (.putfield 104, 3) := by decide +kernel
theorem dX7_lot_79 : decode cX7_lot 79 = .ok (.aload_n 0, 1) := by decide +kernel
theorem dX7_lot_80 : decode cX7_lot 80 = .ok (.getfield 104, 3) := by decide +kernel
theorem dX7_lot_83 : decode cX7_lot 83 = .ok (.iconst 1, 1) := by decide +kernel
theorem dX7_lot_84 : decode cX7_lot 84 = .ok (.isub, 1) := by decide +kernel
