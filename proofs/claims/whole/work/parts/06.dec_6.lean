theorem dX7_lot_85 : decode cX7_lot 85 = .ok (.ireturn, 1) := by decide +kernel
theorem dX7_back_0 : decode cX7_back 0 = .ok (.iload_n 1, 1) := by decide +kernel
theorem dX7_back_1 : decode cX7_back 1 = .ok (.i2l, 1) := by decide +kernel
theorem dX7_back_2 : decode cX7_back 2 = .ok (.lconst 0, 1) := by decide +kernel
theorem dX7_back_3 : decode cX7_back 3 = .ok (.aload_n 0, 1) := by decide +kernel
theorem dX7_back_4 : decode cX7_back 4 = .ok (.getfield 104, 3) := by decide +kernel
theorem dX7_back_7 : decode cX7_back 7 = .ok (.iconst 1, 1) := by decide +kernel
theorem dX7_back_8 : decode cX7_back 8 = .ok (.isub, 1) := by decide +kernel
theorem dX7_back_9 : decode cX7_back 9 = .ok (.i2l, 1) := by decide +kernel
theorem dX7_back_10 : decode cX7_back 10 = .ok (.invokestatic 77, 3) := by decide +kernel
theorem dX7_back_13 : decode cX7_back 13 = .ok (.ifCond .ne 6, 3) := by decide +kernel
theorem dX7_back_16 : decode cX7_back 16 = .ok (.ldc 94, 2) := by decide +kernel
theorem dX7_back_18 : decode cX7_back 18 = .ok (.ireturn, 1) := by decide +kernel
theorem dX7_back_19 : decode cX7_back 19 = .ok (.iload_n 2, 1) := by decide +kernel
theorem dX7_back_20 : decode cX7_back 20 = .ok (.i2l, 1) := by decide +kernel
theorem dX7_back_21 : decode cX7_back 21 = .ok (.ldc2_w 182, 3) := by decide +kernel
theorem dX7_back_24 : decode cX7_back 24 = .ok (.ldc2_w 184, 3) := by decide +kernel
theorem dX7_back_27 : decode cX7_back 27 = .ok (.invokestatic 77, 3) := by decide +kernel
theorem dX7_back_30 : decode cX7_back 30 = .ok (.ifCond .ne 6, 3) := by decide +kernel
theorem dX7_back_33 : decode cX7_back 33 = .ok (.ldc 85, 2) := by decide +kernel
theorem dX7_back_35 : decode cX7_back 35 = .ok (.ireturn, 1) := by decide +kernel
theorem dX7_back_36 : decode cX7_back 36 = .ok (.aload_n 0, 1) := by decide +kernel
theorem dX7_back_37 : decode cX7_back 37 = .ok (.getfield 29, 3) := by decide +kernel
theorem dX7_back_40 : decode cX7_back 40 = .ok (.iload_n 1, 1) := by decide +kernel
theorem dX7_back_41 : decode cX7_back 41 = .ok (.iload_n 2, 1) := by decide +kernel
theorem dX7_back_42 : decode cX7_back 42 = .ok (.iastore, 1) := by decide +kernel
theorem dX7_back_43 : decode cX7_back 43 = .ok (.aload_n 0, 1) := by decide +kernel
theorem dX7_back_44 : decode cX7_back 44 = .ok (.getfield 32, 3) := by decide +kernel
theorem dX7_back_47 : decode cX7_back 47 = .ok (.iload_n 1, 1) := by decide +kernel
theorem dX7_back_48 : decode cX7_back 48 = .ok (.iconst 1, 1) := by decide +kernel
theorem dX7_back_49 : decode cX7_back 49 = .ok (.bastore, 1) := by decide +kernel
theorem dX7_back_50 : decode cX7_back 50 = .ok (.iconst 1, 1) := by decide +kernel
theorem dX7_back_51 : decode cX7_back 51 = .ok (.ireturn, 1) := by decide +kernel
theorem dX7_mend_0 : decode cX7_mend 0 = .ok (.iload_n 1, 1) := by decide +kernel
theorem dX7_mend_1 : decode cX7_mend 1 = .ok (.invokestatic 179, 3) := by decide +kernel
theorem dX7_mend_4 : decode cX7_mend 4 = .ok (.ifCond .ne 6, 3) := by decide +kernel
theorem dX7_mend_7 : decode cX7_mend 7 = .ok (.ldc 94, 2) := by decide +kernel
theorem dX7_mend_9 : decode cX7_mend 9 = .ok (.ireturn, 1) := by decide +kernel
theorem dX7_mend_10 : decode cX7_mend 10 = .ok (.aload_n 0, 1) := by decide +kernel
theorem dX7_mend_11 : decode cX7_mend 11 = .ok (.getfield 35, 3) := by decide +kernel
theorem dX7_mend_14 : decode cX7_mend 14 = .ok (.iconst 4, 1) := by decide +kernel
theorem dX7_mend_15 : decode cX7_mend 15 = .ok (.aload_n 0, 1) := by decide +kernel
theorem dX7_mend_16 : decode cX7_mend 16 = .ok (.getfield 104, 3) := by decide +kernel
theorem dX7_mend_19 : decode cX7_mend 19 = .ok (.imul, 1) := by decide +kernel
theorem dX7_mend_20 : decode cX7_mend 20 = .ok (.iload_n 1, 1) := by decide +kernel
theorem dX7_mend_21 : decode cX7_mend 21 = .ok (.iadd, 1) := by decide +kernel
theorem dX7_mend_22 : decode cX7_mend 22 = .ok (.iconst 1, 1) := by decide +kernel
theorem dX7_mend_23 : decode cX7_mend 23 = .ok (.bastore, 1) := by decide +kernel
theorem dX7_mend_24 : decode cX7_mend 24 = .ok (.iconst 1, 1) := by decide +kernel
theorem dX7_mend_25 : decode cX7_mend 25 = .ok (.ireturn, 1) := by decide +kernel
theorem dX7_gain_0 : decode cX7_gain 0 = .ok (.iload_n 1, 1) := by decide +kernel
theorem dX7_gain_1 : decode cX7_gain 1 = .ok (.i2l, 1) := by decide +kernel
theorem dX7_gain_2 : decode cX7_gain 2 = .ok (.lconst 1, 1) := by decide +kernel
theorem dX7_gain_3 : decode cX7_gain 3 = .ok (.ldc2_w 186, 3) := by decide +kernel
theorem dX7_gain_6 : decode cX7_gain 6 = .ok (.invokestatic 77, 3) := by decide +kernel
theorem dX7_gain_9 : decode cX7_gain 9 = .ok (.ifCond .ne 6, 3) := by decide +kernel
theorem dX7_gain_12 : decode cX7_gain 12 = .ok (.ldc 85, 2) := by decide +kernel
theorem dX7_gain_14 : decode cX7_gain 14 = .ok (.ireturn, 1) := by decide +kernel
theorem dX7_gain_15 : decode cX7_gain 15 = .ok (.aload_n 0, 1) := by decide +kernel
theorem dX7_gain_16 : decode cX7_gain 16 = .ok (.getfield 38, 3) := by decide +kernel
theorem dX7_gain_19 : decode cX7_gain 19 = .ok (.istore_n 2, 1) := by decide +kernel
theorem dX7_gain_20 : decode cX7_gain 20 = .ok (.aload_n 0, 1) := by decide +kernel
theorem dX7_gain_21 : decode cX7_gain 21 = .ok (.iload_n 1, 1) := by decide +kernel
theorem dX7_gain_22 : decode cX7_gain 22 = .ok (.putfield 38, 3) := by decide +kernel
theorem dX7_gain_25 : decode cX7_gain 25 = .ok (.iload_n 2, 1) := by decide +kernel
theorem dX7_gain_26 : decode cX7_gain 26 = .ok (.ireturn, 1) := by decide +kernel
theorem dX7_stateOf_0 : decode cX7_stateOf 0 = .ok (.iconst 0, 1) := by decide +kernel
theorem dX7_stateOf_1 : decode cX7_stateOf 1 = .ok (.istore_n 3, 1) := by decide +kernel
theorem dX7_stateOf_2 : decode cX7_stateOf 2 = .ok (.iconst 0, 1) := by decide +kernel
theorem dX7_stateOf_3 : decode cX7_stateOf 3 = .ok (.istore 4, 2) := by decide +kernel
theorem dX7_stateOf_5 : decode cX7_stateOf 5 = .ok (.iload 4, 2) := by decide +kernel
theorem dX7_stateOf_7 : decode cX7_stateOf 7 = .ok (.iload_n 2, 1) := by decide +kernel
theorem dX7_stateOf_8 : decode cX7_stateOf 8 = .ok (.if_icmp .gt 88, 3) := by decide +kernel
theorem dX7_stateOf_11 : decode cX7_stateOf 11 = .ok (.aload_n 0, 1) := by decide +kernel
theorem dX7_stateOf_12 : decode cX7_stateOf 12 = .ok (.getfield 35, 3) := by decide +kernel
theorem dX7_stateOf_15 : decode cX7_stateOf 15 = .ok (.iconst 4, 1) := by decide +kernel
theorem dX7_stateOf_16 : decode cX7_stateOf 16 = .ok (.iload 4, 2) := by decide +kernel
theorem dX7_stateOf_18 : decode cX7_stateOf 18 = .ok (.imul, 1) := by decide +kernel
theorem dX7_stateOf_19 : decode cX7_stateOf 19 = .ok (.iload_n 1, 1) := by decide +kernel
theorem dX7_stateOf_20 : decode cX7_stateOf 20 = .ok (.iadd, 1) := by decide +kernel
theorem dX7_stateOf_21 : decode cX7_stateOf 21 = .ok (.baload, 1) := by decide +kernel
theorem dX7_stateOf_22 : decode cX7_stateOf 22 = .ok (.ifCond .eq 7, 3) := by decide +kernel
theorem dX7_stateOf_25 : decode cX7_stateOf 25 = .ok (.iconst 0, 1) := by decide +kernel
theorem dX7_stateOf_26 : decode cX7_stateOf 26 = .ok (.goto 4, 3) := by decide +kernel
theorem dX7_stateOf_29 : decode cX7_stateOf 29 = .ok (.iload_n 3, 1) := by decide +kernel
theorem dX7_stateOf_30 : decode cX7_stateOf 30 = .ok (.istore_n 3, 1) := by decide +kernel
theorem dX7_stateOf_31 : decode cX7_stateOf 31 = .ok (.iload 4, 2) := by decide +kernel
theorem dX7_stateOf_33 : decode cX7_stateOf 33 = .ok (.iload_n 2, 1) := by decide +kernel
theorem dX7_stateOf_34 : decode cX7_stateOf 34 = .ok (.if_icmp .ge 56, 3) := by decide +kernel
theorem dX7_stateOf_37 : decode cX7_stateOf 37 = .ok (.aload_n 0, 1) := by decide +kernel
theorem dX7_stateOf_38 : decode cX7_stateOf 38 = .ok (.getfield 23, 3) := by decide +kernel
theorem dX7_stateOf_41 : decode cX7_stateOf 41 = .ok (.iload 4, 2) := by decide +kernel
theorem dX7_stateOf_43 : decode cX7_stateOf 43 = .ok (.iaload, 1) := by decide +kernel
theorem dX7_stateOf_44 : decode cX7_stateOf 44 = .ok (.iload_n 1, 1) := by decide +kernel
theorem dX7_stateOf_45 : decode cX7_stateOf 45 = .ok (.if_icmp .ne 45, 3) := by decide +kernel
theorem dX7_stateOf_48 : decode cX7_stateOf 48 = .ok (.aload_n 0, 1) := by decide +kernel
theorem dX7_stateOf_49 : decode cX7_stateOf 49 = .ok (.getfield 32, 3) := by decide +kernel
theorem dX7_stateOf_52 : decode cX7_stateOf 52 = .ok (.iload 4, 2) := by decide +kernel
theorem dX7_stateOf_54 : decode cX7_stateOf 54 = .ok (.baload, 1) := by decide +kernel
theorem dX7_stateOf_55 : decode cX7_stateOf 55 = .ok (.ifCond .eq 35, 3) := by decide +kernel
theorem dX7_stateOf_58 : decode cX7_stateOf 58 = .ok (.iload_n 3, 1) := by decide +kernel
theorem dX7_stateOf_59 : decode cX7_stateOf 59 = .ok (.aload_n 0, 1) := by decide +kernel
theorem dX7_stateOf_60 : decode cX7_stateOf 60 = .ok (.getfield 38, 3) := by decide +kernel
theorem dX7_stateOf_63 : decode cX7_stateOf 63 = .ok (.sipush 1000, 3) := by decide +kernel
theorem dX7_stateOf_66 : decode cX7_stateOf 66 = .ok (.aload_n 0, 1) := by decide +kernel
theorem dX7_stateOf_67 : decode cX7_stateOf 67 = .ok (.getfield 29, 3) := by decide +kernel
theorem dX7_stateOf_70 : decode cX7_stateOf 70 = .ok (.iload 4, 2) := by decide +kernel
theorem dX7_stateOf_72 : decode cX7_stateOf 72 = .ok (.iaload, 1) := by decide +kernel
theorem dX7_stateOf_73 : decode cX7_stateOf 73 = .ok (.aload_n 0, 1) := by decide +kernel
theorem dX7_stateOf_74 : decode cX7_stateOf 74 = .ok (.getfield 26, 3) := by decide +kernel
theorem dX7_stateOf_77 : decode cX7_stateOf 77 = .ok (.iload 4, 2) := by decide +kernel
theorem dX7_stateOf_79 : decode cX7_stateOf 79 = .ok (.iaload, 1) := by decide +kernel
theorem dX7_stateOf_80 : decode cX7_stateOf 80 = .ok (.isub, 1) := by decide +kernel
theorem dX7_stateOf_81 : decode cX7_stateOf 81 = .ok (.imul, 1) := by decide +kernel
theorem dX7_stateOf_82 : decode cX7_stateOf 82 = .ok (.iload_n 3, 1) := by decide +kernel
theorem dX7_stateOf_83 : decode cX7_stateOf 83 = .ok (.isub, 1) := by decide +kernel
theorem dX7_stateOf_84 : decode cX7_stateOf 84 = .ok (.imul, 1) := by decide +kernel
theorem dX7_stateOf_85 : decode cX7_stateOf 85 = .ok (.bipush 16, 2) := by decide +kernel
theorem dX7_stateOf_87 : decode cX7_stateOf 87 = .ok (.idiv, 1) := by decide +kernel
theorem dX7_stateOf_88 : decode cX7_stateOf 88 = .ok (.iadd, 1) := by decide +kernel
theorem dX7_stateOf_89 : decode cX7_stateOf 89 = .ok (.istore_n 3, 1) := by decide +kernel
theorem dX7_stateOf_90 : decode cX7_stateOf 90 = .ok (.iinc 4 1, 3) := by decide +kernel
theorem dX7_stateOf_93 : decode cX7_stateOf 93 = .ok (.goto (-88), 3) := by decide +kernel
theorem dX7_stateOf_96 : decode cX7_stateOf 96 = .ok (.iload_n 3, 1) := by decide +kernel
theorem dX7_stateOf_97 : decode cX7_stateOf 97 = .ok (.ireturn, 1) := by decide +kernel
theorem dX7_state_0 : decode cX7_state 0 = .ok (.iload_n 1, 1) := by decide +kernel
theorem dX7_state_1 : decode cX7_state 1 = .ok (.invokestatic 179, 3) := by decide +kernel
theorem dX7_state_4 : decode cX7_state 4 = .ok (.ifCond .ne 6, 3) := by decide +kernel
theorem dX7_state_7 : decode cX7_state 7 = .ok (.ldc 94, 2) := by decide +kernel
theorem dX7_state_9 : decode cX7_state 9 = .ok (.ireturn, 1) := by decide +kernel
theorem dX7_state_10 : decode cX7_state 10 = .ok (.iload_n 2, 1) := by decide +kernel
theorem dX7_state_11 : decode cX7_state 11 = .ok (.i2l, 1) := by decide +kernel
theorem dX7_state_12 : decode cX7_state 12 = .ok (.lconst 0, 1) := by decide +kernel
theorem dX7_state_13 : decode cX7_state 13 = .ok (.aload_n 0, 1) := by decide +kernel
theorem dX7_state_14 : decode cX7_state 14 = .ok (.getfield 104, 3) := by decide +kernel
theorem dX7_state_17 : decode cX7_state 17 = .ok (.i2l, 1) := by decide +kernel
theorem dX7_state_18 : decode cX7_state 18 = .ok (.invokestatic 77, 3) := by decide +kernel
theorem dX7_state_21 : decode cX7_state 21 = .ok (.ifCond .eq 12, 3) := by decide +kernel
theorem dX7_state_24 : decode cX7_state 24 = .ok (.aload_n 0, 1) := by decide +kernel
theorem dX7_state_25 : decode cX7_state 25 = .ok (.iload_n 1, 1) := by decide +kernel
theorem dX7_state_26 : decode cX7_state 26 = .ok (.iload_n 2, 1) := by decide +kernel
theorem dX7_state_27 : decode cX7_state 27 = .ok (.invokevirtual 188, 3) := by decide +kernel
theorem dX7_state_30 : decode cX7_state 30 = .ok (.goto 5, 3) := by decide +kernel
theorem dX7_state_33 : decode cX7_state 33 = .ok (.ldc 85, 2) := by decide +kernel
theorem dX7_state_35 : decode cX7_state 35 = .ok (.ireturn, 1) := by decide +kernel
theorem dX7_advice_0 : decode cX7_advice 0 = .ok (.iload_n 1, 1) := by decide +kernel
theorem dX7_advice_1 : decode cX7_advice 1 = .ok (.invokestatic 179, 3) := by decide +kernel
theorem dX7_advice_4 : decode cX7_advice 4 = .ok (.ifCond .eq 20, 3) := by decide +kernel
theorem dX7_advice_7 : decode cX7_advice 7 = .ok (.aload_n 0, 1) := by decide +kernel
theorem dX7_advice_8 : decode cX7_advice 8 = .ok (.iload_n 1, 1) := by decide +kernel
theorem dX7_advice_9 : decode cX7_advice 9 = .ok (.aload_n 0, 1) := by decide +kernel
theorem dX7_advice_10 : decode cX7_advice 10 = .ok (.getfield 104, 3) := by decide +kernel
theorem dX7_advice_13 : decode cX7_advice 13 = .ok (.invokevirtual 188, 3) := by decide +kernel
theorem dX7_advice_16 : decode cX7_advice 16 = .ok (.sipush 1000, 3) := by decide +kernel
theorem dX7_advice_19 : decode cX7_advice 19 = .ok (.idiv, 1) := by decide +kernel
theorem dX7_advice_20 : decode cX7_advice 20 = .ok (.ineg, 1) := by decide +kernel
theorem dX7_advice_21 : decode cX7_advice 21 = .ok (.goto 5, 3) := by decide +kernel
theorem dX7_advice_24 : decode cX7_advice 24 = .ok (.ldc 94, 2) := by decide +kernel
theorem dX7_advice_26 : decode cX7_advice 26 = .ok (.ireturn, 1) := by decide +kernel
theorem dX7_offset_0 : decode cX7_offset 0 = .ok (.iload_n 1, 1) := by decide +kernel
theorem dX7_offset_1 : decode cX7_offset 1 = .ok (.invokestatic 179, 3) := by decide +kernel
theorem dX7_offset_4 : decode cX7_offset 4 = .ok (.ifCond .ne 6, 3) := by decide +kernel
theorem dX7_offset_7 : decode cX7_offset 7 = .ok (.ldc 94, 2) := by decide +kernel
theorem dX7_offset_9 : decode cX7_offset 9 = .ok (.ireturn, 1) := by decide +kernel
theorem dX7_offset_10 : decode cX7_offset 10 = .ok (.iload_n 2, 1) := by decide +kernel
theorem dX7_offset_11 : decode cX7_offset 11 = .ok (.i2l, 1) := by decide +kernel
theorem dX7_offset_12 : decode cX7_offset 12 = .ok (.lconst 0, 1) := by decide +kernel
theorem dX7_offset_13 : decode cX7_offset 13 = .ok (.ldc2_w 75, 3) := by decide +kernel
theorem dX7_offset_16 : decode cX7_offset 16 = .ok (.invokestatic 77, 3) := by decide +kernel
theorem dX7_offset_19 : decode cX7_offset 19 = .ok (.ifCond .eq 17, 3) := by decide +kernel
theorem dX7_offset_22 : decode cX7_offset 22 = .ok (.iload_n 3, 1) := by decide +kernel
theorem dX7_offset_23 : decode cX7_offset 23 = .ok (.i2l, 1) := by decide +kernel
theorem dX7_offset_24 : decode cX7_offset 24 = .ok (.ldc2_w 95, 3) := by decide +kernel
theorem dX7_offset_27 : decode cX7_offset 27 = .ok (.ldc2_w 97, 3) := by decide +kernel
theorem dX7_offset_30 : decode cX7_offset 30 = .ok (.invokestatic 77, 3) := by decide +kernel
theorem dX7_offset_33 : decode cX7_offset 33 = .ok (.ifCond .ne 6, 3) := by decide +kernel
theorem dX7_offset_36 : decode cX7_offset 36 = .ok (.ldc 85, 2) := by decide +kernel
theorem dX7_offset_38 : decode cX7_offset 38 = .ok (.ireturn, 1) := by decide +kernel
theorem dX7_offset_39 : decode cX7_offset 39 = .ok (.aload_n 0, 1) := by decide +kernel
theorem dX7_offset_40 : decode cX7_offset 40 = .ok (.getfield 42, 3) := by decide +kernel
theorem dX7_offset_43 : decode cX7_offset 43 = .ok (.bipush 6, 2) := by decide +kernel
theorem dX7_offset_45 : decode cX7_offset 45 = .ok (.iload_n 1, 1) := by decide +kernel
theorem dX7_offset_46 : decode cX7_offset 46 = .ok (.imul, 1) := by decide +kernel
theorem dX7_offset_47 : decode cX7_offset 47 = .ok (.iload_n 2, 1) := by decide +kernel
theorem dX7_offset_48 : decode cX7_offset 48 = .ok (.iadd, 1) := by decide +kernel
theorem dX7_offset_49 : decode cX7_offset 49 = .ok (.iaload, 1) := by decide +kernel
theorem dX7_offset_50 : decode cX7_offset 50 = .ok (.istore 4, 2) := by decide +kernel
theorem dX7_offset_52 : decode cX7_offset 52 = .ok (.aload_n 0, 1) := by decide +kernel
theorem dX7_offset_53 : decode cX7_offset 53 = .ok (.getfield 42, 3) := by decide +kernel
theorem dX7_offset_56 : decode cX7_offset 56 = .ok (.bipush 6, 2) := by decide +kernel
theorem dX7_offset_58 : decode cX7_offset 58 = .ok (.iload_n 1, 1) := by decide +kernel
theorem dX7_offset_59 : decode cX7_offset 59 = .ok (.imul, 1) := by decide +kernel
theorem dX7_offset_60 : decode cX7_offset 60 = .ok (.iload_n 2, 1) := by decide +kernel
theorem dX7_offset_61 : decode cX7_offset 61 = .ok (.iadd, 1) := by decide +kernel
theorem dX7_offset_62 : decode cX7_offset 62 = .ok (.iload_n 3, 1) := by decide +kernel
theorem dX7_offset_63 : decode cX7_offset 63 = .ok (.iastore, 1) := by decide +kernel
theorem dX7_offset_64 : decode cX7_offset 64 = .ok (.iload 4, 2) := by decide +kernel
theorem dX7_offset_66 : decode cX7_offset 66 = .ok (.ireturn, 1) := by decide +kernel
theorem dX7_rule_0 : decode cX7_rule 0 = .ok (.iload_n 1, 1) := by decide +kernel
theorem dX7_rule_1 : decode cX7_rule 1 = .ok (.i2l, 1) := by decide +kernel
theorem dX7_rule_2 : decode cX7_rule 2 = .ok (.lconst 0, 1) := by decide +kernel
theorem dX7_rule_3 : decode cX7_rule 3 = .ok (.lconst 1, 1) := by decide +kernel
theorem dX7_rule_4 : decode cX7_rule 4 = .ok (.invokestatic 77, 3) := by decide +kernel
theorem dX7_rule_7 : decode cX7_rule 7 = .ok (.ifCond .eq 26, 3) := by decide +kernel
theorem dX7_rule_10 : decode cX7_rule 10 = .ok (.iload_n 2, 1) := by decide +kernel
theorem dX7_rule_11 : decode cX7_rule 11 = .ok (.i2l, 1) := by decide +kernel
theorem dX7_rule_12 : decode cX7_rule 12 = .ok (.iload_n 1, 1) := by decide +kernel
theorem dX7_rule_13 : decode cX7_rule 13 = .ok (.i2l, 1) := by decide +kernel
theorem dX7_rule_14 : decode cX7_rule 14 = .ok (.iload_n 1, 1) := by decide +kernel
theorem dX7_rule_15 : decode cX7_rule 15 = .ok (.ifCond .ne 9, 3) := by decide +kernel
theorem dX7_rule_18 : decode cX7_rule 18 = .ok (.ldc2_w 192, 3) := by decide +kernel
theorem dX7_rule_21 : decode cX7_rule 21 = .ok (.goto 6, 3) := by decide +kernel
theorem dX7_rule_24 : decode cX7_rule 24 = .ok (.ldc2_w 169, 3) := by decide +kernel
theorem dX7_rule_27 : decode cX7_rule 27 = .ok (.invokestatic 77, 3) := by decide +kernel
theorem dX7_rule_30 : decode cX7_rule 30 = .ok (.ifCond .ne 6, 3) := by decide +kernel
theorem dX7_rule_33 : decode cX7_rule 33 = .ok (.ldc 85, 2) := by decide +kernel
theorem dX7_rule_35 : decode cX7_rule 35 = .ok (.ireturn, 1) := by decide +kernel
theorem dX7_rule_36 : decode cX7_rule 36 = .ok (.iload_n 1, 1) := by decide +kernel
theorem dX7_rule_37 : decode cX7_rule 37 = .ok (.ifCond .ne 10, 3) := by decide +kernel
theorem dX7_rule_40 : decode cX7_rule 40 = .ok (.aload_n 0, 1) := by decide +kernel
theorem dX7_rule_41 : decode cX7_rule 41 = .ok (.getfield 45, 3) := by decide +kernel
theorem dX7_rule_44 : decode cX7_rule 44 = .ok (.goto 7, 3) := by decide +kernel
theorem dX7_rule_47 : decode cX7_rule 47 = .ok (.aload_n 0, 1) := by decide +kernel
theorem dX7_rule_48 : decode cX7_rule 48 = .ok (.getfield 48, 3) := by decide +kernel
theorem dX7_rule_51 : decode cX7_rule 51 = .ok (.istore_n 3, 1) := by decide +kernel
theorem dX7_rule_52 : decode cX7_rule 52 = .ok (.aload_n 0, 1) := by decide +kernel
theorem dX7_rule_53 : decode cX7_rule 53 = .ok (.iload_n 1, 1) := by decide +kernel
theorem dX7_rule_54 : decode cX7_rule 54 = .ok (.ifCond .ne 7, 3) := by decide +kernel
theorem dX7_rule_57 : decode cX7_rule 57 = .ok (.iload_n 2, 1) := by decide +kernel
theorem dX7_rule_58 : decode cX7_rule 58 = .ok (.goto 7, 3) := by decide +kernel
theorem dX7_rule_61 : decode cX7_rule 61 = .ok (.aload_n 0, 1) := by decide +kernel
theorem dX7_rule_62 : decode cX7_rule 62 = .ok (.getfield 45, 3) := by decide +kernel
theorem dX7_rule_65 : decode cX7_rule 65 = .ok (.putfield 45, 3) := by decide +kernel
theorem dX7_rule_68 : decode cX7_rule 68 = .ok (.aload_n 0, 1) := by decide +kernel
theorem dX7_rule_69 : decode cX7_rule 69 = .ok (.iload_n 1, 1) := by decide +kernel
theorem dX7_rule_70 : decode cX7_rule 70 = .ok (.iconst 1, 1) := by decide +kernel
theorem dX7_rule_71 : decode cX7_rule 71 = .ok (.if_icmp .ne 7, 3) := by decide +kernel
theorem dX7_rule_74 : decode cX7_rule 74 = .ok (.iload_n 2, 1) := by decide +kernel
theorem dX7_rule_75 : decode cX7_rule 75 = .ok (.goto 7, 3) := by decide +kernel
theorem dX7_rule_78 : decode cX7_rule 78 = .ok (.aload_n 0, 1) := by decide +kernel
theorem dX7_rule_79 : decode cX7_rule 79 = .ok (.getfield 48, 3) := by decide +kernel
theorem dX7_rule_82 : decode cX7_rule 82 = .ok (.putfield 48, 3) := by decide +kernel
theorem dX7_rule_85 : decode cX7_rule 85 = .ok (.iload_n 3, 1) := by decide +kernel
theorem dX7_rule_86 : decode cX7_rule 86 = .ok (.ireturn, 1) := by decide +kernel
theorem dX7_sumOf_0 : decode cX7_sumOf 0 = .ok (.iconst 0, 1) := by decide +kernel
theorem dX7_sumOf_1 : decode cX7_sumOf 1 = .ok (.istore_n 2, 1) := by decide +kernel
theorem dX7_sumOf_2 : decode cX7_sumOf 2 = .ok (.iconst 0, 1) := by decide +kernel
theorem dX7_sumOf_3 : decode cX7_sumOf 3 = .ok (.istore_n 3, 1) := by decide +kernel
theorem dX7_sumOf_4 : decode cX7_sumOf 4 = .ok (.iload_n 3, 1) := by decide +kernel
theorem dX7_sumOf_5 : decode cX7_sumOf 5 = .ok (.iconst 4, 1) := by decide +kernel
theorem dX7_sumOf_6 : decode cX7_sumOf 6 = .ok (.if_icmp .ge 16, 3) := by decide +kernel
theorem dX7_sumOf_9 : decode cX7_sumOf 9 = .ok (.aload_n 0, 1) := by decide +kernel
theorem dX7_sumOf_10 : decode cX7_sumOf 10 = .ok (.getfield 70, 3) := by decide +kernel
theorem dX7_sumOf_13 : decode cX7_sumOf 13 = .ok (.iload_n 3, 1) := by decide +kernel
theorem dX7_sumOf_14 : decode cX7_sumOf 14 = .ok (.iconst 0, 1) := by decide +kernel
theorem dX7_sumOf_15 : decode cX7_sumOf 15 = .ok (.iastore, 1) := by decide +kernel
theorem dX7_sumOf_16 : decode cX7_sumOf 16 = .ok (.iinc 3 1, 3) := by decide +kernel
theorem dX7_sumOf_19 : decode cX7_sumOf 19 = .ok (.goto (-15), 3) := by decide +kernel
theorem dX7_sumOf_22 : decode cX7_sumOf 22 = .ok (.iconst 0, 1) := by decide +kernel
theorem dX7_sumOf_23 : decode cX7_sumOf 23 = .ok (.istore_n 3, 1) := by decide +kernel
theorem dX7_sumOf_24 : decode cX7_sumOf 24 = .ok (.iload_n 3, 1) := by decide +kernel
theorem dX7_sumOf_25 : decode cX7_sumOf 25 = .ok (.iload_n 1, 1) := by decide +kernel
theorem dX7_sumOf_26 : decode cX7_sumOf 26 = .ok (.if_icmp .ge 118, 3) := by decide +kernel
theorem dX7_sumOf_29 : decode cX7_sumOf 29 = .ok (.aload_n 0, 1) := by decide +kernel
theorem dX7_sumOf_30 : decode cX7_sumOf 30 = .ok (.getfield 70, 3) := by decide +kernel
theorem dX7_sumOf_33 : decode cX7_sumOf 33 = .ok (.aload_n 0, 1) := by decide +kernel
theorem dX7_sumOf_34 : decode cX7_sumOf 34 = .ok (.getfield 67, 3) := by decide +kernel
theorem dX7_sumOf_37 : decode cX7_sumOf 37 = .ok (.iload_n 3, 1) := by decide +kernel
theorem dX7_sumOf_38 : decode cX7_sumOf 38 = .ok (.iaload, 1) := by decide +kernel
theorem dX7_sumOf_39 : decode cX7_sumOf 39 = .ok (.dup2, 1) := by decide +kernel
theorem dX7_sumOf_40 : decode cX7_sumOf 40 = .ok (.iaload, 1) := by decide +kernel
theorem dX7_sumOf_41 : decode cX7_sumOf 41 = .ok (.iconst 1, 1) := by decide +kernel
theorem dX7_sumOf_42 : decode cX7_sumOf 42 = .ok (.iadd, 1) := by decide +kernel
theorem dX7_sumOf_43 : decode cX7_sumOf 43 = .ok (.iastore, 1) := by decide +kernel
theorem dX7_sumOf_44 : decode cX7_sumOf 44 = .ok (.aload_n 0, 1) := by decide +kernel
theorem dX7_sumOf_45 : decode cX7_sumOf 45 = .ok (.getfield 70, 3) := by decide +kernel
theorem dX7_sumOf_48 : decode cX7_sumOf 48 = .ok (.aload_n 0, 1) := by decide +kernel
theorem dX7_sumOf_49 : decode cX7_sumOf 49 = .ok (.getfield 67, 3) := by decide +kernel
theorem dX7_sumOf_52 : decode cX7_sumOf 52 = .ok (.iload_n 3, 1) := by decide +kernel
theorem dX7_sumOf_53 : decode cX7_sumOf 53 = .ok (.iaload, 1) := by decide +kernel
theorem dX7_sumOf_54 : decode cX7_sumOf 54 = .ok (.iaload, 1) := by decide +kernel
theorem dX7_sumOf_55 : decode cX7_sumOf 55 = .ok (.aload_n 0, 1) := by decide +kernel
theorem dX7_sumOf_56 : decode cX7_sumOf 56 = .ok (.getfield 48, 3) := by decide +kernel
theorem dX7_sumOf_59 : decode cX7_sumOf 59 = .ok (.if_icmp .le 5, 3) := by decide +kernel
theorem dX7_sumOf_62 : decode cX7_sumOf 62 = .ok (.iconst (-1), 1) := by decide +kernel
theorem dX7_sumOf_63 : decode cX7_sumOf 63 = .ok (.ireturn, 1) := by decide +kernel
theorem dX7_sumOf_64 : decode cX7_sumOf 64 = .ok (.iload_n 3, 1) := by decide +kernel
theorem dX7_sumOf_65 : decode cX7_sumOf 65 = .ok (.ifCond .le 73, 3) := by decide +kernel
theorem dX7_sumOf_68 : decode cX7_sumOf 68 = .ok (.aload_n 0, 1) := by decide +kernel
theorem dX7_sumOf_69 : decode cX7_sumOf 69 = .ok (.getfield 42, 3) := by decide +kernel
theorem dX7_sumOf_72 : decode cX7_sumOf 72 = .ok (.bipush 6, 2) := by decide +kernel
theorem dX7_sumOf_74 : decode cX7_sumOf 74 = .ok (.aload_n 0, 1) := by decide +kernel
theorem dX7_sumOf_75 : decode cX7_sumOf 75 = .ok (.getfield 67, 3) := by decide +kernel
theorem dX7_sumOf_78 : decode cX7_sumOf 78 = .ok (.iload_n 3, 1) := by decide +kernel
theorem dX7_sumOf_79 : decode cX7_sumOf 79 = .ok (.iaload, 1) := by decide +kernel
theorem dX7_sumOf_80 : decode cX7_sumOf 80 = .ok (.imul, 1) := by decide +kernel
theorem dX7_sumOf_81 : decode cX7_sumOf 81 = .ok (.iload_n 3, 1) := by decide +kernel
theorem dX7_sumOf_82 : decode cX7_sumOf 82 = .ok (.iadd, 1) := by decide +kernel
theorem dX7_sumOf_83 : decode cX7_sumOf 83 = .ok (.iaload, 1) := by decide +kernel
theorem dX7_sumOf_84 : decode cX7_sumOf 84 = .ok (.aload_n 0, 1) := by decide +kernel
theorem dX7_sumOf_85 : decode cX7_sumOf 85 = .ok (.getfield 42, 3) := by decide +kernel
theorem dX7_sumOf_88 : decode cX7_sumOf 88 = .ok (.bipush 6, 2) := by decide +kernel
theorem dX7_sumOf_90 : decode cX7_sumOf 90 = .ok (.aload_n 0, 1) := by decide +kernel
theorem dX7_sumOf_91 : decode cX7_sumOf 91 = .ok (.getfield 67, 3) := by decide +kernel
theorem dX7_sumOf_94 : decode cX7_sumOf 94 = .ok (.iload_n 3, 1) := by decide +kernel
theorem dX7_sumOf_95 : decode cX7_sumOf 95 = .ok (.iconst 1, 1) := by decide +kernel
theorem dX7_sumOf_96 : decode cX7_sumOf 96 = .ok (.isub, 1) := by decide +kernel
theorem dX7_sumOf_97 : decode cX7_sumOf 97 = .ok (.iaload, 1) := by decide +kernel
theorem dX7_sumOf_98 : decode cX7_sumOf 98 = .ok (.imul, 1) := by decide +kernel
theorem dX7_sumOf_99 : decode cX7_sumOf 99 = .ok (.iload_n 3, 1) := by decide +kernel
theorem dX7_sumOf_100 : decode cX7_sumOf 100 = .ok (.iadd, 1) := by decide +kernel
theorem dX7_sumOf_101 : decode cX7_sumOf 101 = .ok (.iconst 1, 1) := by decide +kernel
theorem dX7_sumOf_102 : decode cX7_sumOf 102 = .ok (.isub, 1) := by decide +kernel
theorem dX7_sumOf_103 : decode cX7_sumOf 103 = .ok (.iaload, 1) := by decide +kernel
theorem dX7_sumOf_104 : decode cX7_sumOf 104 = .ok (.isub, 1) := by decide +kernel
theorem dX7_sumOf_105 : decode cX7_sumOf 105 = .ok (.istore 4, 2) := by decide +kernel
theorem dX7_sumOf_107 : decode cX7_sumOf 107 = .ok (.iload 4, 2) := by decide +kernel
theorem dX7_sumOf_109 : decode cX7_sumOf 109 = .ok (.ifCond .ge 9, 3) := by decide +kernel
theorem dX7_sumOf_112 : decode cX7_sumOf 112 = .ok (.iload 4, 2) := by decide +kernel
theorem dX7_sumOf_114 : decode cX7_sumOf 114 = .ok (.ineg, 1) := by decide +kernel
theorem dX7_sumOf_115 : decode cX7_sumOf 115 = .ok (.goto 5, 3) := by decide +kernel
theorem dX7_sumOf_118 : decode cX7_sumOf 118 = .ok (.iload 4, 2) := by decide +kernel
theorem dX7_sumOf_120 : decode cX7_sumOf 120 = .ok (.istore 4, 2) := by decide +kernel
theorem dX7_sumOf_122 : decode cX7_sumOf 122 = .ok (.iload 4, 2) := by decide +kernel
theorem dX7_sumOf_124 : decode cX7_sumOf 124 = .ok (.aload_n 0, 1) := by decide +kernel
theorem dX7_sumOf_125 : decode cX7_sumOf 125 = .ok (.getfield 45, 3) := by decide +kernel
theorem dX7_sumOf_128 : decode cX7_sumOf 128 = .ok (.if_icmp .le 5, 3) := by decide +kernel
theorem dX7_sumOf_131 : decode cX7_sumOf 131 = .ok (.iconst (-1), 1) := by decide +kernel
theorem dX7_sumOf_132 : decode cX7_sumOf 132 = .ok (.ireturn, 1) := by decide +kernel
theorem dX7_sumOf_133 : decode cX7_sumOf 133 = .ok (.iload_n 2, 1) := by decide +kernel
theorem dX7_sumOf_134 : decode cX7_sumOf 134 = .ok (.iload 4, 2) := by decide +kernel
theorem dX7_sumOf_136 : decode cX7_sumOf 136 = .ok (.iadd, 1) := by decide +kernel
theorem dX7_sumOf_137 : decode cX7_sumOf 137 = .ok (.istore_n 2, 1) := by decide +kernel
theorem dX7_sumOf_138 : decode cX7_sumOf 138 = .ok (.iinc 3 1, 3) := by decide +kernel
theorem dX7_sumOf_141 : decode cX7_sumOf 141 = .ok (.goto (-117), 3) := by decide +kernel
theorem dX7_sumOf_144 : decode cX7_sumOf 144 = .ok (.iload_n 2, 1) := by decide +kernel
theorem dX7_sumOf_145 : decode cX7_sumOf 145 = .ok (.ireturn, 1) := by decide +kernel
theorem dX7_layRoute_0 : decode cX7_layRoute 0 = .ok (.iload_n 2, 1) := by decide +kernel
theorem dX7_layRoute_1 : decode cX7_layRoute 1 = .ok (.istore_n 3, 1) := by decide +kernel
theorem dX7_layRoute_2 : decode cX7_layRoute 2 = .ok (.iload_n 1, 1) := by decide +kernel
theorem dX7_layRoute_3 : decode cX7_layRoute 3 = .ok (.iconst 1, 1) := by decide +kernel
theorem dX7_layRoute_4 : decode cX7_layRoute 4 = .ok (.isub, 1) := by decide +kernel
theorem dX7_layRoute_5 : decode cX7_layRoute 5 = .ok (.istore 4, 2) := by decide +kernel
theorem dX7_layRoute_7 : decode cX7_layRoute 7 = .ok (.iload 4, 2) := by decide +kernel
theorem dX7_layRoute_9 : decode cX7_layRoute 9 = .ok (.ifCond .lt 23, 3) := by decide +kernel
theorem dX7_layRoute_12 : decode cX7_layRoute 12 = .ok (.aload_n 0, 1) := by decide +kernel
theorem dX7_layRoute_13 : decode cX7_layRoute 13 = .ok (.getfield 67, 3) := by decide +kernel
theorem dX7_layRoute_16 : decode cX7_layRoute 16 = .ok (.iload 4, 2) := by decide +kernel
theorem dX7_layRoute_18 : decode cX7_layRoute 18 = .ok (.iload_n 3, 1) := by decide +kernel
theorem dX7_layRoute_19 : decode cX7_layRoute 19 = .ok (.iconst 4, 1) := by decide +kernel
theorem dX7_layRoute_20 : decode cX7_layRoute 20 = .ok (.irem, 1) := by decide +kernel
theorem dX7_layRoute_21 : decode cX7_layRoute 21 = .ok (.iastore, 1) := by decide +kernel
theorem dX7_layRoute_22 : decode cX7_layRoute 22 = .ok (.iload_n 3, 1) := by decide +kernel
theorem dX7_layRoute_23 : decode cX7_layRoute 23 = .ok (.iconst 4, 1) := by decide +kernel
theorem dX7_layRoute_24 : decode cX7_layRoute 24 = .ok (.idiv, 1) := by decide +kernel
theorem dX7_layRoute_25 : decode cX7_layRoute 25 = .ok (.istore_n 3, 1) := by decide +kernel
theorem dX7_layRoute_26 : decode cX7_layRoute 26 = .ok (.iinc 4 (-1), 3) := by decide +kernel
theorem dX7_layRoute_29 : decode cX7_layRoute 29 = .ok (.goto (-22), 3) := by decide +kernel
theorem dX7_layRoute_32 : decode cX7_layRoute 32 = .ok (.return_, 1) := by decide +kernel
theorem dX7_route_0 : decode cX7_route 0 = .ok (.iload_n 1, 1) := by decide +kernel
theorem dX7_route_1 : decode cX7_route 1 = .ok (.i2l, 1) := by decide +kernel
theorem dX7_route_2 : decode cX7_route 2 = .ok (.lconst 1, 1) := by decide +kernel
theorem dX7_route_3 : decode cX7_route 3 = .ok (.ldc2_w 169, 3) := by decide +kernel
theorem dX7_route_6 : decode cX7_route 6 = .ok (.invokestatic 77, 3) := by decide +kernel
theorem dX7_route_9 : decode cX7_route 9 = .ok (.ifCond .eq 18, 3) := by decide +kernel
theorem dX7_route_12 : decode cX7_route 12 = .ok (.iload_n 2, 1) := by decide +kernel
theorem dX7_route_13 : decode cX7_route 13 = .ok (.i2l, 1) := by decide +kernel
theorem dX7_route_14 : decode cX7_route 14 = .ok (.ldc2_w 163, 3) := by decide +kernel
theorem dX7_route_17 : decode cX7_route 17 = .ok (.iload_n 1, 1) := by decide +kernel
theorem dX7_route_18 : decode cX7_route 18 = .ok (.iconst 1, 1) := by decide +kernel
theorem dX7_route_19 : decode cX7_route 19 = .ok (.isub, 1) := by decide +kernel
theorem dX7_route_20 : decode cX7_route 20 = .ok (.i2l, 1) := by decide +kernel
theorem dX7_route_21 : decode cX7_route 21 = .ok (.invokestatic 77, 3) := by decide +kernel
theorem dX7_route_24 : decode cX7_route 24 = .ok (.ifCond .ne 6, 3) := by decide +kernel
theorem dX7_route_27 : decode cX7_route 27 = .ok (.ldc 85, 2) := by decide +kernel
theorem dX7_route_29 : decode cX7_route 29 = .ok (.ireturn, 1) := by decide +kernel
theorem dX7_route_30 : decode cX7_route 30 = .ok (.iconst (-1), 1) := by decide +kernel
theorem dX7_route_31 : decode cX7_route 31 = .ok (.istore_n 3, 1) := by decide +kernel
theorem dX7_route_32 : decode cX7_route 32 = .ok (.iconst 0, 1) := by decide +kernel
theorem dX7_route_33 : decode cX7_route 33 = .ok (.istore 4, 2) := by decide +kernel
theorem dX7_route_35 : decode cX7_route 35 = .ok (.iconst 0, 1) := by decide +kernel
theorem dX7_route_36 : decode cX7_route 36 = .ok (.istore 5, 2) := by decide +kernel
theorem dX7_route_38 : decode cX7_route 38 = .ok (.iload 5, 2) := by decide +kernel
theorem dX7_route_40 : decode cX7_route 40 = .ok (.iconst 1, 1) := by decide +kernel
theorem dX7_route_41 : decode cX7_route 41 = .ok (.iconst 2, 1) := by decide +kernel
theorem dX7_route_42 : decode cX7_route 42 = .ok (.iload_n 1, 1) := by decide +kernel
theorem dX7_route_43 : decode cX7_route 43 = .ok (.imul, 1) := by decide +kernel
theorem dX7_route_44 : decode cX7_route 44 = .ok (.ishl, 1) := by decide +kernel
theorem dX7_route_45 : decode cX7_route 45 = .ok (.if_icmp .ge 46, 3) := by decide +kernel
theorem dX7_route_48 : decode cX7_route 48 = .ok (.aload_n 0, 1) := by decide +kernel
theorem dX7_route_49 : decode cX7_route 49 = .ok (.iload_n 1, 1) := by decide +kernel
theorem dX7_route_50 : decode cX7_route 50 = .ok (.iload 5, 2) := by decide +kernel
theorem dX7_route_52 : decode cX7_route 52 = .ok (.invokevirtual 194, 3) := by decide +kernel
theorem dX7_route_55 : decode cX7_route 55 = .ok (.aload_n 0, 1) := by decide +kernel
theorem dX7_route_56 : decode cX7_route 56 = .ok (.iload_n 1, 1) := by decide +kernel
theorem dX7_route_57 : decode cX7_route 57 = .ok (.invokevirtual 197, 3) := by decide +kernel
theorem dX7_route_60 : decode cX7_route 60 = .ok (.istore 6, 2) := by decide +kernel
theorem dX7_route_62 : decode cX7_route 62 = .ok (.iload 6, 2) := by decide +kernel
theorem dX7_route_64 : decode cX7_route 64 = .ok (.ifCond .lt 21, 3) := by decide +kernel
theorem dX7_route_67 : decode cX7_route 67 = .ok (.iload_n 3, 1) := by decide +kernel
theorem dX7_route_68 : decode cX7_route 68 = .ok (.ifCond .lt 10, 3) := by decide +kernel
theorem dX7_route_71 : decode cX7_route 71 = .ok (.iload 6, 2) := by decide +kernel
theorem dX7_route_73 : decode cX7_route 73 = .ok (.iload 4, 2) := by decide +kernel
theorem dX7_route_75 : decode cX7_route 75 = .ok (.if_icmp .ge 10, 3) := by decide +kernel
theorem dX7_route_78 : decode cX7_route 78 = .ok (.iload 5, 2) := by decide +kernel
theorem dX7_route_80 : decode cX7_route 80 = .ok (.istore_n 3, 1) := by decide +kernel
theorem dX7_route_81 : decode cX7_route 81 = .ok (.iload 6, 2) := by decide +kernel
theorem dX7_route_83 : decode cX7_route 83 = .ok (.istore 4, 2) := by decide +kernel
theorem dX7_route_85 : decode cX7_route 85 = .ok (.iinc 5 1, 3) := by decide +kernel
theorem dX7_route_88 : decode cX7_route 88 = .ok (.goto (-50), 3) := by decide +kernel
theorem dX7_route_91 : decode cX7_route 91 = .ok (.iload_n 3, 1) := by decide +kernel
theorem dX7_route_92 : decode cX7_route 92 = .ok (.ifCond .ge 6, 3) := by decide +kernel
theorem dX7_route_95 : decode cX7_route 95 = .ok (.ldc 165, 2) := by decide +kernel
theorem dX7_route_97 : decode cX7_route 97 = .ok (.ireturn, 1) := by decide +kernel
theorem dX7_route_98 : decode cX7_route 98 = .ok (.aload_n 0, 1) := by decide +kernel
theorem dX7_route_99 : decode cX7_route 99 = .ok (.iload_n 1, 1) := by decide +kernel
theorem dX7_route_100 : decode cX7_route 100 = .ok (.iload_n 3, 1) := by decide +kernel
theorem dX7_route_101 : decode cX7_route 101 = .ok (.invokevirtual 194, 3) := by decide +kernel
theorem dX7_route_104 : decode cX7_route 104 = .ok (.iload_n 2, 1) := by decide +kernel
theorem dX7_route_105 : decode cX7_route 105 = .ok (.ifCond .ge 8, 3) := by decide +kernel
theorem dX7_route_108 : decode cX7_route 108 = .ok (.iload 4, 2) := by decide +kernel
theorem dX7_route_110 : decode cX7_route 110 = .ok (.goto 9, 3) := by decide +kernel
theorem dX7_route_113 : decode cX7_route 113 = .ok (.aload_n 0, 1) := by decide +kernel
theorem dX7_route_114 : decode cX7_route 114 = .ok (.getfield 67, 3) := by decide +kernel
theorem dX7_route_117 : decode cX7_route 117 = .ok (.iload_n 2, 1) := by decide +kernel
theorem dX7_route_118 : decode cX7_route 118 = .ok (.iaload, 1) := by decide +kernel
theorem dX7_route_119 : decode cX7_route 119 = .ok (.ireturn, 1) := by decide +kernel
theorem dX7_bad_0 : decode cX7_bad 0 = .ok (.iload_n 1, 1) := by decide +kernel
theorem dX7_bad_1 : decode cX7_bad 1 = .ok (.invokestatic 135, 3) := by decide +kernel
theorem dX7_bad_4 : decode cX7_bad 4 = .ok (.ifCond .eq 27, 3) := by decide +kernel
theorem dX7_bad_7 : decode cX7_bad 7 = .ok (.iload_n 2, 1) := by decide +kernel
theorem dX7_bad_8 : decode cX7_bad 8 = .ok (.i2l, 1) := by decide +kernel
theorem dX7_bad_9 : decode cX7_bad 9 = .ok (.lconst 0, 1) := by decide +kernel
theorem dX7_bad_10 : decode cX7_bad 10 = .ok (.ldc2_w 97, 3) := by decide +kernel
theorem dX7_bad_13 : decode cX7_bad 13 = .ok (.invokestatic 77, 3) := by decide +kernel
theorem dX7_bad_16 : decode cX7_bad 16 = .ok (.ifCond .eq 15, 3) := by decide +kernel
theorem dX7_bad_19 : decode cX7_bad 19 = .ok (.iload_n 3, 1) := by decide +kernel
theorem dX7_bad_20 : decode cX7_bad 20 = .ok (.i2l, 1) := by decide +kernel
theorem dX7_bad_21 : decode cX7_bad 21 = .ok (.lconst 0, 1) := by decide +kernel
theorem dX7_bad_22 : decode cX7_bad 22 = .ok (.ldc2_w 118, 3) := by decide +kernel
theorem dX7_bad_25 : decode cX7_bad 25 = .ok (.invokestatic 77, 3) := by decide +kernel
theorem dX7_bad_28 : decode cX7_bad 28 = .ok (.ifCond .ne 6, 3) := by decide +kernel
theorem dX7_bad_31 : decode cX7_bad 31 = .ok (.ldc 85, 2) := by decide +kernel
theorem dX7_bad_33 : decode cX7_bad 33 = .ok (.ireturn, 1) := by decide +kernel
theorem dX7_bad_34 : decode cX7_bad 34 = .ok (.aload_n 0, 1) := by decide +kernel
theorem dX7_bad_35 : decode cX7_bad 35 = .ok (.invokevirtual 107, 3) := by decide +kernel
theorem dX7_bad_38 : decode cX7_bad 38 = .ok (.istore 4, 2) := by decide +kernel
theorem dX7_bad_40 : decode cX7_bad 40 = .ok (.aload_n 0, 1) := by decide +kernel
theorem dX7_bad_41 : decode cX7_bad 41 = .ok (.iload_n 1, 1) := by decide +kernel
theorem dX7_bad_42 : decode cX7_bad 42 = .ok (.iload 4, 2) := by decide +kernel
theorem dX7_bad_44 : decode cX7_bad 44 = .ok (.invokevirtual 166, 3) := by decide +kernel
theorem dX7_bad_47 : decode cX7_bad 47 = .ok (.aload_n 0, 1) := by decide +kernel
theorem dX7_bad_48 : decode cX7_bad 48 = .ok (.getfield 131, 3) := by decide +kernel
theorem dX7_bad_51 : decode cX7_bad 51 = .ok (.lconst 0, 1) := by decide +kernel
theorem dX7_bad_52 : decode cX7_bad 52 = .ok (.lcmp, 1) := by decide +kernel
theorem dX7_bad_53 : decode cX7_bad 53 = .ok (.ifCond .ne 6, 3) := by decide +kernel
theorem dX7_bad_56 : decode cX7_bad 56 = .ok (.ldc 165, 2) := by decide +kernel
theorem dX7_bad_58 : decode cX7_bad 58 = .ok (.ireturn, 1) := by decide +kernel
theorem dX7_bad_59 : decode cX7_bad 59 = .ok (.iconst 0, 1) := by decide +kernel
theorem dX7_bad_60 : decode cX7_bad 60 = .ok (.istore 5, 2) := by decide +kernel
theorem dX7_bad_62 : decode cX7_bad 62 = .ok (.iconst 0, 1) := by decide +kernel
theorem dX7_bad_63 : decode cX7_bad 63 = .ok (.istore 6, 2) := by decide +kernel
theorem dX7_bad_65 : decode cX7_bad 65 = .ok (.iload 6, 2) := by decide +kernel
theorem dX7_bad_67 : decode cX7_bad 67 = .ok (.aload_n 0, 1) := by decide +kernel
theorem dX7_bad_68 : decode cX7_bad 68 = .ok (.getfield 86, 3) := by decide +kernel
theorem dX7_bad_71 : decode cX7_bad 71 = .ok (.if_icmp .ge 40, 3) := by decide +kernel
theorem dX7_bad_74 : decode cX7_bad 74 = .ok (.iload 5, 2) := by decide +kernel
theorem dX7_bad_76 : decode cX7_bad 76 = .ok (.aload_n 0, 1) := by decide +kernel
theorem dX7_bad_77 : decode cX7_bad 77 = .ok (.getfield 64, 3) := by decide +kernel
theorem dX7_bad_80 : decode cX7_bad 80 = .ok (.iload 6, 2) := by decide +kernel
theorem dX7_bad_82 : decode cX7_bad 82 = .ok (.laload, 1) := by decide +kernel
theorem dX7_bad_83 : decode cX7_bad 83 = .ok (.iload_n 2, 1) := by decide +kernel
theorem dX7_bad_84 : decode cX7_bad 84 = .ok (.i2l, 1) := by decide +kernel
theorem dX7_bad_85 : decode cX7_bad 85 = .ok (.aload_n 0, 1) := by decide +kernel
theorem dX7_bad_86 : decode cX7_bad 86 = .ok (.getfield 131, 3) := by decide +kernel
theorem dX7_bad_89 : decode cX7_bad 89 = .ok (.lmul, 1) := by decide +kernel
theorem dX7_bad_90 : decode cX7_bad 90 = .ok (.lcmp, 1) := by decide +kernel
theorem dX7_bad_91 : decode cX7_bad 91 = .ok (.ifCond .le 10, 3) := by decide +kernel
theorem dX7_bad_94 : decode cX7_bad 94 = .ok (.iconst 1, 1) := by decide +kernel
theorem dX7_bad_95 : decode cX7_bad 95 = .ok (.iload 6, 2) := by decide +kernel
theorem dX7_bad_97 : decode cX7_bad 97 = .ok (.ishl, 1) := by decide +kernel
theorem dX7_bad_98 : decode cX7_bad 98 = .ok (.goto 4, 3) := by decide +kernel
theorem dX7_bad_101 : decode cX7_bad 101 = .ok (.iconst 0, 1) := by decide +kernel
theorem dX7_bad_102 : decode cX7_bad 102 = .ok (.ior, 1) := by decide +kernel
theorem dX7_bad_103 : decode cX7_bad 103 = .ok (.istore 5, 2) := by decide +kernel
theorem dX7_bad_105 : decode cX7_bad 105 = .ok (.iinc 6 1, 3) := by decide +kernel
theorem dX7_bad_108 : decode cX7_bad 108 = .ok (.goto (-43), 3) := by decide +kernel
theorem dX7_bad_111 : decode cX7_bad 111 = .ok (.aload_n 0, 1) := by decide +kernel
theorem dX7_bad_112 : decode cX7_bad 112 = .ok (.iload 5, 2) := by decide +kernel
theorem dX7_bad_114 : decode cX7_bad 114 = .ok (.invokevirtual 115, 3) := by decide +kernel
theorem dX7_bad_117 : decode cX7_bad 117 = .ok (.istore 6, 2) := by decide +kernel
theorem dX7_bad_119 : decode cX7_bad 119 = .ok (.iload_n 3, 1) := by decide +kernel
theorem dX7_bad_120 : decode cX7_bad 120 = .ok (.ifCond .ne 11, 3) := by decide +kernel
theorem dX7_bad_123 : decode cX7_bad 123 = .ok (.iload 5, 2) := by decide +kernel
theorem dX7_bad_125 : decode cX7_bad 125 = .ok (.invokestatic 111, 3) := by decide +kernel
theorem dX7_bad_128 : decode cX7_bad 128 = .ok (.goto 31, 3) := by decide +kernel
theorem dX7_bad_131 : decode cX7_bad 131 = .ok (.iload_n 3, 1) := by decide +kernel
theorem dX7_bad_132 : decode cX7_bad 132 = .ok (.iconst 1, 1) := by decide +kernel
theorem dX7_bad_133 : decode cX7_bad 133 = .ok (.if_icmp .ne 8, 3) := by decide +kernel
theorem dX7_bad_136 : decode cX7_bad 136 = .ok (.iload 6, 2) := by decide +kernel
theorem dX7_bad_138 : decode cX7_bad 138 = .ok (.goto 21, 3) := by decide +kernel
theorem dX7_bad_141 : decode cX7_bad 141 = .ok (.iconst 2, 1) := by decide +kernel
theorem dX7_bad_142 : decode cX7_bad 142 = .ok (.iload 6, 2) := by decide +kernel
theorem dX7_bad_144 : decode cX7_bad 144 = .ok (.imul, 1) := by decide +kernel
theorem dX7_bad_145 : decode cX7_bad 145 = .ok (.aload_n 0, 1) := by decide +kernel
theorem dX7_bad_146 : decode cX7_bad 146 = .ok (.iload 4, 2) := by decide +kernel
theorem dX7_bad_148 : decode cX7_bad 148 = .ok (.invokevirtual 115, 3) := by decide +kernel
theorem dX7_bad_151 : decode cX7_bad 151 = .ok (.if_icmp .le 7, 3) := by decide +kernel
theorem dX7_bad_154 : decode cX7_bad 154 = .ok (.iconst 1, 1) := by decide +kernel
theorem dX7_bad_155 : decode cX7_bad 155 = .ok (.goto 4, 3) := by decide +kernel
theorem dX7_bad_158 : decode cX7_bad 158 = .ok (.iconst 0, 1) := by decide +kernel
theorem dX7_bad_159 : decode cX7_bad 159 = .ok (.ireturn, 1) := by decide +kernel
theorem dJ6_bitCount_0f7a4_0 : decode cJ6_bitCount_0f7a4 0 = .ok (.iload_n 0, 1) := by decide +kernel
theorem dJ6_bitCount_0f7a4_1 : decode cJ6_bitCount_0f7a4 1 = .ok (.iload_n 0, 1) := by decide +kernel
theorem dJ6_bitCount_0f7a4_2 : decode cJ6_bitCount_0f7a4 2 = .ok (.iconst 1, 1) := by decide +kernel
theorem dJ6_bitCount_0f7a4_3 : decode cJ6_bitCount_0f7a4 3 = .ok (.iushr, 1) := by decide +kernel
theorem dJ6_bitCount_0f7a4_4 : decode cJ6_bitCount_0f7a4 4 = .ok (.ldc_w 265, 3) := by decide +kernel
theorem dJ6_bitCount_0f7a4_7 : decode cJ6_bitCount_0f7a4 7 = .ok (.iand, 1) := by decide +kernel
theorem dJ6_bitCount_0f7a4_8 : decode cJ6_bitCount_0f7a4 8 = .ok (.isub, 1) := by decide +kernel
theorem dJ6_bitCount_0f7a4_9 : decode cJ6_bitCount_0f7a4 9 = .ok (.istore_n 0, 1) := by decide +kernel
theorem dJ6_bitCount_0f7a4_10 : decode cJ6_bitCount_0f7a4 10 = .ok (.iload_n 0, 1) := by decide +kernel
theorem dJ6_bitCount_0f7a4_11 : decode cJ6_bitCount_0f7a4 11 = .ok (.ldc_w 266, 3) := by decide +kernel
theorem dJ6_bitCount_0f7a4_14 : decode cJ6_bitCount_0f7a4 14 = .ok (.iand, 1) := by decide +kernel
theorem dJ6_bitCount_0f7a4_15 : decode cJ6_bitCount_0f7a4 15 = .ok (.iload_n 0, 1) := by decide +kernel
theorem dJ6_bitCount_0f7a4_16 : decode cJ6_bitCount_0f7a4 16 = .ok (.iconst 2, 1) := by decide +kernel
theorem dJ6_bitCount_0f7a4_17 : decode cJ6_bitCount_0f7a4 17 = .ok (.iushr, 1) := by decide +kernel
theorem dJ6_bitCount_0f7a4_18 : decode cJ6_bitCount_0f7a4 18 = .ok (.ldc_w 266, 3) := by decide +kernel
theorem dJ6_bitCount_0f7a4_21 : decode cJ6_bitCount_0f7a4 21 = .ok (.iand, 1) := by decide +kernel
theorem dJ6_bitCount_0f7a4_22 : decode cJ6_bitCount_0f7a4 22 = .ok (.iadd, 1) := by decide +kernel
theorem dJ6_bitCount_0f7a4_23 : decode cJ6_bitCount_0f7a4 23 = .ok (.istore_n 0, 1) := by decide +kernel
theorem dJ6_bitCount_0f7a4_24 : decode cJ6_bitCount_0f7a4 24 = .ok (.iload_n 0, 1) := by decide +kernel
theorem dJ6_bitCount_0f7a4_25 : decode cJ6_bitCount_0f7a4 25 = .ok (.iload_n 0, 1) := by decide +kernel
theorem dJ6_bitCount_0f7a4_26 : decode cJ6_bitCount_0f7a4 26 = .ok (.iconst 4, 1) := by decide +kernel
theorem dJ6_bitCount_0f7a4_27 : decode cJ6_bitCount_0f7a4 27 = .ok (.iushr, 1) := by decide +kernel
theorem dJ6_bitCount_0f7a4_28 : decode cJ6_bitCount_0f7a4 28 = .ok (.iadd, 1) := by decide +kernel
theorem dJ6_bitCount_0f7a4_29 : decode cJ6_bitCount_0f7a4 29 = .ok (.ldc_w 267, 3) := by decide +kernel
theorem dJ6_bitCount_0f7a4_32 : decode cJ6_bitCount_0f7a4 32 = .ok (.iand, 1) := by decide +kernel
theorem dJ6_bitCount_0f7a4_33 : decode cJ6_bitCount_0f7a4 33 = .ok (.istore_n 0, 1) := by decide +kernel
theorem dJ6_bitCount_0f7a4_34 : decode cJ6_bitCount_0f7a4 34 = .ok (.iload_n 0, 1) := by decide +kernel
theorem dJ6_bitCount_0f7a4_35 : decode cJ6_bitCount_0f7a4 35 = .ok (.iload_n 0, 1) := by decide +kernel
theorem dJ6_bitCount_0f7a4_36 : decode cJ6_bitCount_0f7a4 36 = .ok (.bipush 8, 2) := by decide +kernel
theorem dJ6_bitCount_0f7a4_38 : decode cJ6_bitCount_0f7a4 38 = .ok (.iushr, 1) := by decide +kernel
theorem dJ6_bitCount_0f7a4_39 : decode cJ6_bitCount_0f7a4 39 = .ok (.iadd, 1) := by decide +kernel
theorem dJ6_bitCount_0f7a4_40 : decode cJ6_bitCount_0f7a4 40 = .ok (.istore_n 0, 1) := by decide +kernel
theorem dJ6_bitCount_0f7a4_41 : decode cJ6_bitCount_0f7a4 41 = .ok (.iload_n 0, 1) := by decide +kernel
theorem dJ6_bitCount_0f7a4_42 : decode cJ6_bitCount_0f7a4 42 = .ok (.iload_n 0, 1) := by decide +kernel
theorem dJ6_bitCount_0f7a4_43 : decode cJ6_bitCount_0f7a4 43 = .ok (.bipush 16, 2) := by decide +kernel
theorem dJ6_bitCount_0f7a4_45 : decode cJ6_bitCount_0f7a4 45 = .ok (.iushr, 1) := by decide +kernel
theorem dJ6_bitCount_0f7a4_46 : decode cJ6_bitCount_0f7a4 46 = .ok (.iadd, 1) := by decide +kernel
theorem dJ6_bitCount_0f7a4_47 : decode cJ6_bitCount_0f7a4 47 = .ok (.istore_n 0, 1) := by decide +kernel
theorem dJ6_bitCount_0f7a4_48 : decode cJ6_bitCount_0f7a4 48 = .ok (.iload_n 0, 1) := by decide +kernel
theorem dJ6_bitCount_0f7a4_49 : decode cJ6_bitCount_0f7a4 49 = .ok (.bipush 63, 2) := by decide +kernel
theorem dJ6_bitCount_0f7a4_51 : decode cJ6_bitCount_0f7a4 51 = .ok (.iand, 1) := by decide +kernel
theorem dJ6_bitCount_0f7a4_52 : decode cJ6_bitCount_0f7a4 52 = .ok (.ireturn, 1) := by decide +kernel
theorem dJ9_abs_0f7a4_0 : decode cJ9_abs_0f7a4 0 = .ok (.iload_n 0, 1) := by decide +kernel
theorem dJ9_abs_0f7a4_1 : decode cJ9_abs_0f7a4 1 = .ok (.ifCond .ge 8, 3) := by decide +kernel
theorem dJ9_abs_0f7a4_4 : decode cJ9_abs_0f7a4 4 = .ok (.iload_n 0, 1) := by decide +kernel
theorem dJ9_abs_0f7a4_5 : decode cJ9_abs_0f7a4 5 = .ok (.ineg, 1) := by decide +kernel
theorem dJ9_abs_0f7a4_6 : decode cJ9_abs_0f7a4 6 = .ok (.goto 4, 3) := by decide +kernel
theorem dJ9_abs_0f7a4_9 : decode cJ9_abs_0f7a4 9 = .ok (.iload_n 0, 1) := by decide +kernel
theorem dJ9_abs_0f7a4_10 : decode cJ9_abs_0f7a4 10 = .ok (.ireturn, 1) := by decide +kernel
theorem dJ9_abs_067f4_0 : decode cJ9_abs_067f4 0 = .ok (.lload_n 0, 1) := by decide +kernel
theorem dJ9_abs_067f4_1 : decode cJ9_abs_067f4 1 = .ok (.lconst 0, 1) := by decide +kernel
theorem dJ9_abs_067f4_2 : decode cJ9_abs_067f4 2 = .ok (.lcmp, 1) := by decide +kernel
theorem dJ9_abs_067f4_3 : decode cJ9_abs_067f4 3 = .ok (.ifCond .ge 8, 3) := by decide +kernel
theorem dJ9_abs_067f4_6 : decode cJ9_abs_067f4 6 = .ok (.lload_n 0, 1) := by decide +kernel
theorem dJ9_abs_067f4_7 : decode cJ9_abs_067f4 7 = .ok (.lneg, 1) := by decide +kernel
theorem dJ9_abs_067f4_8 : decode cJ9_abs_067f4 8 = .ok (.goto 4, 3) := by decide +kernel
theorem dJ9_abs_067f4_11 : decode cJ9_abs_067f4 11 = .ok (.lload_n 0, 1) := by decide +kernel
theorem dJ9_abs_067f4_12 : decode cJ9_abs_067f4 12 = .ok (.lreturn, 1) := by decide +kernel
theorem dJ9_max_f86c9_0 : decode cJ9_max_f86c9 0 = .ok (.lload_n 0, 1) := by decide +kernel
theorem dJ9_max_f86c9_1 : decode cJ9_max_f86c9 1 = .ok (.lload_n 2, 1) := by decide +kernel
theorem dJ9_max_f86c9_2 : decode cJ9_max_f86c9 2 = .ok (.lcmp, 1) := by decide +kernel
theorem dJ9_max_f86c9_3 : decode cJ9_max_f86c9 3 = .ok (.ifCond .lt 7, 3) := by decide +kernel
theorem dJ9_max_f86c9_6 : decode cJ9_max_f86c9 6 = .ok (.lload_n 0, 1) := by decide +kernel
theorem dJ9_max_f86c9_7 : decode cJ9_max_f86c9 7 = .ok (.goto 4, 3) := by decide +kernel
theorem dJ9_max_f86c9_10 : decode cJ9_max_f86c9 10 = .ok (.lload_n 2, 1) := by decide +kernel
theorem dJ9_max_f86c9_11 : decode cJ9_max_f86c9 11 = .ok (.lreturn, 1) := by decide +kernel
theorem dL_law_0 : decode cL_law 0 = .ok (.new 7, 3) := by decide +kernel
theorem dL_law_3 : decode cL_law 3 = .ok (.dup, 1) := by decide +kernel
theorem dL_law_4 : decode cL_law 4 = .ok (.invokespecial 9, 3) := by decide +kernel
theorem dL_law_7 : decode cL_law 7 = .ok (.astore_n 1, 1) := by decide +kernel
theorem dL_law_8 : decode cL_law 8 = .ok (.new 10, 3) := by decide +kernel
theorem dL_law_11 : decode cL_law 11 = .ok (.dup, 1) := by decide +kernel
theorem dL_law_12 : decode cL_law 12 = .ok (.invokespecial 12, 3) := by decide +kernel
theorem dL_law_15 : decode cL_law 15 = .ok (.astore_n 2, 1) := by decide +kernel
theorem dL_law_16 : decode cL_law 16 = .ok (.iconst 0, 1) := by decide +kernel
theorem dL_law_17 : decode cL_law 17 = .ok (.istore_n 3, 1) := by decide +kernel
theorem dL_law_18 : decode cL_law 18 = .ok (.iload_n 3, 1) := by decide +kernel
theorem dL_law_19 : decode cL_law 19 = .ok (.aload_n 0, 1) := by decide +kernel
theorem dL_law_20 : decode cL_law 20 = .ok (.arraylength, 1) := by decide +kernel
theorem dL_law_21 : decode cL_law 21 = .ok (.iconst 5, 1) := by decide +kernel
theorem dL_law_22 : decode cL_law 22 = .ok (.isub, 1) := by decide +kernel
theorem dL_law_23 : decode cL_law 23 = .ok (.if_icmp .gt 863, 3) := by decide +kernel
theorem dL_law_26 : decode cL_law 26 = .ok (.aload_n 0, 1) := by decide +kernel
theorem dL_law_27 : decode cL_law 27 = .ok (.iload_n 3, 1) := by decide +kernel
theorem dL_law_28 : decode cL_law 28 = .ok (.iaload, 1) := by decide +kernel
theorem dL_law_29 : decode cL_law 29 = .ok (.bipush 31, 2) := by decide +kernel
theorem dL_law_31 : decode cL_law 31 = .ok (.iand, 1) := by decide +kernel
theorem dL_law_32 : decode cL_law 32 = .ok (.tableswitch 848 0 20 #[100, 153, 196, 219, 252, 275, 299, 353, 407, 451, 484, 528, 561, 594, 617, 640, 673, 696, 739, 772, 805], 100) := by decide +kernel
theorem dL_law_132 : decode cL_law 132 = .ok (.aload_n 1, 1) := by decide +kernel
theorem dL_law_133 : decode cL_law 133 = .ok (.aload_n 0, 1) := by decide +kernel
theorem dL_law_134 : decode cL_law 134 = .ok (.iload_n 3, 1) := by decide +kernel
theorem dL_law_135 : decode cL_law 135 = .ok (.iconst 1, 1) := by decide +kernel
theorem dL_law_136 : decode cL_law 136 = .ok (.iadd, 1) := by decide +kernel
theorem dL_law_137 : decode cL_law 137 = .ok (.iaload, 1) := by decide +kernel
theorem dL_law_138 : decode cL_law 138 = .ok (.aload_n 0, 1) := by decide +kernel
theorem dL_law_139 : decode cL_law 139 = .ok (.iload_n 3, 1) := by decide +kernel
theorem dL_law_140 : decode cL_law 140 = .ok (.iconst 2, 1) := by decide +kernel
theorem dL_law_141 : decode cL_law 141 = .ok (.iadd, 1) := by decide +kernel
theorem dL_law_142 : decode cL_law 142 = .ok (.iaload, 1) := by decide +kernel
theorem dL_law_143 : decode cL_law 143 = .ok (.aload_n 0, 1) := by decide +kernel
theorem dL_law_144 : decode cL_law 144 = .ok (.iload_n 3, 1) := by decide +kernel
theorem dL_law_145 : decode cL_law 145 = .ok (.iconst 3, 1) := by decide +kernel
theorem dL_law_146 : decode cL_law 146 = .ok (.iadd, 1) := by decide +kernel
theorem dL_law_147 : decode cL_law 147 = .ok (.iaload, 1) := by decide +kernel
theorem dL_law_148 : decode cL_law 148 = .ok (.aload_n 0, 1) := by decide +kernel
theorem dL_law_149 : decode cL_law 149 = .ok (.iload_n 3, 1) := by decide +kernel
theorem dL_law_150 : decode cL_law 150 = .ok (.iconst 4, 1) := by decide +kernel
theorem dL_law_151 : decode cL_law 151 = .ok (.iadd, 1) := by decide +kernel
theorem dL_law_152 : decode cL_law 152 = .ok (.iaload, 1) := by decide +kernel
theorem dL_law_153 : decode cL_law 153 = .ok (.invokevirtual 13, 3) := by decide +kernel
theorem dL_law_156 : decode cL_law 156 = .ok (.aload_n 2, 1) := by decide +kernel
theorem dL_law_157 : decode cL_law 157 = .ok (.aload_n 0, 1) := by decide +kernel
theorem dL_law_158 : decode cL_law 158 = .ok (.iload_n 3, 1) := by decide +kernel
theorem dL_law_159 : decode cL_law 159 = .ok (.iconst 1, 1) := by decide +kernel
theorem dL_law_160 : decode cL_law 160 = .ok (.iadd, 1) := by decide +kernel
theorem dL_law_161 : decode cL_law 161 = .ok (.iaload, 1) := by decide +kernel
theorem dL_law_162 : decode cL_law 162 = .ok (.aload_n 0, 1) := by decide +kernel
theorem dL_law_163 : decode cL_law 163 = .ok (.iload_n 3, 1) := by decide +kernel
theorem dL_law_164 : decode cL_law 164 = .ok (.iconst 2, 1) := by decide +kernel
theorem dL_law_165 : decode cL_law 165 = .ok (.iadd, 1) := by decide +kernel
theorem dL_law_166 : decode cL_law 166 = .ok (.iaload, 1) := by decide +kernel
theorem dL_law_167 : decode cL_law 167 = .ok (.aload_n 0, 1) := by decide +kernel
theorem dL_law_168 : decode cL_law 168 = .ok (.iload_n 3, 1) := by decide +kernel
theorem dL_law_169 : decode cL_law 169 = .ok (.iconst 3, 1) := by decide +kernel
theorem dL_law_170 : decode cL_law 170 = .ok (.iadd, 1) := by decide +kernel
theorem dL_law_171 : decode cL_law 171 = .ok (.iaload, 1) := by decide +kernel
theorem dL_law_172 : decode cL_law 172 = .ok (.aload_n 0, 1) := by decide +kernel
theorem dL_law_173 : decode cL_law 173 = .ok (.iload_n 3, 1) := by decide +kernel
theorem dL_law_174 : decode cL_law 174 = .ok (.iconst 4, 1) := by decide +kernel
theorem dL_law_175 : decode cL_law 175 = .ok (.iadd, 1) := by decide +kernel
theorem dL_law_176 : decode cL_law 176 = .ok (.iaload, 1) := by decide +kernel
theorem dL_law_177 : decode cL_law 177 = .ok (.invokevirtual 17, 3) := by decide +kernel
theorem dL_law_180 : decode cL_law 180 = .ok (.if_icmp .eq 700, 3) := by decide +kernel
theorem dL_law_183 : decode cL_law 183 = .ok (.iconst 0, 1) := by decide +kernel
theorem dL_law_184 : decode cL_law 184 = .ok (.ireturn, 1) := by decide +kernel
theorem dL_law_185 : decode cL_law 185 = .ok (.aload_n 1, 1) := by decide +kernel
theorem dL_law_186 : decode cL_law 186 = .ok (.aload_n 0, 1) := by decide +kernel
theorem dL_law_187 : decode cL_law 187 = .ok (.iload_n 3, 1) := by decide +kernel
theorem dL_law_188 : decode cL_law 188 = .ok (.iconst 1, 1) := by decide +kernel
theorem dL_law_189 : decode cL_law 189 = .ok (.iadd, 1) := by decide +kernel
theorem dL_law_190 : decode cL_law 190 = .ok (.iaload, 1) := by decide +kernel
theorem dL_law_191 : decode cL_law 191 = .ok (.aload_n 0, 1) := by decide +kernel
theorem dL_law_192 : decode cL_law 192 = .ok (.iload_n 3, 1) := by decide +kernel
theorem dL_law_193 : decode cL_law 193 = .ok (.iconst 2, 1) := by decide +kernel
theorem dL_law_194 : decode cL_law 194 = .ok (.iadd, 1) := by decide +kernel
theorem dL_law_195 : decode cL_law 195 = .ok (.iaload, 1) := by decide +kernel
theorem dL_law_196 : decode cL_law 196 = .ok (.aload_n 0, 1) := by decide +kernel
theorem dL_law_197 : decode cL_law 197 = .ok (.iload_n 3, 1) := by decide +kernel
theorem dL_law_198 : decode cL_law 198 = .ok (.iconst 3, 1) := by decide +kernel
theorem dL_law_199 : decode cL_law 199 = .ok (.iadd, 1) := by decide +kernel
theorem dL_law_200 : decode cL_law 200 = .ok (.iaload, 1) := by decide +kernel
theorem dL_law_201 : decode cL_law 201 = .ok (.invokevirtual 18, 3) := by decide +kernel
theorem dL_law_204 : decode cL_law 204 = .ok (.aload_n 2, 1) := by decide +kernel
theorem dL_law_205 : decode cL_law 205 = .ok (.aload_n 0, 1) := by decide +kernel
theorem dL_law_206 : decode cL_law 206 = .ok (.iload_n 3, 1) := by decide +kernel
theorem dL_law_207 : decode cL_law 207 = .ok (.iconst 1, 1) := by decide +kernel
theorem dL_law_208 : decode cL_law 208 = .ok (.iadd, 1) := by decide +kernel
theorem dL_law_209 : decode cL_law 209 = .ok (.iaload, 1) := by decide +kernel
theorem dL_law_210 : decode cL_law 210 = .ok (.aload_n 0, 1) := by decide +kernel
theorem dL_law_211 : decode cL_law 211 = .ok (.iload_n 3, 1) := by decide +kernel
theorem dL_law_212 : decode cL_law 212 = .ok (.iconst 2, 1) := by decide +kernel
theorem dL_law_213 : decode cL_law 213 = .ok (.iadd, 1) := by decide +kernel
theorem dL_law_214 : decode cL_law 214 = .ok (.iaload, 1) := by decide +kernel
theorem dL_law_215 : decode cL_law 215 = .ok (.aload_n 0, 1) := by decide +kernel
theorem dL_law_216 : decode cL_law 216 = .ok (.iload_n 3, 1) := by decide +kernel
theorem dL_law_217 : decode cL_law 217 = .ok (.iconst 3, 1) := by decide +kernel
theorem dL_law_218 : decode cL_law 218 = .ok (.iadd, 1) := by decide +kernel
theorem dL_law_219 : decode cL_law 219 = .ok (.iaload, 1) := by decide +kernel
theorem dL_law_220 : decode cL_law 220 = .ok (.invokevirtual 22, 3) := by decide +kernel
theorem dL_law_223 : decode cL_law 223 = .ok (.if_icmp .eq 657, 3) := by decide +kernel
theorem dL_law_226 : decode cL_law 226 = .ok (.iconst 0, 1) := by decide +kernel
theorem dL_law_227 : decode cL_law 227 = .ok (.ireturn, 1) := by decide +kernel
theorem dL_law_228 : decode cL_law 228 = .ok (.aload_n 1, 1) := by decide +kernel
theorem dL_law_229 : decode cL_law 229 = .ok (.aload_n 0, 1) := by decide +kernel
theorem dL_law_230 : decode cL_law 230 = .ok (.iload_n 3, 1) := by decide +kernel
theorem dL_law_231 : decode cL_law 231 = .ok (.iconst 1, 1) := by decide +kernel
theorem dL_law_232 : decode cL_law 232 = .ok (.iadd, 1) := by decide +kernel
theorem dL_law_233 : decode cL_law 233 = .ok (.iaload, 1) := by decide +kernel
theorem dL_law_234 : decode cL_law 234 = .ok (.invokevirtual 23, 3) := by decide +kernel
theorem dL_law_237 : decode cL_law 237 = .ok (.aload_n 2, 1) := by decide +kernel
theorem dL_law_238 : decode cL_law 238 = .ok (.aload_n 0, 1) := by decide +kernel
theorem dL_law_239 : decode cL_law 239 = .ok (.iload_n 3, 1) := by decide +kernel
theorem dL_law_240 : decode cL_law 240 = .ok (.iconst 1, 1) := by decide +kernel
theorem dL_law_241 : decode cL_law 241 = .ok (.iadd, 1) := by decide +kernel
theorem dL_law_242 : decode cL_law 242 = .ok (.iaload, 1) := by decide +kernel
theorem dL_law_243 : decode cL_law 243 = .ok (.invokevirtual 27, 3) := by decide +kernel
theorem dL_law_246 : decode cL_law 246 = .ok (.if_icmp .eq 634, 3) := by decide +kernel
theorem dL_law_249 : decode cL_law 249 = .ok (.iconst 0, 1) := by decide +kernel
theorem dL_law_250 : decode cL_law 250 = .ok (.ireturn, 1) := by decide +kernel
theorem dL_law_251 : decode cL_law 251 = .ok (.aload_n 1, 1) := by decide +kernel
theorem dL_law_252 : decode cL_law 252 = .ok (.aload_n 0, 1) := by decide +kernel
theorem dL_law_253 : decode cL_law 253 = .ok (.iload_n 3, 1) := by decide +kernel
theorem dL_law_254 : decode cL_law 254 = .ok (.iconst 1, 1) := by decide +kernel
theorem dL_law_255 : decode cL_law 255 = .ok (.iadd, 1) := by decide +kernel
theorem dL_law_256 : decode cL_law 256 = .ok (.iaload, 1) := by decide +kernel
theorem dL_law_257 : decode cL_law 257 = .ok (.aload_n 0, 1) := by decide +kernel
theorem dL_law_258 : decode cL_law 258 = .ok (.iload_n 3, 1) := by decide +kernel
theorem dL_law_259 : decode cL_law 259 = .ok (.iconst 2, 1) := by decide +kernel
theorem dL_law_260 : decode cL_law 260 = .ok (.iadd, 1) := by decide +kernel
theorem dL_law_261 : decode cL_law 261 = .ok (.iaload, 1) := by decide +kernel
theorem dL_law_262 : decode cL_law 262 = .ok (.invokevirtual 28, 3) := by decide +kernel
theorem dL_law_265 : decode cL_law 265 = .ok (.aload_n 2, 1) := by decide +kernel
theorem dL_law_266 : decode cL_law 266 = .ok (.aload_n 0, 1) := by decide +kernel
theorem dL_law_267 : decode cL_law 267 = .ok (.iload_n 3, 1) := by decide +kernel
theorem dL_law_268 : decode cL_law 268 = .ok (.iconst 1, 1) := by decide +kernel
theorem dL_law_269 : decode cL_law 269 = .ok (.iadd, 1) := by decide +kernel
theorem dL_law_270 : decode cL_law 270 = .ok (.iaload, 1) := by decide +kernel
theorem dL_law_271 : decode cL_law 271 = .ok (.aload_n 0, 1) := by decide +kernel
theorem dL_law_272 : decode cL_law 272 = .ok (.iload_n 3, 1) := by decide +kernel
theorem dL_law_273 : decode cL_law 273 = .ok (.iconst 2, 1) := by decide +kernel
theorem dL_law_274 : decode cL_law 274 = .ok (.iadd, 1) := by decide +kernel
theorem dL_law_275 : decode cL_law 275 = .ok (.iaload, 1) := by decide +kernel
theorem dL_law_276 : decode cL_law 276 = .ok (.invokevirtual 32, 3) := by decide +kernel
theorem dL_law_279 : decode cL_law 279 = .ok (.if_icmp .eq 601, 3) := by decide +kernel
theorem dL_law_282 : decode cL_law 282 = .ok (.iconst 0, 1) := by decide +kernel
theorem dL_law_283 : decode cL_law 283 = .ok (.ireturn, 1) := by decide +kernel
theorem dL_law_284 : decode cL_law 284 = .ok (.aload_n 1, 1) := by decide +kernel
theorem dL_law_285 : decode cL_law 285 = .ok (.aload_n 0, 1) := by decide +kernel
theorem dL_law_286 : decode cL_law 286 = .ok (.iload_n 3, 1) := by decide +kernel
theorem dL_law_287 : decode cL_law 287 = .ok (.iconst 1, 1) := by decide +kernel
theorem dL_law_288 : decode cL_law 288 = .ok (.iadd, 1) := by decide +kernel
theorem dL_law_289 : decode cL_law 289 = .ok (.iaload, 1) := by decide +kernel
theorem dL_law_290 : decode cL_law 290 = .ok (.invokevirtual 33, 3) := by decide +kernel
theorem dL_law_293 : decode cL_law 293 = .ok (.aload_n 2, 1) := by decide +kernel
theorem dL_law_294 : decode cL_law 294 = .ok (.aload_n 0, 1) := by decide +kernel
theorem dL_law_295 : decode cL_law 295 = .ok (.iload_n 3, 1) := by decide +kernel
theorem dL_law_296 : decode cL_law 296 = .ok (.iconst 1, 1) := by decide +kernel
theorem dL_law_297 : decode cL_law 297 = .ok (.iadd, 1) := by decide +kernel
theorem dL_law_298 : decode cL_law 298 = .ok (.iaload, 1) := by decide +kernel
theorem dL_law_299 : decode cL_law 299 = .ok (.invokevirtual 36, 3) := by decide +kernel
theorem dL_law_302 : decode cL_law 302 = .ok (.if_icmp .eq 578, 3) := by decide +kernel
theorem dL_law_305 : decode cL_law 305 = .ok (.iconst 0, 1) := by decide +kernel
theorem dL_law_306 : decode cL_law 306 = .ok (.ireturn, 1) := by decide +kernel
theorem dL_law_307 : decode cL_law 307 = .ok (.aload_n 1, 1) := by decide +kernel
theorem dL_law_308 : decode cL_law 308 = .ok (.aload_n 0, 1) := by decide +kernel
theorem dL_law_309 : decode cL_law 309 = .ok (.iload_n 3, 1) := by decide +kernel
theorem dL_law_310 : decode cL_law 310 = .ok (.iconst 1, 1) := by decide +kernel
theorem dL_law_311 : decode cL_law 311 = .ok (.iadd, 1) := by decide +kernel
theorem dL_law_312 : decode cL_law 312 = .ok (.iaload, 1) := by decide +kernel
theorem dL_law_313 : decode cL_law 313 = .ok (.invokevirtual 37, 3) := by decide +kernel
theorem dL_law_316 : decode cL_law 316 = .ok (.aload_n 2, 1) := by decide +kernel
theorem dL_law_317 : decode cL_law 317 = .ok (.aload_n 0, 1) := by decide +kernel
theorem dL_law_318 : decode cL_law 318 = .ok (.iload_n 3, 1) := by decide +kernel
theorem dL_law_319 : decode cL_law 319 = .ok (.iconst 1, 1) := by decide +kernel
theorem dL_law_320 : decode cL_law 320 = .ok (.iadd, 1) := by decide +kernel
theorem dL_law_321 : decode cL_law 321 = .ok (.iaload, 1) := by decide +kernel
theorem dL_law_322 : decode cL_law 322 = .ok (.invokevirtual 41, 3) := by decide +kernel
theorem dL_law_325 : decode cL_law 325 = .ok (.lcmp, 1) := by decide +kernel
theorem dL_law_326 : decode cL_law 326 = .ok (.ifCond .eq 554, 3) := by decide +kernel
theorem dL_law_329 : decode cL_law 329 = .ok (.iconst 0, 1) := by decide +kernel
theorem dL_law_330 : decode cL_law 330 = .ok (.ireturn, 1) := by decide +kernel
theorem dL_law_331 : decode cL_law 331 = .ok (.aload_n 1, 1) := by decide +kernel
theorem dL_law_332 : decode cL_law 332 = .ok (.aload_n 0, 1) := by decide +kernel
theorem dL_law_333 : decode cL_law 333 = .ok (.iload_n 3, 1) := by decide +kernel
theorem dL_law_334 : decode cL_law 334 = .ok (.iconst 1, 1) := by decide +kernel
theorem dL_law_335 : decode cL_law 335 = .ok (.iadd, 1) := by decide +kernel
theorem dL_law_336 : decode cL_law 336 = .ok (.iaload, 1) := by decide +kernel
theorem dL_law_337 : decode cL_law 337 = .ok (.aload_n 0, 1) := by decide +kernel
theorem dL_law_338 : decode cL_law 338 = .ok (.iload_n 3, 1) := by decide +kernel
theorem dL_law_339 : decode cL_law 339 = .ok (.iconst 2, 1) := by decide +kernel
theorem dL_law_340 : decode cL_law 340 = .ok (.iadd, 1) := by decide +kernel
theorem dL_law_341 : decode cL_law 341 = .ok (.iaload, 1) := by decide +kernel
theorem dL_law_342 : decode cL_law 342 = .ok (.aload_n 0, 1) := by decide +kernel
theorem dL_law_343 : decode cL_law 343 = .ok (.iload_n 3, 1) := by decide +kernel
theorem dL_law_344 : decode cL_law 344 = .ok (.iconst 3, 1) := by decide +kernel
theorem dL_law_345 : decode cL_law 345 = .ok (.iadd, 1) := by decide +kernel
theorem dL_law_346 : decode cL_law 346 = .ok (.iaload, 1) := by decide +kernel
theorem dL_law_347 : decode cL_law 347 = .ok (.aload_n 0, 1) := by decide +kernel
theorem dL_law_348 : decode cL_law 348 = .ok (.iload_n 3, 1) := by decide +kernel
theorem dL_law_349 : decode cL_law 349 = .ok (.iconst 4, 1) := by decide +kernel
theorem dL_law_350 : decode cL_law 350 = .ok (.iadd, 1) := by decide +kernel
theorem dL_law_351 : decode cL_law 351 = .ok (.iaload, 1) := by decide +kernel
theorem dL_law_352 : decode cL_law 352 = .ok (.invokevirtual 42, 3) := by decide +kernel
theorem dL_law_355 : decode cL_law 355 = .ok (.aload_n 2, 1) := by decide +kernel
theorem dL_law_356 : decode cL_law 356 = .ok (.aload_n 0, 1) := by decide +kernel
theorem dL_law_357 : decode cL_law 357 = .ok (.iload_n 3, 1) := by decide +kernel
theorem dL_law_358 : decode cL_law 358 = .ok (.iconst 1, 1) := by decide +kernel
theorem dL_law_359 : decode cL_law 359 = .ok (.iadd, 1) := by decide +kernel
theorem dL_law_360 : decode cL_law 360 = .ok (.iaload, 1) := by decide +kernel
theorem dL_law_361 : decode cL_law 361 = .ok (.aload_n 0, 1) := by decide +kernel
theorem dL_law_362 : decode cL_law 362 = .ok (.iload_n 3, 1) := by decide +kernel
theorem dL_law_363 : decode cL_law 363 = .ok (.iconst 2, 1) := by decide +kernel
theorem dL_law_364 : decode cL_law 364 = .ok (.iadd, 1) := by decide +kernel
theorem dL_law_365 : decode cL_law 365 = .ok (.iaload, 1) := by decide +kernel
theorem dL_law_366 : decode cL_law 366 = .ok (.aload_n 0, 1) := by decide +kernel
theorem dL_law_367 : decode cL_law 367 = .ok (.iload_n 3, 1) := by decide +kernel
theorem dL_law_368 : decode cL_law 368 = .ok (.iconst 3, 1) := by decide +kernel
theorem dL_law_369 : decode cL_law 369 = .ok (.iadd, 1) := by decide +kernel
theorem dL_law_370 : decode cL_law 370 = .ok (.iaload, 1) := by decide +kernel
theorem dL_law_371 : decode cL_law 371 = .ok (.aload_n 0, 1) := by decide +kernel
theorem dL_law_372 : decode cL_law 372 = .ok (.iload_n 3, 1) := by decide +kernel
theorem dL_law_373 : decode cL_law 373 = .ok (.iconst 4, 1) := by decide +kernel
theorem dL_law_374 : decode cL_law 374 = .ok (.iadd, 1) := by decide +kernel
theorem dL_law_375 : decode cL_law 375 = .ok (.iaload, 1) := by decide +kernel
theorem dL_law_376 : decode cL_law 376 = .ok (.invokevirtual 46, 3) := by decide +kernel
theorem dL_law_379 : decode cL_law 379 = .ok (.lcmp, 1) := by decide +kernel
theorem dL_law_380 : decode cL_law 380 = .ok (.ifCond .eq 500, 3) := by decide +kernel
theorem dL_law_383 : decode cL_law 383 = .ok (.iconst 0, 1) := by decide +kernel
theorem dL_law_384 : decode cL_law 384 = .ok (.ireturn, 1) := by decide +kernel
theorem dL_law_385 : decode cL_law 385 = .ok (.aload_n 1, 1) := by decide +kernel
theorem dL_law_386 : decode cL_law 386 = .ok (.aload_n 0, 1) := by decide +kernel
theorem dL_law_387 : decode cL_law 387 = .ok (.iload_n 3, 1) := by decide +kernel
theorem dL_law_388 : decode cL_law 388 = .ok (.iconst 1, 1) := by decide +kernel
theorem dL_law_389 : decode cL_law 389 = .ok (.iadd, 1) := by decide +kernel
theorem dL_law_390 : decode cL_law 390 = .ok (.iaload, 1) := by decide +kernel
theorem dL_law_391 : decode cL_law 391 = .ok (.aload_n 0, 1) := by decide +kernel
theorem dL_law_392 : decode cL_law 392 = .ok (.iload_n 3, 1) := by decide +kernel
theorem dL_law_393 : decode cL_law 393 = .ok (.iconst 2, 1) := by decide +kernel
theorem dL_law_394 : decode cL_law 394 = .ok (.iadd, 1) := by decide +kernel
theorem dL_law_395 : decode cL_law 395 = .ok (.iaload, 1) := by decide +kernel
theorem dL_law_396 : decode cL_law 396 = .ok (.aload_n 0, 1) := by decide +kernel
theorem dL_law_397 : decode cL_law 397 = .ok (.iload_n 3, 1) := by decide +kernel
theorem dL_law_398 : decode cL_law 398 = .ok (.iconst 3, 1) := by decide +kernel
theorem dL_law_399 : decode cL_law 399 = .ok (.iadd, 1) := by decide +kernel
theorem dL_law_400 : decode cL_law 400 = .ok (.iaload, 1) := by decide +kernel
theorem dL_law_401 : decode cL_law 401 = .ok (.aload_n 0, 1) := by decide +kernel
theorem dL_law_402 : decode cL_law 402 = .ok (.iload_n 3, 1) := by decide +kernel
theorem dL_law_403 : decode cL_law 403 = .ok (.iconst 4, 1) := by decide +kernel
theorem dL_law_404 : decode cL_law 404 = .ok (.iadd, 1) := by decide +kernel
theorem dL_law_405 : decode cL_law 405 = .ok (.iaload, 1) := by decide +kernel
theorem dL_law_406 : decode cL_law 406 = .ok (.invokevirtual 47, 3) := by decide +kernel
theorem dL_law_409 : decode cL_law 409 = .ok (.aload_n 2, 1) := by decide +kernel
theorem dL_law_410 : decode cL_law 410 = .ok (.aload_n 0, 1) := by decide +kernel
theorem dL_law_411 : decode cL_law 411 = .ok (.iload_n 3, 1) := by decide +kernel
theorem dL_law_412 : decode cL_law 412 = .ok (.iconst 1, 1) := by decide +kernel
theorem dL_law_413 : decode cL_law 413 = .ok (.iadd, 1) := by decide +kernel
theorem dL_law_414 : decode cL_law 414 = .ok (.iaload, 1) := by decide +kernel
theorem dL_law_415 : decode cL_law 415 = .ok (.aload_n 0, 1) := by decide +kernel
theorem dL_law_416 : decode cL_law 416 = .ok (.iload_n 3, 1) := by decide +kernel
theorem dL_law_417 : decode cL_law 417 = .ok (.iconst 2, 1) := by decide +kernel
theorem dL_law_418 : decode cL_law 418 = .ok (.iadd, 1) := by decide +kernel
theorem dL_law_419 : decode cL_law 419 = .ok (.iaload, 1) := by decide +kernel
theorem dL_law_420 : decode cL_law 420 = .ok (.aload_n 0, 1) := by decide +kernel
theorem dL_law_421 : decode cL_law 421 = .ok (.iload_n 3, 1) := by decide +kernel
theorem dL_law_422 : decode cL_law 422 = .ok (.iconst 3, 1) := by decide +kernel
theorem dL_law_423 : decode cL_law 423 = .ok (.iadd, 1) := by decide +kernel
theorem dL_law_424 : decode cL_law 424 = .ok (.iaload, 1) := by decide +kernel
theorem dL_law_425 : decode cL_law 425 = .ok (.aload_n 0, 1) := by decide +kernel
theorem dL_law_426 : decode cL_law 426 = .ok (.iload_n 3, 1) := by decide +kernel
theorem dL_law_427 : decode cL_law 427 = .ok (.iconst 4, 1) := by decide +kernel
theorem dL_law_428 : decode cL_law 428 = .ok (.iadd, 1) := by decide +kernel
theorem dL_law_429 : decode cL_law 429 = .ok (.iaload, 1) := by decide +kernel
theorem dL_law_430 : decode cL_law 430 = .ok (.invokevirtual 50, 3) := by decide +kernel
theorem dL_law_433 : decode cL_law 433 = .ok (.lcmp, 1) := by decide +kernel
theorem dL_law_434 : decode cL_law 434 = .ok (.ifCond .eq 446, 3) := by decide +kernel
theorem dL_law_437 : decode cL_law 437 = .ok (.iconst 0, 1) := by decide +kernel
theorem dL_law_438 : decode cL_law 438 = .ok (.ireturn, 1) := by decide +kernel
theorem dL_law_439 : decode cL_law 439 = .ok (.aload_n 1, 1) := by decide +kernel
theorem dL_law_440 : decode cL_law 440 = .ok (.aload_n 0, 1) := by decide +kernel
theorem dL_law_441 : decode cL_law 441 = .ok (.iload_n 3, 1) := by decide +kernel
theorem dL_law_442 : decode cL_law 442 = .ok (.iconst 1, 1) := by decide +kernel
theorem dL_law_443 : decode cL_law 443 = .ok (.iadd, 1) := by decide +kernel
theorem dL_law_444 : decode cL_law 444 = .ok (.iaload, 1) := by decide +kernel
theorem dL_law_445 : decode cL_law 445 = .ok (.aload_n 0, 1) := by decide +kernel
theorem dL_law_446 : decode cL_law 446 = .ok (.iload_n 3, 1) := by decide +kernel
theorem dL_law_447 : decode cL_law 447 = .ok (.iconst 2, 1) := by decide +kernel
theorem dL_law_448 : decode cL_law 448 = .ok (.iadd, 1) := by decide +kernel
theorem dL_law_449 : decode cL_law 449 = .ok (.iaload, 1) := by decide +kernel
theorem dL_law_450 : decode cL_law 450 = .ok (.aload_n 0, 1) := by decide +kernel
theorem dL_law_451 : decode cL_law 451 = .ok (.iload_n 3, 1) := by decide +kernel
theorem dL_law_452 : decode cL_law 452 = .ok (.iconst 3, 1) := by decide +kernel
theorem dL_law_453 : decode cL_law 453 = .ok (.iadd, 1) := by decide +kernel
theorem dL_law_454 : decode cL_law 454 = .ok (.iaload, 1) := by decide +kernel
theorem dL_law_455 : decode cL_law 455 = .ok (.invokevirtual 51, 3) := by decide +kernel
theorem dL_law_458 : decode cL_law 458 = .ok (.aload_n 2, 1) := by decide +kernel
theorem dL_law_459 : decode cL_law 459 = .ok (.aload_n 0, 1) := by decide +kernel
theorem dL_law_460 : decode cL_law 460 = .ok (.iload_n 3, 1) := by decide +kernel
theorem dL_law_461 : decode cL_law 461 = .ok (.iconst 1, 1) := by decide +kernel
theorem dL_law_462 : decode cL_law 462 = .ok (.iadd, 1) := by decide +kernel
theorem dL_law_463 : decode cL_law 463 = .ok (.iaload, 1) := by decide +kernel
theorem dL_law_464 : decode cL_law 464 = .ok (.aload_n 0, 1) := by decide +kernel
theorem dL_law_465 : decode cL_law 465 = .ok (.iload_n 3, 1) := by decide +kernel
theorem dL_law_466 : decode cL_law 466 = .ok (.iconst 2, 1) := by decide +kernel
theorem dL_law_467 : decode cL_law 467 = .ok (.iadd, 1) := by decide +kernel
theorem dL_law_468 : decode cL_law 468 = .ok (.iaload, 1) := by decide +kernel
theorem dL_law_469 : decode cL_law 469 = .ok (.aload_n 0, 1) := by decide +kernel
theorem dL_law_470 : decode cL_law 470 = .ok (.iload_n 3, 1) := by decide +kernel
theorem dL_law_471 : decode cL_law 471 = .ok (.iconst 3, 1) := by decide +kernel
theorem dL_law_472 : decode cL_law 472 = .ok (.iadd, 1) := by decide +kernel
theorem dL_law_473 : decode cL_law 473 = .ok (.iaload, 1) := by decide +kernel
theorem dL_law_474 : decode cL_law 474 = .ok (.invokevirtual 55, 3) := by decide +kernel
theorem dL_law_477 : decode cL_law 477 = .ok (.lcmp, 1) := by decide +kernel
theorem dL_law_478 : decode cL_law 478 = .ok (.ifCond .eq 402, 3) := by decide +kernel
theorem dL_law_481 : decode cL_law 481 = .ok (.iconst 0, 1) := by decide +kernel
theorem dL_law_482 : decode cL_law 482 = .ok (.ireturn, 1) := by decide +kernel
theorem dL_law_483 : decode cL_law 483 = .ok (.aload_n 1, 1) := by decide +kernel
theorem dL_law_484 : decode cL_law 484 = .ok (.aload_n 0, 1) := by decide +kernel
theorem dL_law_485 : decode cL_law 485 = .ok (.iload_n 3, 1) := by decide +kernel
theorem dL_law_486 : decode cL_law 486 = .ok (.iconst 1, 1) := by decide +kernel
theorem dL_law_487 : decode cL_law 487 = .ok (.iadd, 1) := by decide +kernel
theorem dL_law_488 : decode cL_law 488 = .ok (.iaload, 1) := by decide +kernel
theorem dL_law_489 : decode cL_law 489 = .ok (.aload_n 0, 1) := by decide +kernel
theorem dL_law_490 : decode cL_law 490 = .ok (.iload_n 3, 1) := by decide +kernel
theorem dL_law_491 : decode cL_law 491 = .ok (.iconst 2, 1) := by decide +kernel
theorem dL_law_492 : decode cL_law 492 = .ok (.iadd, 1) := by decide +kernel
theorem dL_law_493 : decode cL_law 493 = .ok (.iaload, 1) := by decide +kernel
theorem dL_law_494 : decode cL_law 494 = .ok (.invokevirtual 56, 3) := by decide +kernel
theorem dL_law_497 : decode cL_law 497 = .ok (.aload_n 2, 1) := by decide +kernel
theorem dL_law_498 : decode cL_law 498 = .ok (.aload_n 0, 1) := by decide +kernel
theorem dL_law_499 : decode cL_law 499 = .ok (.iload_n 3, 1) := by decide +kernel
theorem dL_law_500 : decode cL_law 500 = .ok (.iconst 1, 1) := by decide +kernel
theorem dL_law_501 : decode cL_law 501 = .ok (.iadd, 1) := by decide +kernel
theorem dL_law_502 : decode cL_law 502 = .ok (.iaload, 1) := by decide +kernel
theorem dL_law_503 : decode cL_law 503 = .ok (.aload_n 0, 1) := by decide +kernel
theorem dL_law_504 : decode cL_law 504 = .ok (.iload_n 3, 1) := by decide +kernel
theorem dL_law_505 : decode cL_law 505 = .ok (.iconst 2, 1) := by decide +kernel
theorem dL_law_506 : decode cL_law 506 = .ok (.iadd, 1) := by decide +kernel
theorem dL_law_507 : decode cL_law 507 = .ok (.iaload, 1) := by decide +kernel
theorem dL_law_508 : decode cL_law 508 = .ok (.invokevirtual 59, 3) := by decide +kernel
theorem dL_law_511 : decode cL_law 511 = .ok (.if_icmp .eq 369, 3) := by decide +kernel
theorem dL_law_514 : decode cL_law 514 = .ok (.iconst 0, 1) := by decide +kernel
theorem dL_law_515 : decode cL_law 515 = .ok (.ireturn, 1) := by decide +kernel
theorem dL_law_516 : decode cL_law 516 = .ok (.aload_n 1, 1) := by decide +kernel
theorem dL_law_517 : decode cL_law 517 = .ok (.aload_n 0, 1) := by decide +kernel
theorem dL_law_518 : decode cL_law 518 = .ok (.iload_n 3, 1) := by decide +kernel
theorem dL_law_519 : decode cL_law 519 = .ok (.iconst 1, 1) := by decide +kernel
theorem dL_law_520 : decode cL_law 520 = .ok (.iadd, 1) := by decide +kernel
theorem dL_law_521 : decode cL_law 521 = .ok (.iaload, 1) := by decide +kernel
theorem dL_law_522 : decode cL_law 522 = .ok (.aload_n 0, 1) := by decide +kernel
theorem dL_law_523 : decode cL_law 523 = .ok (.iload_n 3, 1) := by decide +kernel
theorem dL_law_524 : decode cL_law 524 = .ok (.iconst 2, 1) := by decide +kernel
theorem dL_law_525 : decode cL_law 525 = .ok (.iadd, 1) := by decide +kernel
theorem dL_law_526 : decode cL_law 526 = .ok (.iaload, 1) := by decide +kernel
theorem dL_law_527 : decode cL_law 527 = .ok (.aload_n 0, 1) := by decide +kernel
theorem dL_law_528 : decode cL_law 528 = .ok (.iload_n 3, 1) := by decide +kernel
theorem dL_law_529 : decode cL_law 529 = .ok (.iconst 3, 1) := by decide +kernel
theorem dL_law_530 : decode cL_law 530 = .ok (.iadd, 1) := by decide +kernel
theorem dL_law_531 : decode cL_law 531 = .ok (.iaload, 1) := by decide +kernel
theorem dL_law_532 : decode cL_law 532 = .ok (.invokevirtual 60, 3) := by decide +kernel
theorem dL_law_535 : decode cL_law 535 = .ok (.aload_n 2, 1) := by decide +kernel
theorem dL_law_536 : decode cL_law 536 = .ok (.aload_n 0, 1) := by decide +kernel
theorem dL_law_537 : decode cL_law 537 = .ok (.iload_n 3, 1) := by decide +kernel
theorem dL_law_538 : decode cL_law 538 = .ok (.iconst 1, 1) := by decide +kernel
theorem dL_law_539 : decode cL_law 539 = .ok (.iadd, 1) := by decide +kernel
theorem dL_law_540 : decode cL_law 540 = .ok (.iaload, 1) := by decide +kernel
theorem dL_law_541 : decode cL_law 541 = .ok (.aload_n 0, 1) := by decide +kernel
theorem dL_law_542 : decode cL_law 542 = .ok (.iload_n 3, 1) := by decide +kernel
theorem dL_law_543 : decode cL_law 543 = .ok (.iconst 2, 1) := by decide +kernel
theorem dL_law_544 : decode cL_law 544 = .ok (.iadd, 1) := by decide +kernel
theorem dL_law_545 : decode cL_law 545 = .ok (.iaload, 1) := by decide +kernel
theorem dL_law_546 : decode cL_law 546 = .ok (.aload_n 0, 1) := by decide +kernel
theorem dL_law_547 : decode cL_law 547 = .ok (.iload_n 3, 1) := by decide +kernel
theorem dL_law_548 : decode cL_law 548 = .ok (.iconst 3, 1) := by decide +kernel
theorem dL_law_549 : decode cL_law 549 = .ok (.iadd, 1) := by decide +kernel
theorem dL_law_550 : decode cL_law 550 = .ok (.iaload, 1) := by decide +kernel
theorem dL_law_551 : decode cL_law 551 = .ok (.invokevirtual 63, 3) := by decide +kernel
theorem dL_law_554 : decode cL_law 554 = .ok (.lcmp, 1) := by decide +kernel
theorem dL_law_555 : decode cL_law 555 = .ok (.ifCond .eq 325, 3) := by decide +kernel
theorem dL_law_558 : decode cL_law 558 = .ok (.iconst 0, 1) := by decide +kernel
theorem dL_law_559 : decode cL_law 559 = .ok (.ireturn, 1) := by decide +kernel
theorem dL_law_560 : decode cL_law 560 = .ok (.aload_n 1, 1) := by decide +kernel
theorem dL_law_561 : decode cL_law 561 = .ok (.aload_n 0, 1) := by decide +kernel
theorem dL_law_562 : decode cL_law 562 = .ok (.iload_n 3, 1) := by decide +kernel
theorem dL_law_563 : decode cL_law 563 = .ok (.iconst 1, 1) := by decide +kernel
theorem dL_law_564 : decode cL_law 564 = .ok (.iadd, 1) := by decide +kernel
theorem dL_law_565 : decode cL_law 565 = .ok (.iaload, 1) := by decide +kernel
theorem dL_law_566 : decode cL_law 566 = .ok (.aload_n 0, 1) := by decide +kernel
theorem dL_law_567 : decode cL_law 567 = .ok (.iload_n 3, 1) := by decide +kernel
theorem dL_law_568 : decode cL_law 568 = .ok (.iconst 2, 1) := by decide +kernel
theorem dL_law_569 : decode cL_law 569 = .ok (.iadd, 1) := by decide +kernel
theorem dL_law_570 : decode cL_law 570 = .ok (.iaload, 1) := by decide +kernel
theorem dL_law_571 : decode cL_law 571 = .ok (.invokevirtual 64, 3) := by decide +kernel
theorem dL_law_574 : decode cL_law 574 = .ok (.aload_n 2, 1) := by decide +kernel
theorem dL_law_575 : decode cL_law 575 = .ok (.aload_n 0, 1) := by decide +kernel
theorem dL_law_576 : decode cL_law 576 = .ok (.iload_n 3, 1) := by decide +kernel
theorem dL_law_577 : decode cL_law 577 = .ok (.iconst 1, 1) := by decide +kernel
theorem dL_law_578 : decode cL_law 578 = .ok (.iadd, 1) := by decide +kernel
theorem dL_law_579 : decode cL_law 579 = .ok (.iaload, 1) := by decide +kernel
theorem dL_law_580 : decode cL_law 580 = .ok (.aload_n 0, 1) := by decide +kernel
theorem dL_law_581 : decode cL_law 581 = .ok (.iload_n 3, 1) := by decide +kernel
theorem dL_law_582 : decode cL_law 582 = .ok (.iconst 2, 1) := by decide +kernel
theorem dL_law_583 : decode cL_law 583 = .ok (.iadd, 1) := by decide +kernel
theorem dL_law_584 : decode cL_law 584 = .ok (.iaload, 1) := by decide +kernel
theorem dL_law_585 : decode cL_law 585 = .ok (.invokevirtual 67, 3) := by decide +kernel
theorem dL_law_588 : decode cL_law 588 = .ok (.if_icmp .eq 292, 3) := by decide +kernel
theorem dL_law_591 : decode cL_law 591 = .ok (.iconst 0, 1) := by decide +kernel
theorem dL_law_592 : decode cL_law 592 = .ok (.ireturn, 1) := by decide +kernel
theorem dL_law_593 : decode cL_law 593 = .ok (.aload_n 1, 1) := by decide +kernel
theorem dL_law_594 : decode cL_law 594 = .ok (.aload_n 0, 1) := by decide +kernel
theorem dL_law_595 : decode cL_law 595 = .ok (.iload_n 3, 1) := by decide +kernel
theorem dL_law_596 : decode cL_law 596 = .ok (.iconst 1, 1) := by decide +kernel
theorem dL_law_597 : decode cL_law 597 = .ok (.iadd, 1) := by decide +kernel
theorem dL_law_598 : decode cL_law 598 = .ok (.iaload, 1) := by decide +kernel
theorem dL_law_599 : decode cL_law 599 = .ok (.aload_n 0, 1) := by decide +kernel
theorem dL_law_600 : decode cL_law 600 = .ok (.iload_n 3, 1) := by decide +kernel
theorem dL_law_601 : decode cL_law 601 = .ok (.iconst 2, 1) := by decide +kernel
theorem dL_law_602 : decode cL_law 602 = .ok (.iadd, 1) := by decide +kernel
theorem dL_law_603 : decode cL_law 603 = .ok (.iaload, 1) := by decide +kernel
theorem dL_law_604 : decode cL_law 604 = .ok (.invokevirtual 68, 3) := by decide +kernel
theorem dL_law_607 : decode cL_law 607 = .ok (.aload_n 2, 1) := by decide +kernel
theorem dL_law_608 : decode cL_law 608 = .ok (.aload_n 0, 1) := by decide +kernel
theorem dL_law_609 : decode cL_law 609 = .ok (.iload_n 3, 1) := by decide +kernel
theorem dL_law_610 : decode cL_law 610 = .ok (.iconst 1, 1) := by decide +kernel
theorem dL_law_611 : decode cL_law 611 = .ok (.iadd, 1) := by decide +kernel
theorem dL_law_612 : decode cL_law 612 = .ok (.iaload, 1) := by decide +kernel
theorem dL_law_613 : decode cL_law 613 = .ok (.aload_n 0, 1) := by decide +kernel
theorem dL_law_614 : decode cL_law 614 = .ok (.iload_n 3, 1) := by decide +kernel
theorem dL_law_615 : decode cL_law 615 = .ok (.iconst 2, 1) := by decide +kernel
theorem dL_law_616 : decode cL_law 616 = .ok (.iadd, 1) := by decide +kernel
theorem dL_law_617 : decode cL_law 617 = .ok (.iaload, 1) := by decide +kernel
theorem dL_law_618 : decode cL_law 618 = .ok (.invokevirtual 71, 3) := by decide +kernel
theorem dL_law_621 : decode cL_law 621 = .ok (.if_icmp .eq 259, 3) := by decide +kernel
theorem dL_law_624 : decode cL_law 624 = .ok (.iconst 0, 1) := by decide +kernel
theorem dL_law_625 : decode cL_law 625 = .ok (.ireturn, 1) := by decide +kernel
theorem dL_law_626 : decode cL_law 626 = .ok (.aload_n 1, 1) := by decide +kernel
theorem dL_law_627 : decode cL_law 627 = .ok (.aload_n 0, 1) := by decide +kernel
theorem dL_law_628 : decode cL_law 628 = .ok (.iload_n 3, 1) := by decide +kernel
theorem dL_law_629 : decode cL_law 629 = .ok (.iconst 1, 1) := by decide +kernel
theorem dL_law_630 : decode cL_law 630 = .ok (.iadd, 1) := by decide +kernel
theorem dL_law_631 : decode cL_law 631 = .ok (.iaload, 1) := by decide +kernel
theorem dL_law_632 : decode cL_law 632 = .ok (.invokevirtual 72, 3) := by decide +kernel
theorem dL_law_635 : decode cL_law 635 = .ok (.aload_n 2, 1) := by decide +kernel
theorem dL_law_636 : decode cL_law 636 = .ok (.aload_n 0, 1) := by decide +kernel
theorem dL_law_637 : decode cL_law 637 = .ok (.iload_n 3, 1) := by decide +kernel
theorem dL_law_638 : decode cL_law 638 = .ok (.iconst 1, 1) := by decide +kernel
theorem dL_law_639 : decode cL_law 639 = .ok (.iadd, 1) := by decide +kernel
theorem dL_law_640 : decode cL_law 640 = .ok (.iaload, 1) := by decide +kernel
theorem dL_law_641 : decode cL_law 641 = .ok (.invokevirtual 75, 3) := by decide +kernel
theorem dL_law_644 : decode cL_law 644 = .ok (.if_icmp .eq 236, 3) := by decide +kernel
theorem dL_law_647 : decode cL_law 647 = .ok (.iconst 0, 1) := by decide +kernel
theorem dL_law_648 : decode cL_law 648 = .ok (.ireturn, 1) := by decide +kernel
theorem dL_law_649 : decode cL_law 649 = .ok (.aload_n 1, 1) := by decide +kernel
theorem dL_law_650 : decode cL_law 650 = .ok (.aload_n 0, 1) := by decide +kernel
theorem dL_law_651 : decode cL_law 651 = .ok (.iload_n 3, 1) := by decide +kernel
theorem dL_law_652 : decode cL_law 652 = .ok (.iconst 1, 1) := by decide +kernel
theorem dL_law_653 : decode cL_law 653 = .ok (.iadd, 1) := by decide +kernel
theorem dL_law_654 : decode cL_law 654 = .ok (.iaload, 1) := by decide +kernel
theorem dL_law_655 : decode cL_law 655 = .ok (.invokevirtual 76, 3) := by decide +kernel
theorem dL_law_658 : decode cL_law 658 = .ok (.aload_n 2, 1) := by decide +kernel
theorem dL_law_659 : decode cL_law 659 = .ok (.aload_n 0, 1) := by decide +kernel
theorem dL_law_660 : decode cL_law 660 = .ok (.iload_n 3, 1) := by decide +kernel
theorem dL_law_661 : decode cL_law 661 = .ok (.iconst 1, 1) := by decide +kernel
theorem dL_law_662 : decode cL_law 662 = .ok (.iadd, 1) := by decide +kernel
theorem dL_law_663 : decode cL_law 663 = .ok (.iaload, 1) := by decide +kernel
theorem dL_law_664 : decode cL_law 664 = .ok (.invokevirtual 79, 3) := by decide +kernel
theorem dL_law_667 : decode cL_law 667 = .ok (.if_icmp .eq 213, 3) := by decide +kernel
theorem dL_law_670 : decode cL_law 670 = .ok (.iconst 0, 1) := by decide +kernel
theorem dL_law_671 : decode cL_law 671 = .ok (.ireturn, 1) := by decide +kernel
theorem dL_law_672 : decode cL_law 672 = .ok (.aload_n 1, 1) := by decide +kernel
theorem dL_law_673 : decode cL_law 673 = .ok (.aload_n 0, 1) := by decide +kernel
theorem dL_law_674 : decode cL_law 674 = .ok (.iload_n 3, 1) := by decide +kernel
theorem dL_law_675 : decode cL_law 675 = .ok (.iconst 1, 1) := by decide +kernel
theorem dL_law_676 : decode cL_law 676 = .ok (.iadd, 1) := by decide +kernel
theorem dL_law_677 : decode cL_law 677 = .ok (.iaload, 1) := by decide +kernel
theorem dL_law_678 : decode cL_law 678 = .ok (.aload_n 0, 1) := by decide +kernel
theorem dL_law_679 : decode cL_law 679 = .ok (.iload_n 3, 1) := by decide +kernel
theorem dL_law_680 : decode cL_law 680 = .ok (.iconst 2, 1) := by decide +kernel
theorem dL_law_681 : decode cL_law 681 = .ok (.iadd, 1) := by decide +kernel
theorem dL_law_682 : decode cL_law 682 = .ok (.iaload, 1) := by decide +kernel
theorem dL_law_683 : decode cL_law 683 = .ok (.invokevirtual 80, 3) := by decide +kernel
theorem dL_law_686 : decode cL_law 686 = .ok (.aload_n 2, 1) := by decide +kernel
theorem dL_law_687 : decode cL_law 687 = .ok (.aload_n 0, 1) := by decide +kernel
theorem dL_law_688 : decode cL_law 688 = .ok (.iload_n 3, 1) := by decide +kernel
theorem dL_law_689 : decode cL_law 689 = .ok (.iconst 1, 1) := by decide +kernel
theorem dL_law_690 : decode cL_law 690 = .ok (.iadd, 1) := by decide +kernel
theorem dL_law_691 : decode cL_law 691 = .ok (.iaload, 1) := by decide +kernel
theorem dL_law_692 : decode cL_law 692 = .ok (.aload_n 0, 1) := by decide +kernel
theorem dL_law_693 : decode cL_law 693 = .ok (.iload_n 3, 1) := by decide +kernel
theorem dL_law_694 : decode cL_law 694 = .ok (.iconst 2, 1) := by decide +kernel
theorem dL_law_695 : decode cL_law 695 = .ok (.iadd, 1) := by decide +kernel
theorem dL_law_696 : decode cL_law 696 = .ok (.iaload, 1) := by decide +kernel
theorem dL_law_697 : decode cL_law 697 = .ok (.invokevirtual 83, 3) := by decide +kernel
theorem dL_law_700 : decode cL_law 700 = .ok (.if_icmp .eq 180, 3) := by decide +kernel
theorem dL_law_703 : decode cL_law 703 = .ok (.iconst 0, 1) := by decide +kernel
theorem dL_law_704 : decode cL_law 704 = .ok (.ireturn, 1) := by decide +kernel
theorem dL_law_705 : decode cL_law 705 = .ok (.aload_n 1, 1) := by decide +kernel
theorem dL_law_706 : decode cL_law 706 = .ok (.aload_n 0, 1) := by decide +kernel
theorem dL_law_707 : decode cL_law 707 = .ok (.iload_n 3, 1) := by decide +kernel
theorem dL_law_708 : decode cL_law 708 = .ok (.iconst 1, 1) := by decide +kernel
theorem dL_law_709 : decode cL_law 709 = .ok (.iadd, 1) := by decide +kernel
theorem dL_law_710 : decode cL_law 710 = .ok (.iaload, 1) := by decide +kernel
theorem dL_law_711 : decode cL_law 711 = .ok (.invokevirtual 84, 3) := by decide +kernel
theorem dL_law_714 : decode cL_law 714 = .ok (.aload_n 2, 1) := by decide +kernel
theorem dL_law_715 : decode cL_law 715 = .ok (.aload_n 0, 1) := by decide +kernel
theorem dL_law_716 : decode cL_law 716 = .ok (.iload_n 3, 1) := by decide +kernel
theorem dL_law_717 : decode cL_law 717 = .ok (.iconst 1, 1) := by decide +kernel
theorem dL_law_718 : decode cL_law 718 = .ok (.iadd, 1) := by decide +kernel
theorem dL_law_719 : decode cL_law 719 = .ok (.iaload, 1) := by decide +kernel
theorem dL_law_720 : decode cL_law 720 = .ok (.invokevirtual 87, 3) := by decide +kernel
theorem dL_law_723 : decode cL_law 723 = .ok (.if_icmp .eq 157, 3) := by decide +kernel
theorem dL_law_726 : decode cL_law 726 = .ok (.iconst 0, 1) := by decide +kernel
theorem dL_law_727 : decode cL_law 727 = .ok (.ireturn, 1) := by decide +kernel
theorem dL_law_728 : decode cL_law 728 = .ok (.aload_n 1, 1) := by decide +kernel
theorem dL_law_729 : decode cL_law 729 = .ok (.aload_n 0, 1) := by decide +kernel
theorem dL_law_730 : decode cL_law 730 = .ok (.iload_n 3, 1) := by decide +kernel
theorem dL_law_731 : decode cL_law 731 = .ok (.iconst 1, 1) := by decide +kernel
theorem dL_law_732 : decode cL_law 732 = .ok (.iadd, 1) := by decide +kernel
theorem dL_law_733 : decode cL_law 733 = .ok (.iaload, 1) := by decide +kernel
theorem dL_law_734 : decode cL_law 734 = .ok (.aload_n 0, 1) := by decide +kernel
theorem dL_law_735 : decode cL_law 735 = .ok (.iload_n 3, 1) := by decide +kernel
theorem dL_law_736 : decode cL_law 736 = .ok (.iconst 2, 1) := by decide +kernel
theorem dL_law_737 : decode cL_law 737 = .ok (.iadd, 1) := by decide +kernel
theorem dL_law_738 : decode cL_law 738 = .ok (.iaload, 1) := by decide +kernel
theorem dL_law_739 : decode cL_law 739 = .ok (.aload_n 0, 1) := by decide +kernel
theorem dL_law_740 : decode cL_law 740 = .ok (.iload_n 3, 1) := by decide +kernel
theorem dL_law_741 : decode cL_law 741 = .ok (.iconst 3, 1) := by decide +kernel
theorem dL_law_742 : decode cL_law 742 = .ok (.iadd, 1) := by decide +kernel
theorem dL_law_743 : decode cL_law 743 = .ok (.iaload, 1) := by decide +kernel
theorem dL_law_744 : decode cL_law 744 = .ok (.invokevirtual 88, 3) := by decide +kernel
theorem dL_law_747 : decode cL_law 747 = .ok (.aload_n 2, 1) := by decide +kernel
theorem dL_law_748 : decode cL_law 748 = .ok (.aload_n 0, 1) := by decide +kernel
theorem dL_law_749 : decode cL_law 749 = .ok (.iload_n 3, 1) := by decide +kernel
theorem dL_law_750 : decode cL_law 750 = .ok (.iconst 1, 1) := by decide +kernel
theorem dL_law_751 : decode cL_law 751 = .ok (.iadd, 1) := by decide +kernel
theorem dL_law_752 : decode cL_law 752 = .ok (.iaload, 1) := by decide +kernel
theorem dL_law_753 : decode cL_law 753 = .ok (.aload_n 0, 1) := by decide +kernel
theorem dL_law_754 : decode cL_law 754 = .ok (.iload_n 3, 1) := by decide +kernel
theorem dL_law_755 : decode cL_law 755 = .ok (.iconst 2, 1) := by decide +kernel
theorem dL_law_756 : decode cL_law 756 = .ok (.iadd, 1) := by decide +kernel
theorem dL_law_757 : decode cL_law 757 = .ok (.iaload, 1) := by decide +kernel
theorem dL_law_758 : decode cL_law 758 = .ok (.aload_n 0, 1) := by decide +kernel
theorem dL_law_759 : decode cL_law 759 = .ok (.iload_n 3, 1) := by decide +kernel
theorem dL_law_760 : decode cL_law 760 = .ok (.iconst 3, 1) := by decide +kernel
theorem dL_law_761 : decode cL_law 761 = .ok (.iadd, 1) := by decide +kernel
theorem dL_law_762 : decode cL_law 762 = .ok (.iaload, 1) := by decide +kernel
theorem dL_law_763 : decode cL_law 763 = .ok (.invokevirtual 91, 3) := by decide +kernel
theorem dL_law_766 : decode cL_law 766 = .ok (.if_icmp .eq 114, 3) := by decide +kernel
theorem dL_law_769 : decode cL_law 769 = .ok (.iconst 0, 1) := by decide +kernel
theorem dL_law_770 : decode cL_law 770 = .ok (.ireturn, 1) := by decide +kernel
theorem dL_law_771 : decode cL_law 771 = .ok (.aload_n 1, 1) := by decide +kernel
theorem dL_law_772 : decode cL_law 772 = .ok (.aload_n 0, 1) := by decide +kernel
theorem dL_law_773 : decode cL_law 773 = .ok (.iload_n 3, 1) := by decide +kernel
theorem dL_law_774 : decode cL_law 774 = .ok (.iconst 1, 1) := by decide +kernel
theorem dL_law_775 : decode cL_law 775 = .ok (.iadd, 1) := by decide +kernel
theorem dL_law_776 : decode cL_law 776 = .ok (.iaload, 1) := by decide +kernel
theorem dL_law_777 : decode cL_law 777 = .ok (.aload_n 0, 1) := by decide +kernel
theorem dL_law_778 : decode cL_law 778 = .ok (.iload_n 3, 1) := by decide +kernel
theorem dL_law_779 : decode cL_law 779 = .ok (.iconst 2, 1) := by decide +kernel
theorem dL_law_780 : decode cL_law 780 = .ok (.iadd, 1) := by decide +kernel
theorem dL_law_781 : decode cL_law 781 = .ok (.iaload, 1) := by decide +kernel
theorem dL_law_782 : decode cL_law 782 = .ok (.invokevirtual 92, 3) := by decide +kernel
theorem dL_law_785 : decode cL_law 785 = .ok (.aload_n 2, 1) := by decide +kernel
theorem dL_law_786 : decode cL_law 786 = .ok (.aload_n 0, 1) := by decide +kernel
theorem dL_law_787 : decode cL_law 787 = .ok (.iload_n 3, 1) := by decide +kernel
theorem dL_law_788 : decode cL_law 788 = .ok (.iconst 1, 1) := by decide +kernel
theorem dL_law_789 : decode cL_law 789 = .ok (.iadd, 1) := by decide +kernel
theorem dL_law_790 : decode cL_law 790 = .ok (.iaload, 1) := by decide +kernel
theorem dL_law_791 : decode cL_law 791 = .ok (.aload_n 0, 1) := by decide +kernel
theorem dL_law_792 : decode cL_law 792 = .ok (.iload_n 3, 1) := by decide +kernel
theorem dL_law_793 : decode cL_law 793 = .ok (.iconst 2, 1) := by decide +kernel
theorem dL_law_794 : decode cL_law 794 = .ok (.iadd, 1) := by decide +kernel
theorem dL_law_795 : decode cL_law 795 = .ok (.iaload, 1) := by decide +kernel
theorem dL_law_796 : decode cL_law 796 = .ok (.invokevirtual 95, 3) := by decide +kernel
theorem dL_law_799 : decode cL_law 799 = .ok (.if_icmp .eq 81, 3) := by decide +kernel
theorem dL_law_802 : decode cL_law 802 = .ok (.iconst 0, 1) := by decide +kernel
theorem dL_law_803 : decode cL_law 803 = .ok (.ireturn, 1) := by decide +kernel
theorem dL_law_804 : decode cL_law 804 = .ok (.aload_n 1, 1) := by decide +kernel
theorem dL_law_805 : decode cL_law 805 = .ok (.aload_n 0, 1) := by decide +kernel
theorem dL_law_806 : decode cL_law 806 = .ok (.iload_n 3, 1) := by decide +kernel
theorem dL_law_807 : decode cL_law 807 = .ok (.iconst 1, 1) := by decide +kernel
theorem dL_law_808 : decode cL_law 808 = .ok (.iadd, 1) := by decide +kernel
theorem dL_law_809 : decode cL_law 809 = .ok (.iaload, 1) := by decide +kernel
theorem dL_law_810 : decode cL_law 810 = .ok (.aload_n 0, 1) := by decide +kernel
theorem dL_law_811 : decode cL_law 811 = .ok (.iload_n 3, 1) := by decide +kernel
theorem dL_law_812 : decode cL_law 812 = .ok (.iconst 2, 1) := by decide +kernel
theorem dL_law_813 : decode cL_law 813 = .ok (.iadd, 1) := by decide +kernel
theorem dL_law_814 : decode cL_law 814 = .ok (.iaload, 1) := by decide +kernel
theorem dL_law_815 : decode cL_law 815 = .ok (.invokevirtual 96, 3) := by decide +kernel
theorem dL_law_818 : decode cL_law 818 = .ok (.aload_n 2, 1) := by decide +kernel
theorem dL_law_819 : decode cL_law 819 = .ok (.aload_n 0, 1) := by decide +kernel
theorem dL_law_820 : decode cL_law 820 = .ok (.iload_n 3, 1) := by decide +kernel
theorem dL_law_821 : decode cL_law 821 = .ok (.iconst 1, 1) := by decide +kernel
theorem dL_law_822 : decode cL_law 822 = .ok (.iadd, 1) := by decide +kernel
theorem dL_law_823 : decode cL_law 823 = .ok (.iaload, 1) := by decide +kernel
theorem dL_law_824 : decode cL_law 824 = .ok (.aload_n 0, 1) := by decide +kernel
theorem dL_law_825 : decode cL_law 825 = .ok (.iload_n 3, 1) := by decide +kernel
theorem dL_law_826 : decode cL_law 826 = .ok (.iconst 2, 1) := by decide +kernel
theorem dL_law_827 : decode cL_law 827 = .ok (.iadd, 1) := by decide +kernel
theorem dL_law_828 : decode cL_law 828 = .ok (.iaload, 1) := by decide +kernel
theorem dL_law_829 : decode cL_law 829 = .ok (.invokevirtual 99, 3) := by decide +kernel
theorem dL_law_832 : decode cL_law 832 = .ok (.if_icmp .eq 48, 3) := by decide +kernel
theorem dL_law_835 : decode cL_law 835 = .ok (.iconst 0, 1) := by decide +kernel
theorem dL_law_836 : decode cL_law 836 = .ok (.ireturn, 1) := by decide +kernel
theorem dL_law_837 : decode cL_law 837 = .ok (.aload_n 1, 1) := by decide +kernel
theorem dL_law_838 : decode cL_law 838 = .ok (.aload_n 0, 1) := by decide +kernel
theorem dL_law_839 : decode cL_law 839 = .ok (.iload_n 3, 1) := by decide +kernel
theorem dL_law_840 : decode cL_law 840 = .ok (.iconst 1, 1) := by decide +kernel
theorem dL_law_841 : decode cL_law 841 = .ok (.iadd, 1) := by decide +kernel
theorem dL_law_842 : decode cL_law 842 = .ok (.iaload, 1) := by decide +kernel
theorem dL_law_843 : decode cL_law 843 = .ok (.aload_n 0, 1) := by decide +kernel
theorem dL_law_844 : decode cL_law 844 = .ok (.iload_n 3, 1) := by decide +kernel
theorem dL_law_845 : decode cL_law 845 = .ok (.iconst 2, 1) := by decide +kernel
theorem dL_law_846 : decode cL_law 846 = .ok (.iadd, 1) := by decide +kernel
theorem dL_law_847 : decode cL_law 847 = .ok (.iaload, 1) := by decide +kernel
theorem dL_law_848 : decode cL_law 848 = .ok (.aload_n 0, 1) := by decide +kernel
theorem dL_law_849 : decode cL_law 849 = .ok (.iload_n 3, 1) := by decide +kernel
theorem dL_law_850 : decode cL_law 850 = .ok (.iconst 3, 1) := by decide +kernel
theorem dL_law_851 : decode cL_law 851 = .ok (.iadd, 1) := by decide +kernel
theorem dL_law_852 : decode cL_law 852 = .ok (.iaload, 1) := by decide +kernel
theorem dL_law_853 : decode cL_law 853 = .ok (.invokevirtual 100, 3) := by decide +kernel
theorem dL_law_856 : decode cL_law 856 = .ok (.aload_n 2, 1) := by decide +kernel
theorem dL_law_857 : decode cL_law 857 = .ok (.aload_n 0, 1) := by decide +kernel
theorem dL_law_858 : decode cL_law 858 = .ok (.iload_n 3, 1) := by decide +kernel
theorem dL_law_859 : decode cL_law 859 = .ok (.iconst 1, 1) := by decide +kernel
theorem dL_law_860 : decode cL_law 860 = .ok (.iadd, 1) := by decide +kernel
theorem dL_law_861 : decode cL_law 861 = .ok (.iaload, 1) := by decide +kernel
theorem dL_law_862 : decode cL_law 862 = .ok (.aload_n 0, 1) := by decide +kernel
theorem dL_law_863 : decode cL_law 863 = .ok (.iload_n 3, 1) := by decide +kernel
theorem dL_law_864 : decode cL_law 864 = .ok (.iconst 2, 1) := by decide +kernel
theorem dL_law_865 : decode cL_law 865 = .ok (.iadd, 1) := by decide +kernel
theorem dL_law_866 : decode cL_law 866 = .ok (.iaload, 1) := by decide +kernel
theorem dL_law_867 : decode cL_law 867 = .ok (.aload_n 0, 1) := by decide +kernel
theorem dL_law_868 : decode cL_law 868 = .ok (.iload_n 3, 1) := by decide +kernel
theorem dL_law_869 : decode cL_law 869 = .ok (.iconst 3, 1) := by decide +kernel
theorem dL_law_870 : decode cL_law 870 = .ok (.iadd, 1) := by decide +kernel
theorem dL_law_871 : decode cL_law 871 = .ok (.iaload, 1) := by decide +kernel
theorem dL_law_872 : decode cL_law 872 = .ok (.invokevirtual 103, 3) := by decide +kernel
theorem dL_law_875 : decode cL_law 875 = .ok (.if_icmp .eq 5, 3) := by decide +kernel
theorem dL_law_878 : decode cL_law 878 = .ok (.iconst 0, 1) := by decide +kernel
theorem dL_law_879 : decode cL_law 879 = .ok (.ireturn, 1) := by decide +kernel
theorem dL_law_880 : decode cL_law 880 = .ok (.iinc 3 5, 3) := by decide +kernel
theorem dL_law_883 : decode cL_law 883 = .ok (.goto (-865), 3) := by decide +kernel
theorem dL_law_886 : decode cL_law 886 = .ok (.iconst 1, 1) := by decide +kernel
theorem dL_law_887 : decode cL_law 887 = .ok (.ireturn, 1) := by decide +kernel
