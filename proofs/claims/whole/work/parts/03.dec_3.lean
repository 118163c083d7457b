theorem dX0_init_0 : decode cX0_init 0 = .ok (.aload_n 0, 1) := by decide +kernel
theorem dX0_init_1 : decode cX0_init 1 = .ok (.invokespecial 3, 3) := by decide +kernel
theorem dX0_init_4 : decode cX0_init 4 = .ok (.aload_n 0, 1) := by decide +kernel
theorem dX0_init_5 : decode cX0_init 5 = .ok (.bipush 60, 2) := by decide +kernel
theorem dX0_init_7 : decode cX0_init 7 = .ok (.newarray .int, 2) := by decide +kernel
theorem dX0_init_9 : decode cX0_init 9 = .ok (.putfield 9, 3) := by decide +kernel
theorem dX0_init_12 : decode cX0_init 12 = .ok (.aload_n 0, 1) := by decide +kernel
theorem dX0_init_13 : decode cX0_init 13 = .ok (.bipush 60, 2) := by decide +kernel
theorem dX0_init_15 : decode cX0_init 15 = .ok (.newarray .int, 2) := by decide +kernel
theorem dX0_init_17 : decode cX0_init 17 = .ok (.putfield 15, 3) := by decide +kernel
theorem dX0_init_20 : decode cX0_init 20 = .ok (.aload_n 0, 1) := by decide +kernel
theorem dX0_init_21 : decode cX0_init 21 = .ok (.bipush 60, 2) := by decide +kernel
theorem dX0_init_23 : decode cX0_init 23 = .ok (.newarray .int, 2) := by decide +kernel
theorem dX0_init_25 : decode cX0_init 25 = .ok (.putfield 18, 3) := by decide +kernel
theorem dX0_init_28 : decode cX0_init 28 = .ok (.aload_n 0, 1) := by decide +kernel
theorem dX0_init_29 : decode cX0_init 29 = .ok (.bipush 60, 2) := by decide +kernel
theorem dX0_init_31 : decode cX0_init 31 = .ok (.newarray .boolean, 2) := by decide +kernel
theorem dX0_init_33 : decode cX0_init 33 = .ok (.putfield 21, 3) := by decide +kernel
theorem dX0_init_36 : decode cX0_init 36 = .ok (.aload_n 0, 1) := by decide +kernel
theorem dX0_init_37 : decode cX0_init 37 = .ok (.iconst 4, 1) := by decide +kernel
theorem dX0_init_38 : decode cX0_init 38 = .ok (.bipush 61, 2) := by decide +kernel
theorem dX0_init_40 : decode cX0_init 40 = .ok (.multianewarray 25 2, 4) := by decide +kernel
theorem dX0_init_44 : decode cX0_init 44 = .ok (.putfield 27, 3) := by decide +kernel
theorem dX0_init_47 : decode cX0_init 47 = .ok (.aload_n 0, 1) := by decide +kernel
theorem dX0_init_48 : decode cX0_init 48 = .ok (.bipush 8, 2) := by decide +kernel
theorem dX0_init_50 : decode cX0_init 50 = .ok (.putfield 30, 3) := by decide +kernel
theorem dX0_init_53 : decode cX0_init 53 = .ok (.return_, 1) := by decide +kernel
theorem dX0_has_0 : decode cX0_has 0 = .ok (.iload_n 1, 1) := by decide +kernel
theorem dX0_has_1 : decode cX0_has 1 = .ok (.ifCond .lt 15, 3) := by decide +kernel
theorem dX0_has_4 : decode cX0_has 4 = .ok (.iload_n 1, 1) := by decide +kernel
theorem dX0_has_5 : decode cX0_has 5 = .ok (.aload_n 0, 1) := by decide +kernel
theorem dX0_has_6 : decode cX0_has 6 = .ok (.getfield 34, 3) := by decide +kernel
theorem dX0_has_9 : decode cX0_has 9 = .ok (.if_icmp .ge 7, 3) := by decide +kernel
theorem dX0_has_12 : decode cX0_has 12 = .ok (.iconst 1, 1) := by decide +kernel
theorem dX0_has_13 : decode cX0_has 13 = .ok (.goto 4, 3) := by decide +kernel
theorem dX0_has_16 : decode cX0_has 16 = .ok (.iconst 0, 1) := by decide +kernel
theorem dX0_has_17 : decode cX0_has 17 = .ok (.ireturn, 1) := by decide +kernel
theorem dX0_add_0 : decode cX0_add 0 = .ok (.aload_n 0, 1) := by decide +kernel
theorem dX0_add_1 : decode cX0_add 1 = .ok (.getfield 34, 3) := by decide +kernel
theorem dX0_add_4 : decode cX0_add 4 = .ok (.istore_n 3, 1) := by decide +kernel
theorem dX0_add_5 : decode cX0_add 5 = .ok (.aload_n 0, 1) := by decide +kernel
theorem dX0_add_6 : decode cX0_add 6 = .ok (.getfield 9, 3) := by decide +kernel
theorem dX0_add_9 : decode cX0_add 9 = .ok (.iload_n 3, 1) := by decide +kernel
theorem dX0_add_10 : decode cX0_add 10 = .ok (.iload_n 1, 1) := by decide +kernel
theorem dX0_add_11 : decode cX0_add 11 = .ok (.iastore, 1) := by decide +kernel
theorem dX0_add_12 : decode cX0_add 12 = .ok (.aload_n 0, 1) := by decide +kernel
theorem dX0_add_13 : decode cX0_add 13 = .ok (.getfield 15, 3) := by decide +kernel
theorem dX0_add_16 : decode cX0_add 16 = .ok (.iload_n 3, 1) := by decide +kernel
theorem dX0_add_17 : decode cX0_add 17 = .ok (.iload_n 2, 1) := by decide +kernel
theorem dX0_add_18 : decode cX0_add 18 = .ok (.iastore, 1) := by decide +kernel
theorem dX0_add_19 : decode cX0_add 19 = .ok (.aload_n 0, 1) := by decide +kernel
theorem dX0_add_20 : decode cX0_add 20 = .ok (.iload_n 3, 1) := by decide +kernel
theorem dX0_add_21 : decode cX0_add 21 = .ok (.iconst 1, 1) := by decide +kernel
theorem dX0_add_22 : decode cX0_add 22 = .ok (.iadd, 1) := by decide +kernel
theorem dX0_add_23 : decode cX0_add 23 = .ok (.putfield 34, 3) := by decide +kernel
theorem dX0_add_26 : decode cX0_add 26 = .ok (.iload_n 3, 1) := by decide +kernel
theorem dX0_add_27 : decode cX0_add 27 = .ok (.ireturn, 1) := by decide +kernel
theorem dX0_setRead_0 : decode cX0_setRead 0 = .ok (.aload_n 0, 1) := by decide +kernel
theorem dX0_setRead_1 : decode cX0_setRead 1 = .ok (.getfield 18, 3) := by decide +kernel
theorem dX0_setRead_4 : decode cX0_setRead 4 = .ok (.iload_n 1, 1) := by decide +kernel
theorem dX0_setRead_5 : decode cX0_setRead 5 = .ok (.iload_n 2, 1) := by decide +kernel
theorem dX0_setRead_6 : decode cX0_setRead 6 = .ok (.iastore, 1) := by decide +kernel
theorem dX0_setRead_7 : decode cX0_setRead 7 = .ok (.aload_n 0, 1) := by decide +kernel
theorem dX0_setRead_8 : decode cX0_setRead 8 = .ok (.getfield 21, 3) := by decide +kernel
theorem dX0_setRead_11 : decode cX0_setRead 11 = .ok (.iload_n 1, 1) := by decide +kernel
theorem dX0_setRead_12 : decode cX0_setRead 12 = .ok (.iconst 1, 1) := by decide +kernel
theorem dX0_setRead_13 : decode cX0_setRead 13 = .ok (.bastore, 1) := by decide +kernel
theorem dX0_setRead_14 : decode cX0_setRead 14 = .ok (.return_, 1) := by decide +kernel
theorem dX0_setMended_0 : decode cX0_setMended 0 = .ok (.aload_n 0, 1) := by decide +kernel
theorem dX0_setMended_1 : decode cX0_setMended 1 = .ok (.getfield 27, 3) := by decide +kernel
theorem dX0_setMended_4 : decode cX0_setMended 4 = .ok (.iload_n 1, 1) := by decide +kernel
theorem dX0_setMended_5 : decode cX0_setMended 5 = .ok (.aaload, 1) := by decide +kernel
theorem dX0_setMended_6 : decode cX0_setMended 6 = .ok (.aload_n 0, 1) := by decide +kernel
theorem dX0_setMended_7 : decode cX0_setMended 7 = .ok (.getfield 34, 3) := by decide +kernel
theorem dX0_setMended_10 : decode cX0_setMended 10 = .ok (.iconst 1, 1) := by decide +kernel
theorem dX0_setMended_11 : decode cX0_setMended 11 = .ok (.iastore, 1) := by decide +kernel
theorem dX0_setMended_12 : decode cX0_setMended 12 = .ok (.return_, 1) := by decide +kernel
theorem dX0_howManyRead_0 : decode cX0_howManyRead 0 = .ok (.iconst 0, 1) := by decide +kernel
theorem dX0_howManyRead_1 : decode cX0_howManyRead 1 = .ok (.istore_n 1, 1) := by decide +kernel
theorem dX0_howManyRead_2 : decode cX0_howManyRead 2 = .ok (.iconst 0, 1) := by decide +kernel
theorem dX0_howManyRead_3 : decode cX0_howManyRead 3 = .ok (.istore_n 2, 1) := by decide +kernel
theorem dX0_howManyRead_4 : decode cX0_howManyRead 4 = .ok (.iload_n 2, 1) := by decide +kernel
theorem dX0_howManyRead_5 : decode cX0_howManyRead 5 = .ok (.aload_n 0, 1) := by decide +kernel
theorem dX0_howManyRead_6 : decode cX0_howManyRead 6 = .ok (.getfield 34, 3) := by decide +kernel
theorem dX0_howManyRead_9 : decode cX0_howManyRead 9 = .ok (.if_icmp .ge 21, 3) := by decide +kernel
theorem dX0_howManyRead_12 : decode cX0_howManyRead 12 = .ok (.aload_n 0, 1) := by decide +kernel
theorem dX0_howManyRead_13 : decode cX0_howManyRead 13 = .ok (.getfield 21, 3) := by decide +kernel
theorem dX0_howManyRead_16 : decode cX0_howManyRead 16 = .ok (.iload_n 2, 1) := by decide +kernel
theorem dX0_howManyRead_17 : decode cX0_howManyRead 17 = .ok (.baload, 1) := by decide +kernel
theorem dX0_howManyRead_18 : decode cX0_howManyRead 18 = .ok (.ifCond .eq 6, 3) := by decide +kernel
theorem dX0_howManyRead_21 : decode cX0_howManyRead 21 = .ok (.iinc 1 1, 3) := by decide +kernel
theorem dX0_howManyRead_24 : decode cX0_howManyRead 24 = .ok (.iinc 2 1, 3) := by decide +kernel
theorem dX0_howManyRead_27 : decode cX0_howManyRead 27 = .ok (.goto (-23), 3) := by decide +kernel
theorem dX0_howManyRead_30 : decode cX0_howManyRead 30 = .ok (.iload_n 1, 1) := by decide +kernel
theorem dX0_howManyRead_31 : decode cX0_howManyRead 31 = .ok (.ireturn, 1) := by decide +kernel
theorem dX0_stateAhead_0 : decode cX0_stateAhead 0 = .ok (.iconst 0, 1) := by decide +kernel
theorem dX0_stateAhead_1 : decode cX0_stateAhead 1 = .ok (.istore_n 3, 1) := by decide +kernel
theorem dX0_stateAhead_2 : decode cX0_stateAhead 2 = .ok (.iconst 0, 1) := by decide +kernel
theorem dX0_stateAhead_3 : decode cX0_stateAhead 3 = .ok (.istore 4, 2) := by decide +kernel
theorem dX0_stateAhead_5 : decode cX0_stateAhead 5 = .ok (.iload 4, 2) := by decide +kernel
theorem dX0_stateAhead_7 : decode cX0_stateAhead 7 = .ok (.iload_n 2, 1) := by decide +kernel
theorem dX0_stateAhead_8 : decode cX0_stateAhead 8 = .ok (.if_icmp .ge 81, 3) := by decide +kernel
theorem dX0_stateAhead_11 : decode cX0_stateAhead 11 = .ok (.aload_n 0, 1) := by decide +kernel
theorem dX0_stateAhead_12 : decode cX0_stateAhead 12 = .ok (.getfield 27, 3) := by decide +kernel
theorem dX0_stateAhead_15 : decode cX0_stateAhead 15 = .ok (.iload_n 1, 1) := by decide +kernel
theorem dX0_stateAhead_16 : decode cX0_stateAhead 16 = .ok (.aaload, 1) := by decide +kernel
theorem dX0_stateAhead_17 : decode cX0_stateAhead 17 = .ok (.iload 4, 2) := by decide +kernel
theorem dX0_stateAhead_19 : decode cX0_stateAhead 19 = .ok (.iaload, 1) := by decide +kernel
theorem dX0_stateAhead_20 : decode cX0_stateAhead 20 = .ok (.iconst 1, 1) := by decide +kernel
theorem dX0_stateAhead_21 : decode cX0_stateAhead 21 = .ok (.if_icmp .ne 5, 3) := by decide +kernel
theorem dX0_stateAhead_24 : decode cX0_stateAhead 24 = .ok (.iconst 0, 1) := by decide +kernel
theorem dX0_stateAhead_25 : decode cX0_stateAhead 25 = .ok (.istore_n 3, 1) := by decide +kernel
theorem dX0_stateAhead_26 : decode cX0_stateAhead 26 = .ok (.aload_n 0, 1) := by decide +kernel
theorem dX0_stateAhead_27 : decode cX0_stateAhead 27 = .ok (.getfield 9, 3) := by decide +kernel
theorem dX0_stateAhead_30 : decode cX0_stateAhead 30 = .ok (.iload 4, 2) := by decide +kernel
theorem dX0_stateAhead_32 : decode cX0_stateAhead 32 = .ok (.iaload, 1) := by decide +kernel
theorem dX0_stateAhead_33 : decode cX0_stateAhead 33 = .ok (.iload_n 1, 1) := by decide +kernel
theorem dX0_stateAhead_34 : decode cX0_stateAhead 34 = .ok (.if_icmp .ne 49, 3) := by decide +kernel
theorem dX0_stateAhead_37 : decode cX0_stateAhead 37 = .ok (.aload_n 0, 1) := by decide +kernel
theorem dX0_stateAhead_38 : decode cX0_stateAhead 38 = .ok (.getfield 21, 3) := by decide +kernel
theorem dX0_stateAhead_41 : decode cX0_stateAhead 41 = .ok (.iload 4, 2) := by decide +kernel
theorem dX0_stateAhead_43 : decode cX0_stateAhead 43 = .ok (.baload, 1) := by decide +kernel
theorem dX0_stateAhead_44 : decode cX0_stateAhead 44 = .ok (.ifCond .eq 39, 3) := by decide +kernel
theorem dX0_stateAhead_47 : decode cX0_stateAhead 47 = .ok (.sipush 1000, 3) := by decide +kernel
theorem dX0_stateAhead_50 : decode cX0_stateAhead 50 = .ok (.aload_n 0, 1) := by decide +kernel
theorem dX0_stateAhead_51 : decode cX0_stateAhead 51 = .ok (.getfield 18, 3) := by decide +kernel
theorem dX0_stateAhead_54 : decode cX0_stateAhead 54 = .ok (.iload 4, 2) := by decide +kernel
theorem dX0_stateAhead_56 : decode cX0_stateAhead 56 = .ok (.iaload, 1) := by decide +kernel
theorem dX0_stateAhead_57 : decode cX0_stateAhead 57 = .ok (.aload_n 0, 1) := by decide +kernel
theorem dX0_stateAhead_58 : decode cX0_stateAhead 58 = .ok (.getfield 15, 3) := by decide +kernel
theorem dX0_stateAhead_61 : decode cX0_stateAhead 61 = .ok (.iload 4, 2) := by decide +kernel
theorem dX0_stateAhead_63 : decode cX0_stateAhead 63 = .ok (.iaload, 1) := by decide +kernel
theorem dX0_stateAhead_64 : decode cX0_stateAhead 64 = .ok (.isub, 1) := by decide +kernel
theorem dX0_stateAhead_65 : decode cX0_stateAhead 65 = .ok (.imul, 1) := by decide +kernel
theorem dX0_stateAhead_66 : decode cX0_stateAhead 66 = .ok (.istore 5, 2) := by decide +kernel
theorem dX0_stateAhead_68 : decode cX0_stateAhead 68 = .ok (.iload_n 3, 1) := by decide +kernel
theorem dX0_stateAhead_69 : decode cX0_stateAhead 69 = .ok (.aload_n 0, 1) := by decide +kernel
theorem dX0_stateAhead_70 : decode cX0_stateAhead 70 = .ok (.getfield 30, 3) := by decide +kernel
theorem dX0_stateAhead_73 : decode cX0_stateAhead 73 = .ok (.iload 5, 2) := by decide +kernel
theorem dX0_stateAhead_75 : decode cX0_stateAhead 75 = .ok (.iload_n 3, 1) := by decide +kernel
theorem dX0_stateAhead_76 : decode cX0_stateAhead 76 = .ok (.isub, 1) := by decide +kernel
theorem dX0_stateAhead_77 : decode cX0_stateAhead 77 = .ok (.imul, 1) := by decide +kernel
theorem dX0_stateAhead_78 : decode cX0_stateAhead 78 = .ok (.bipush 16, 2) := by decide +kernel
theorem dX0_stateAhead_80 : decode cX0_stateAhead 80 = .ok (.idiv, 1) := by decide +kernel
theorem dX0_stateAhead_81 : decode cX0_stateAhead 81 = .ok (.iadd, 1) := by decide +kernel
theorem dX0_stateAhead_82 : decode cX0_stateAhead 82 = .ok (.istore_n 3, 1) := by decide +kernel
theorem dX0_stateAhead_83 : decode cX0_stateAhead 83 = .ok (.iinc 4 1, 3) := by decide +kernel
theorem dX0_stateAhead_86 : decode cX0_stateAhead 86 = .ok (.goto (-81), 3) := by decide +kernel
theorem dX0_stateAhead_89 : decode cX0_stateAhead 89 = .ok (.aload_n 0, 1) := by decide +kernel
theorem dX0_stateAhead_90 : decode cX0_stateAhead 90 = .ok (.getfield 27, 3) := by decide +kernel
theorem dX0_stateAhead_93 : decode cX0_stateAhead 93 = .ok (.iload_n 1, 1) := by decide +kernel
theorem dX0_stateAhead_94 : decode cX0_stateAhead 94 = .ok (.aaload, 1) := by decide +kernel
theorem dX0_stateAhead_95 : decode cX0_stateAhead 95 = .ok (.iload_n 2, 1) := by decide +kernel
theorem dX0_stateAhead_96 : decode cX0_stateAhead 96 = .ok (.iaload, 1) := by decide +kernel
theorem dX0_stateAhead_97 : decode cX0_stateAhead 97 = .ok (.iconst 1, 1) := by decide +kernel
theorem dX0_stateAhead_98 : decode cX0_stateAhead 98 = .ok (.if_icmp .ne 7, 3) := by decide +kernel
theorem dX0_stateAhead_101 : decode cX0_stateAhead 101 = .ok (.iconst 0, 1) := by decide +kernel
theorem dX0_stateAhead_102 : decode cX0_stateAhead 102 = .ok (.goto 4, 3) := by decide +kernel
theorem dX0_stateAhead_105 : decode cX0_stateAhead 105 = .ok (.iload_n 3, 1) := by decide +kernel
theorem dX0_stateAhead_106 : decode cX0_stateAhead 106 = .ok (.ireturn, 1) := by decide +kernel
theorem dX1_init_0 : decode cX1_init 0 = .ok (.aload_n 0, 1) := by decide +kernel
theorem dX1_init_1 : decode cX1_init 1 = .ok (.invokespecial 3, 3) := by decide +kernel
theorem dX1_init_4 : decode cX1_init 4 = .ok (.aload_n 0, 1) := by decide +kernel
theorem dX1_init_5 : decode cX1_init 5 = .ok (.new 9, 3) := by decide +kernel
theorem dX1_init_8 : decode cX1_init 8 = .ok (.dup, 1) := by decide +kernel
theorem dX1_init_9 : decode cX1_init 9 = .ok (.invokespecial 11, 3) := by decide +kernel
theorem dX1_init_12 : decode cX1_init 12 = .ok (.putfield 12, 3) := by decide +kernel
theorem dX1_init_15 : decode cX1_init 15 = .ok (.aload_n 0, 1) := by decide +kernel
theorem dX1_init_16 : decode cX1_init 16 = .ok (.iconst 2, 1) := by decide +kernel
theorem dX1_init_17 : decode cX1_init 17 = .ok (.iconst 4, 1) := by decide +kernel
theorem dX1_init_18 : decode cX1_init 18 = .ok (.multianewarray 18 2, 4) := by decide +kernel
theorem dX1_init_22 : decode cX1_init 22 = .ok (.putfield 20, 3) := by decide +kernel
theorem dX1_init_25 : decode cX1_init 25 = .ok (.aload_n 0, 1) := by decide +kernel
theorem dX1_init_26 : decode cX1_init 26 = .ok (.iconst 2, 1) := by decide +kernel
theorem dX1_init_27 : decode cX1_init 27 = .ok (.iconst 3, 1) := by decide +kernel
theorem dX1_init_28 : decode cX1_init 28 = .ok (.multianewarray 18 2, 4) := by decide +kernel
theorem dX1_init_32 : decode cX1_init 32 = .ok (.putfield 23, 3) := by decide +kernel
theorem dX1_init_35 : decode cX1_init 35 = .ok (.return_, 1) := by decide +kernel
theorem dX1_make_0 : decode cX1_make 0 = .ok (.aload_n 0, 1) := by decide +kernel
theorem dX1_make_1 : decode cX1_make 1 = .ok (.iload_n 2, 1) := by decide +kernel
theorem dX1_make_2 : decode cX1_make 2 = .ok (.putfield 26, 3) := by decide +kernel
theorem dX1_make_5 : decode cX1_make 5 = .ok (.aload_n 0, 1) := by decide +kernel
theorem dX1_make_6 : decode cX1_make 6 = .ok (.getfield 12, 3) := by decide +kernel
theorem dX1_make_9 : decode cX1_make 9 = .ok (.aload_n 0, 1) := by decide +kernel
theorem dX1_make_10 : decode cX1_make 10 = .ok (.getfield 26, 3) := by decide +kernel
theorem dX1_make_13 : decode cX1_make 13 = .ok (.invokevirtual 30, 3) := by decide +kernel
theorem dX1_make_16 : decode cX1_make 16 = .ok (.iconst 0, 1) := by decide +kernel
theorem dX1_make_17 : decode cX1_make 17 = .ok (.istore 4, 2) := by decide +kernel
theorem dX1_make_19 : decode cX1_make 19 = .ok (.iload 4, 2) := by decide +kernel
theorem dX1_make_21 : decode cX1_make 21 = .ok (.aload_n 1, 1) := by decide +kernel
theorem dX1_make_22 : decode cX1_make 22 = .ok (.getfield 34, 3) := by decide +kernel
theorem dX1_make_25 : decode cX1_make 25 = .ok (.if_icmp .ge 48, 3) := by decide +kernel
theorem dX1_make_28 : decode cX1_make 28 = .ok (.iload_n 3, 1) := by decide +kernel
theorem dX1_make_29 : decode cX1_make 29 = .ok (.iload 4, 2) := by decide +kernel
theorem dX1_make_31 : decode cX1_make 31 = .ok (.invokestatic 39, 3) := by decide +kernel
theorem dX1_make_34 : decode cX1_make 34 = .ok (.ifCond .eq 33, 3) := by decide +kernel
theorem dX1_make_37 : decode cX1_make 37 = .ok (.aload_n 0, 1) := by decide +kernel
theorem dX1_make_38 : decode cX1_make 38 = .ok (.getfield 12, 3) := by decide +kernel
theorem dX1_make_41 : decode cX1_make 41 = .ok (.aload_n 1, 1) := by decide +kernel
theorem dX1_make_42 : decode cX1_make 42 = .ok (.aload_n 0, 1) := by decide +kernel
theorem dX1_make_43 : decode cX1_make 43 = .ok (.getfield 26, 3) := by decide +kernel
theorem dX1_make_46 : decode cX1_make 46 = .ok (.iload 4, 2) := by decide +kernel
theorem dX1_make_48 : decode cX1_make 48 = .ok (.invokevirtual 43, 3) := by decide +kernel
theorem dX1_make_51 : decode cX1_make 51 = .ok (.i2l, 1) := by decide +kernel
theorem dX1_make_52 : decode cX1_make 52 = .ok (.aload_n 1, 1) := by decide +kernel
theorem dX1_make_53 : decode cX1_make 53 = .ok (.aload_n 0, 1) := by decide +kernel
theorem dX1_make_54 : decode cX1_make 54 = .ok (.getfield 26, 3) := by decide +kernel
theorem dX1_make_57 : decode cX1_make 57 = .ok (.iload 4, 2) := by decide +kernel
theorem dX1_make_59 : decode cX1_make 59 = .ok (.invokevirtual 47, 3) := by decide +kernel
theorem dX1_make_62 : decode cX1_make 62 = .ok (.i2l, 1) := by decide +kernel
theorem dX1_make_63 : decode cX1_make 63 = .ok (.iconst 1, 1) := by decide +kernel
theorem dX1_make_64 : decode cX1_make 64 = .ok (.invokevirtual 50, 3) := by decide +kernel
theorem dX1_make_67 : decode cX1_make 67 = .ok (.iinc 4 1, 3) := by decide +kernel
theorem dX1_make_70 : decode cX1_make 70 = .ok (.goto (-51), 3) := by decide +kernel
theorem dX1_make_73 : decode cX1_make 73 = .ok (.aload_n 0, 1) := by decide +kernel
theorem dX1_make_74 : decode cX1_make 74 = .ok (.getfield 12, 3) := by decide +kernel
theorem dX1_make_77 : decode cX1_make 77 = .ok (.invokevirtual 54, 3) := by decide +kernel
theorem dX1_make_80 : decode cX1_make 80 = .ok (.iconst 0, 1) := by decide +kernel
theorem dX1_make_81 : decode cX1_make 81 = .ok (.istore 4, 2) := by decide +kernel
theorem dX1_make_83 : decode cX1_make 83 = .ok (.iload 4, 2) := by decide +kernel
theorem dX1_make_85 : decode cX1_make 85 = .ok (.iconst 2, 1) := by decide +kernel
theorem dX1_make_86 : decode cX1_make 86 = .ok (.if_icmp .ge 23, 3) := by decide +kernel
theorem dX1_make_89 : decode cX1_make 89 = .ok (.aload_n 0, 1) := by decide +kernel
theorem dX1_make_90 : decode cX1_make 90 = .ok (.aload_n 1, 1) := by decide +kernel
theorem dX1_make_91 : decode cX1_make 91 = .ok (.iload 4, 2) := by decide +kernel
theorem dX1_make_93 : decode cX1_make 93 = .ok (.iload_n 3, 1) := by decide +kernel
theorem dX1_make_94 : decode cX1_make 94 = .ok (.invokevirtual 57, 3) := by decide +kernel
theorem dX1_make_97 : decode cX1_make 97 = .ok (.aload_n 0, 1) := by decide +kernel
theorem dX1_make_98 : decode cX1_make 98 = .ok (.iload 4, 2) := by decide +kernel
theorem dX1_make_100 : decode cX1_make 100 = .ok (.invokevirtual 61, 3) := by decide +kernel
theorem dX1_make_103 : decode cX1_make 103 = .ok (.iinc 4 1, 3) := by decide +kernel
theorem dX1_make_106 : decode cX1_make 106 = .ok (.goto (-23), 3) := by decide +kernel
theorem dX1_make_109 : decode cX1_make 109 = .ok (.aload_n 0, 1) := by decide +kernel
theorem dX1_make_110 : decode cX1_make 110 = .ok (.getfield 12, 3) := by decide +kernel
theorem dX1_make_113 : decode cX1_make 113 = .ok (.getfield 64, 3) := by decide +kernel
theorem dX1_make_116 : decode cX1_make 116 = .ok (.lconst 0, 1) := by decide +kernel
theorem dX1_make_117 : decode cX1_make 117 = .ok (.lcmp, 1) := by decide +kernel
theorem dX1_make_118 : decode cX1_make 118 = .ok (.ifCond .eq 7, 3) := by decide +kernel
theorem dX1_make_121 : decode cX1_make 121 = .ok (.iconst 1, 1) := by decide +kernel
theorem dX1_make_122 : decode cX1_make 122 = .ok (.goto 4, 3) := by decide +kernel
theorem dX1_make_125 : decode cX1_make 125 = .ok (.iconst 0, 1) := by decide +kernel
theorem dX1_make_126 : decode cX1_make 126 = .ok (.ireturn, 1) := by decide +kernel
theorem dX1_makeSums_0 : decode cX1_makeSums 0 = .ok (.aload_n 0, 1) := by decide +kernel
theorem dX1_makeSums_1 : decode cX1_makeSums 1 = .ok (.getfield 20, 3) := by decide +kernel
theorem dX1_makeSums_4 : decode cX1_makeSums 4 = .ok (.iload_n 2, 1) := by decide +kernel
theorem dX1_makeSums_5 : decode cX1_makeSums 5 = .ok (.aaload, 1) := by decide +kernel
theorem dX1_makeSums_6 : decode cX1_makeSums 6 = .ok (.astore 4, 2) := by decide +kernel
theorem dX1_makeSums_8 : decode cX1_makeSums 8 = .ok (.aload 4, 2) := by decide +kernel
theorem dX1_makeSums_10 : decode cX1_makeSums 10 = .ok (.iconst 0, 1) := by decide +kernel
theorem dX1_makeSums_11 : decode cX1_makeSums 11 = .ok (.lconst 0, 1) := by decide +kernel
theorem dX1_makeSums_12 : decode cX1_makeSums 12 = .ok (.lastore, 1) := by decide +kernel
theorem dX1_makeSums_13 : decode cX1_makeSums 13 = .ok (.aload 4, 2) := by decide +kernel
theorem dX1_makeSums_15 : decode cX1_makeSums 15 = .ok (.iconst 1, 1) := by decide +kernel
theorem dX1_makeSums_16 : decode cX1_makeSums 16 = .ok (.lconst 0, 1) := by decide +kernel
theorem dX1_makeSums_17 : decode cX1_makeSums 17 = .ok (.lastore, 1) := by decide +kernel
theorem dX1_makeSums_18 : decode cX1_makeSums 18 = .ok (.aload 4, 2) := by decide +kernel
theorem dX1_makeSums_20 : decode cX1_makeSums 20 = .ok (.iconst 2, 1) := by decide +kernel
theorem dX1_makeSums_21 : decode cX1_makeSums 21 = .ok (.lconst 0, 1) := by decide +kernel
theorem dX1_makeSums_22 : decode cX1_makeSums 22 = .ok (.lastore, 1) := by decide +kernel
theorem dX1_makeSums_23 : decode cX1_makeSums 23 = .ok (.aload 4, 2) := by decide +kernel
theorem dX1_makeSums_25 : decode cX1_makeSums 25 = .ok (.iconst 3, 1) := by decide +kernel
theorem dX1_makeSums_26 : decode cX1_makeSums 26 = .ok (.lconst 0, 1) := by decide +kernel
theorem dX1_makeSums_27 : decode cX1_makeSums 27 = .ok (.lastore, 1) := by decide +kernel
theorem dX1_makeSums_28 : decode cX1_makeSums 28 = .ok (.iconst 0, 1) := by decide +kernel
theorem dX1_makeSums_29 : decode cX1_makeSums 29 = .ok (.istore 5, 2) := by decide +kernel
theorem dX1_makeSums_31 : decode cX1_makeSums 31 = .ok (.iload 5, 2) := by decide +kernel
theorem dX1_makeSums_33 : decode cX1_makeSums 33 = .ok (.aload_n 1, 1) := by decide +kernel
theorem dX1_makeSums_34 : decode cX1_makeSums 34 = .ok (.getfield 34, 3) := by decide +kernel
theorem dX1_makeSums_37 : decode cX1_makeSums 37 = .ok (.if_icmp .ge 93, 3) := by decide +kernel
theorem dX1_makeSums_40 : decode cX1_makeSums 40 = .ok (.iload_n 3, 1) := by decide +kernel
theorem dX1_makeSums_41 : decode cX1_makeSums 41 = .ok (.iload 5, 2) := by decide +kernel
theorem dX1_makeSums_43 : decode cX1_makeSums 43 = .ok (.invokestatic 39, 3) := by decide +kernel
theorem dX1_makeSums_46 : decode cX1_makeSums 46 = .ok (.ifCond .eq 78, 3) := by decide +kernel
theorem dX1_makeSums_49 : decode cX1_makeSums 49 = .ok (.aload_n 1, 1) := by decide +kernel
theorem dX1_makeSums_50 : decode cX1_makeSums 50 = .ok (.getfield 68, 3) := by decide +kernel
theorem dX1_makeSums_53 : decode cX1_makeSums 53 = .ok (.iload_n 2, 1) := by decide +kernel
theorem dX1_makeSums_54 : decode cX1_makeSums 54 = .ok (.aaload, 1) := by decide +kernel
theorem dX1_makeSums_55 : decode cX1_makeSums 55 = .ok (.iload 5, 2) := by decide +kernel
theorem dX1_makeSums_57 : decode cX1_makeSums 57 = .ok (.iaload, 1) := by decide +kernel
theorem dX1_makeSums_58 : decode cX1_makeSums 58 = .ok (.i2l, 1) := by decide +kernel
theorem dX1_makeSums_59 : decode cX1_makeSums 59 = .ok (.lstore 6, 2) := by decide +kernel
theorem dX1_makeSums_61 : decode cX1_makeSums 61 = .ok (.aload 4, 2) := by decide +kernel
theorem dX1_makeSums_63 : decode cX1_makeSums 63 = .ok (.iconst 0, 1) := by decide +kernel
theorem dX1_makeSums_64 : decode cX1_makeSums 64 = .ok (.dup2, 1) := by decide +kernel
theorem dX1_makeSums_65 : decode cX1_makeSums 65 = .ok (.laload, 1) := by decide +kernel
theorem dX1_makeSums_66 : decode cX1_makeSums 66 = .ok (.lload 6, 2) := by decide +kernel
theorem dX1_makeSums_68 : decode cX1_makeSums 68 = .ok (.ladd, 1) := by decide +kernel
theorem dX1_makeSums_69 : decode cX1_makeSums 69 = .ok (.lastore, 1) := by decide +kernel
theorem dX1_makeSums_70 : decode cX1_makeSums 70 = .ok (.aload 4, 2) := by decide +kernel
theorem dX1_makeSums_72 : decode cX1_makeSums 72 = .ok (.iconst 1, 1) := by decide +kernel
theorem dX1_makeSums_73 : decode cX1_makeSums 73 = .ok (.dup2, 1) := by decide +kernel
theorem dX1_makeSums_74 : decode cX1_makeSums 74 = .ok (.laload, 1) := by decide +kernel
theorem dX1_makeSums_75 : decode cX1_makeSums 75 = .ok (.lload 6, 2) := by decide +kernel
theorem dX1_makeSums_77 : decode cX1_makeSums 77 = .ok (.aload_n 1, 1) := by decide +kernel
theorem dX1_makeSums_78 : decode cX1_makeSums 78 = .ok (.aload_n 0, 1) := by decide +kernel
theorem dX1_makeSums_79 : decode cX1_makeSums 79 = .ok (.getfield 26, 3) := by decide +kernel
theorem dX1_makeSums_82 : decode cX1_makeSums 82 = .ok (.iload 5, 2) := by decide +kernel
theorem dX1_makeSums_84 : decode cX1_makeSums 84 = .ok (.invokevirtual 43, 3) := by decide +kernel
theorem dX1_makeSums_87 : decode cX1_makeSums 87 = .ok (.i2l, 1) := by decide +kernel
theorem dX1_makeSums_88 : decode cX1_makeSums 88 = .ok (.lmul, 1) := by decide +kernel
theorem dX1_makeSums_89 : decode cX1_makeSums 89 = .ok (.ladd, 1) := by decide +kernel
theorem dX1_makeSums_90 : decode cX1_makeSums 90 = .ok (.lastore, 1) := by decide +kernel
theorem dX1_makeSums_91 : decode cX1_makeSums 91 = .ok (.aload 4, 2) := by decide +kernel
theorem dX1_makeSums_93 : decode cX1_makeSums 93 = .ok (.iconst 2, 1) := by decide +kernel
theorem dX1_makeSums_94 : decode cX1_makeSums 94 = .ok (.dup2, 1) := by decide +kernel
theorem dX1_makeSums_95 : decode cX1_makeSums 95 = .ok (.laload, 1) := by decide +kernel
theorem dX1_makeSums_96 : decode cX1_makeSums 96 = .ok (.lload 6, 2) := by decide +kernel
theorem dX1_makeSums_98 : decode cX1_makeSums 98 = .ok (.aload_n 1, 1) := by decide +kernel
theorem dX1_makeSums_99 : decode cX1_makeSums 99 = .ok (.aload_n 0, 1) := by decide +kernel
theorem dX1_makeSums_100 : decode cX1_makeSums 100 = .ok (.getfield 26, 3) := by decide +kernel
theorem dX1_makeSums_103 : decode cX1_makeSums 103 = .ok (.iload 5, 2) := by decide +kernel
theorem dX1_makeSums_105 : decode cX1_makeSums 105 = .ok (.invokevirtual 47, 3) := by decide +kernel
theorem dX1_makeSums_108 : decode cX1_makeSums 108 = .ok (.i2l, 1) := by decide +kernel
theorem dX1_makeSums_109 : decode cX1_makeSums 109 = .ok (.lmul, 1) := by decide +kernel
theorem dX1_makeSums_110 : decode cX1_makeSums 110 = .ok (.ladd, 1) := by decide +kernel
theorem dX1_makeSums_111 : decode cX1_makeSums 111 = .ok (.lastore, 1) := by decide +kernel
theorem dX1_makeSums_112 : decode cX1_makeSums 112 = .ok (.aload 4, 2) := by decide +kernel
theorem dX1_makeSums_114 : decode cX1_makeSums 114 = .ok (.iconst 3, 1) := by decide +kernel
theorem dX1_makeSums_115 : decode cX1_makeSums 115 = .ok (.dup2, 1) := by decide +kernel
theorem dX1_makeSums_116 : decode cX1_makeSums 116 = .ok (.laload, 1) := by decide +kernel
theorem dX1_makeSums_117 : decode cX1_makeSums 117 = .ok (.lload 6, 2) := by decide +kernel
theorem dX1_makeSums_119 : decode cX1_makeSums 119 = .ok (.lload 6, 2) := by decide +kernel
theorem dX1_makeSums_121 : decode cX1_makeSums 121 = .ok (.lmul, 1) := by decide +kernel
theorem dX1_makeSums_122 : decode cX1_makeSums 122 = .ok (.ladd, 1) := by decide +kernel
theorem dX1_makeSums_123 : decode cX1_makeSums 123 = .ok (.lastore, 1) := by decide +kernel
theorem dX1_makeSums_124 : decode cX1_makeSums 124 = .ok (.iinc 5 1, 3) := by decide +kernel
theorem dX1_makeSums_127 : decode cX1_makeSums 127 = .ok (.goto (-96), 3) := by decide +kernel
theorem dX1_makeSums_130 : decode cX1_makeSums 130 = .ok (.return_, 1) := by decide +kernel
theorem dX1_makeFactors_0 : decode cX1_makeFactors 0 = .ok (.aload_n 0, 1) := by decide +kernel
theorem dX1_makeFactors_1 : decode cX1_makeFactors 1 = .ok (.getfield 20, 3) := by decide +kernel
theorem dX1_makeFactors_4 : decode cX1_makeFactors 4 = .ok (.iload_n 1, 1) := by decide +kernel
theorem dX1_makeFactors_5 : decode cX1_makeFactors 5 = .ok (.aaload, 1) := by decide +kernel
theorem dX1_makeFactors_6 : decode cX1_makeFactors 6 = .ok (.astore_n 2, 1) := by decide +kernel
theorem dX1_makeFactors_7 : decode cX1_makeFactors 7 = .ok (.aload_n 0, 1) := by decide +kernel
theorem dX1_makeFactors_8 : decode cX1_makeFactors 8 = .ok (.getfield 23, 3) := by decide +kernel
theorem dX1_makeFactors_11 : decode cX1_makeFactors 11 = .ok (.iload_n 1, 1) := by decide +kernel
theorem dX1_makeFactors_12 : decode cX1_makeFactors 12 = .ok (.aaload, 1) := by decide +kernel
theorem dX1_makeFactors_13 : decode cX1_makeFactors 13 = .ok (.astore_n 3, 1) := by decide +kernel
theorem dX1_makeFactors_14 : decode cX1_makeFactors 14 = .ok (.aload_n 3, 1) := by decide +kernel
theorem dX1_makeFactors_15 : decode cX1_makeFactors 15 = .ok (.iconst 0, 1) := by decide +kernel
theorem dX1_makeFactors_16 : decode cX1_makeFactors 16 = .ok (.aload_n 0, 1) := by decide +kernel
theorem dX1_makeFactors_17 : decode cX1_makeFactors 17 = .ok (.getfield 12, 3) := by decide +kernel
theorem dX1_makeFactors_20 : decode cX1_makeFactors 20 = .ok (.getfield 72, 3) := by decide +kernel
theorem dX1_makeFactors_23 : decode cX1_makeFactors 23 = .ok (.aload_n 2, 1) := by decide +kernel
theorem dX1_makeFactors_24 : decode cX1_makeFactors 24 = .ok (.iconst 0, 1) := by decide +kernel
theorem dX1_makeFactors_25 : decode cX1_makeFactors 25 = .ok (.laload, 1) := by decide +kernel
theorem dX1_makeFactors_26 : decode cX1_makeFactors 26 = .ok (.lmul, 1) := by decide +kernel
theorem dX1_makeFactors_27 : decode cX1_makeFactors 27 = .ok (.aload_n 0, 1) := by decide +kernel
theorem dX1_makeFactors_28 : decode cX1_makeFactors 28 = .ok (.getfield 12, 3) := by decide +kernel
theorem dX1_makeFactors_31 : decode cX1_makeFactors 31 = .ok (.getfield 75, 3) := by decide +kernel
theorem dX1_makeFactors_34 : decode cX1_makeFactors 34 = .ok (.aload_n 2, 1) := by decide +kernel
theorem dX1_makeFactors_35 : decode cX1_makeFactors 35 = .ok (.iconst 1, 1) := by decide +kernel
theorem dX1_makeFactors_36 : decode cX1_makeFactors 36 = .ok (.laload, 1) := by decide +kernel
theorem dX1_makeFactors_37 : decode cX1_makeFactors 37 = .ok (.lmul, 1) := by decide +kernel
theorem dX1_makeFactors_38 : decode cX1_makeFactors 38 = .ok (.ladd, 1) := by decide +kernel
theorem dX1_makeFactors_39 : decode cX1_makeFactors 39 = .ok (.aload_n 0, 1) := by decide +kernel
theorem dX1_makeFactors_40 : decode cX1_makeFactors 40 = .ok (.getfield 12, 3) := by decide +kernel
theorem dX1_makeFactors_43 : decode cX1_makeFactors 43 = .ok (.getfield 78, 3) := by decide +kernel
theorem dX1_makeFactors_46 : decode cX1_makeFactors 46 = .ok (.aload_n 2, 1) := by decide +kernel
theorem dX1_makeFactors_47 : decode cX1_makeFactors 47 = .ok (.iconst 2, 1) := by decide +kernel
theorem dX1_makeFactors_48 : decode cX1_makeFactors 48 = .ok (.laload, 1) := by decide +kernel
theorem dX1_makeFactors_49 : decode cX1_makeFactors 49 = .ok (.lmul, 1) := by decide +kernel
theorem dX1_makeFactors_50 : decode cX1_makeFactors 50 = .ok (.ladd, 1) := by decide +kernel
theorem dX1_makeFactors_51 : decode cX1_makeFactors 51 = .ok (.lastore, 1) := by decide +kernel
theorem dX1_makeFactors_52 : decode cX1_makeFactors 52 = .ok (.aload_n 3, 1) := by decide +kernel
theorem dX1_makeFactors_53 : decode cX1_makeFactors 53 = .ok (.iconst 1, 1) := by decide +kernel
theorem dX1_makeFactors_54 : decode cX1_makeFactors 54 = .ok (.aload_n 0, 1) := by decide +kernel
theorem dX1_makeFactors_55 : decode cX1_makeFactors 55 = .ok (.getfield 12, 3) := by decide +kernel
theorem dX1_makeFactors_58 : decode cX1_makeFactors 58 = .ok (.getfield 75, 3) := by decide +kernel
theorem dX1_makeFactors_61 : decode cX1_makeFactors 61 = .ok (.aload_n 2, 1) := by decide +kernel
theorem dX1_makeFactors_62 : decode cX1_makeFactors 62 = .ok (.iconst 0, 1) := by decide +kernel
theorem dX1_makeFactors_63 : decode cX1_makeFactors 63 = .ok (.laload, 1) := by decide +kernel
theorem dX1_makeFactors_64 : decode cX1_makeFactors 64 = .ok (.lmul, 1) := by decide +kernel
theorem dX1_makeFactors_65 : decode cX1_makeFactors 65 = .ok (.aload_n 0, 1) := by decide +kernel
theorem dX1_makeFactors_66 : decode cX1_makeFactors 66 = .ok (.getfield 12, 3) := by decide +kernel
theorem dX1_makeFactors_69 : decode cX1_makeFactors 69 = .ok (.getfield 81, 3) := by decide +kernel
theorem dX1_makeFactors_72 : decode cX1_makeFactors 72 = .ok (.aload_n 2, 1) := by decide +kernel
theorem dX1_makeFactors_73 : decode cX1_makeFactors 73 = .ok (.iconst 1, 1) := by decide +kernel
theorem dX1_makeFactors_74 : decode cX1_makeFactors 74 = .ok (.laload, 1) := by decide +kernel
theorem dX1_makeFactors_75 : decode cX1_makeFactors 75 = .ok (.lmul, 1) := by decide +kernel
theorem dX1_makeFactors_76 : decode cX1_makeFactors 76 = .ok (.ladd, 1) := by decide +kernel
theorem dX1_makeFactors_77 : decode cX1_makeFactors 77 = .ok (.aload_n 0, 1) := by decide +kernel
theorem dX1_makeFactors_78 : decode cX1_makeFactors 78 = .ok (.getfield 12, 3) := by decide +kernel
theorem dX1_makeFactors_81 : decode cX1_makeFactors 81 = .ok (.getfield 84, 3) := by decide +kernel
theorem dX1_makeFactors_84 : decode cX1_makeFactors 84 = .ok (.aload_n 2, 1) := by decide +kernel
theorem dX1_makeFactors_85 : decode cX1_makeFactors 85 = .ok (.iconst 2, 1) := by decide +kernel
theorem dX1_makeFactors_86 : decode cX1_makeFactors 86 = .ok (.laload, 1) := by decide +kernel
theorem dX1_makeFactors_87 : decode cX1_makeFactors 87 = .ok (.lmul, 1) := by decide +kernel
theorem dX1_makeFactors_88 : decode cX1_makeFactors 88 = .ok (.ladd, 1) := by decide +kernel
theorem dX1_makeFactors_89 : decode cX1_makeFactors 89 = .ok (.lastore, 1) := by decide +kernel
theorem dX1_makeFactors_90 : decode cX1_makeFactors 90 = .ok (.aload_n 3, 1) := by decide +kernel
theorem dX1_makeFactors_91 : decode cX1_makeFactors 91 = .ok (.iconst 2, 1) := by decide +kernel
theorem dX1_makeFactors_92 : decode cX1_makeFactors 92 = .ok (.aload_n 0, 1) := by decide +kernel
theorem dX1_makeFactors_93 : decode cX1_makeFactors 93 = .ok (.getfield 12, 3) := by decide +kernel
theorem dX1_makeFactors_96 : decode cX1_makeFactors 96 = .ok (.getfield 78, 3) := by decide +kernel
theorem dX1_makeFactors_99 : decode cX1_makeFactors 99 = .ok (.aload_n 2, 1) := by decide +kernel
theorem dX1_makeFactors_100 : decode cX1_makeFactors 100 = .ok (.iconst 0, 1) := by decide +kernel
theorem dX1_makeFactors_101 : decode cX1_makeFactors 101 = .ok (.laload, 1) := by decide +kernel
theorem dX1_makeFactors_102 : decode cX1_makeFactors 102 = .ok (.lmul, 1) := by decide +kernel
theorem dX1_makeFactors_103 : decode cX1_makeFactors 103 = .ok (.aload_n 0, 1) := by decide +kernel
theorem dX1_makeFactors_104 : decode cX1_makeFactors 104 = .ok (.getfield 12, 3) := by decide +kernel
theorem dX1_makeFactors_107 : decode cX1_makeFactors 107 = .ok (.getfield 84, 3) := by decide +kernel
theorem dX1_makeFactors_110 : decode cX1_makeFactors 110 = .ok (.aload_n 2, 1) := by decide +kernel
theorem dX1_makeFactors_111 : decode cX1_makeFactors 111 = .ok (.iconst 1, 1) := by decide +kernel
theorem dX1_makeFactors_112 : decode cX1_makeFactors 112 = .ok (.laload, 1) := by decide +kernel
theorem dX1_makeFactors_113 : decode cX1_makeFactors 113 = .ok (.lmul, 1) := by decide +kernel
theorem dX1_makeFactors_114 : decode cX1_makeFactors 114 = .ok (.ladd, 1) := by decide +kernel
theorem dX1_makeFactors_115 : decode cX1_makeFactors 115 = .ok (.aload_n 0, 1) := by decide +kernel
theorem dX1_makeFactors_116 : decode cX1_makeFactors 116 = .ok (.getfield 12, 3) := by decide +kernel
theorem dX1_makeFactors_119 : decode cX1_makeFactors 119 = .ok (.getfield 87, 3) := by decide +kernel
theorem dX1_makeFactors_122 : decode cX1_makeFactors 122 = .ok (.aload_n 2, 1) := by decide +kernel
theorem dX1_makeFactors_123 : decode cX1_makeFactors 123 = .ok (.iconst 2, 1) := by decide +kernel
theorem dX1_makeFactors_124 : decode cX1_makeFactors 124 = .ok (.laload, 1) := by decide +kernel
theorem dX1_makeFactors_125 : decode cX1_makeFactors 125 = .ok (.lmul, 1) := by decide +kernel
theorem dX1_makeFactors_126 : decode cX1_makeFactors 126 = .ok (.ladd, 1) := by decide +kernel
theorem dX1_makeFactors_127 : decode cX1_makeFactors 127 = .ok (.lastore, 1) := by decide +kernel
theorem dX1_makeFactors_128 : decode cX1_makeFactors 128 = .ok (.return_, 1) := by decide +kernel
theorem dX1_restOf_0 : decode cX1_restOf 0 = .ok (.aload_n 0, 1) := by decide +kernel
theorem dX1_restOf_1 : decode cX1_restOf 1 = .ok (.getfield 23, 3) := by decide +kernel
theorem dX1_restOf_4 : decode cX1_restOf 4 = .ok (.iload_n 2, 1) := by decide +kernel
theorem dX1_restOf_5 : decode cX1_restOf 5 = .ok (.aaload, 1) := by decide +kernel
theorem dX1_restOf_6 : decode cX1_restOf 6 = .ok (.astore 4, 2) := by decide +kernel
theorem dX1_restOf_8 : decode cX1_restOf 8 = .ok (.aload 4, 2) := by decide +kernel
theorem dX1_restOf_10 : decode cX1_restOf 10 = .ok (.iconst 0, 1) := by decide +kernel
theorem dX1_restOf_11 : decode cX1_restOf 11 = .ok (.laload, 1) := by decide +kernel
theorem dX1_restOf_12 : decode cX1_restOf 12 = .ok (.aload 4, 2) := by decide +kernel
theorem dX1_restOf_14 : decode cX1_restOf 14 = .ok (.iconst 1, 1) := by decide +kernel
theorem dX1_restOf_15 : decode cX1_restOf 15 = .ok (.laload, 1) := by decide +kernel
theorem dX1_restOf_16 : decode cX1_restOf 16 = .ok (.aload_n 1, 1) := by decide +kernel
theorem dX1_restOf_17 : decode cX1_restOf 17 = .ok (.aload_n 0, 1) := by decide +kernel
theorem dX1_restOf_18 : decode cX1_restOf 18 = .ok (.getfield 26, 3) := by decide +kernel
theorem dX1_restOf_21 : decode cX1_restOf 21 = .ok (.iload_n 3, 1) := by decide +kernel
theorem dX1_restOf_22 : decode cX1_restOf 22 = .ok (.invokevirtual 43, 3) := by decide +kernel
theorem dX1_restOf_25 : decode cX1_restOf 25 = .ok (.i2l, 1) := by decide +kernel
theorem dX1_restOf_26 : decode cX1_restOf 26 = .ok (.lmul, 1) := by decide +kernel
theorem dX1_restOf_27 : decode cX1_restOf 27 = .ok (.ladd, 1) := by decide +kernel
theorem dX1_restOf_28 : decode cX1_restOf 28 = .ok (.aload 4, 2) := by decide +kernel
theorem dX1_restOf_30 : decode cX1_restOf 30 = .ok (.iconst 2, 1) := by decide +kernel
theorem dX1_restOf_31 : decode cX1_restOf 31 = .ok (.laload, 1) := by decide +kernel
theorem dX1_restOf_32 : decode cX1_restOf 32 = .ok (.aload_n 1, 1) := by decide +kernel
theorem dX1_restOf_33 : decode cX1_restOf 33 = .ok (.aload_n 0, 1) := by decide +kernel
theorem dX1_restOf_34 : decode cX1_restOf 34 = .ok (.getfield 26, 3) := by decide +kernel
theorem dX1_restOf_37 : decode cX1_restOf 37 = .ok (.iload_n 3, 1) := by decide +kernel
theorem dX1_restOf_38 : decode cX1_restOf 38 = .ok (.invokevirtual 47, 3) := by decide +kernel
theorem dX1_restOf_41 : decode cX1_restOf 41 = .ok (.i2l, 1) := by decide +kernel
theorem dX1_restOf_42 : decode cX1_restOf 42 = .ok (.lmul, 1) := by decide +kernel
theorem dX1_restOf_43 : decode cX1_restOf 43 = .ok (.ladd, 1) := by decide +kernel
theorem dX1_restOf_44 : decode cX1_restOf 44 = .ok (.lstore 5, 2) := by decide +kernel
theorem dX1_restOf_46 : decode cX1_restOf 46 = .ok (.aload_n 1, 1) := by decide +kernel
theorem dX1_restOf_47 : decode cX1_restOf 47 = .ok (.getfield 68, 3) := by decide +kernel
theorem dX1_restOf_50 : decode cX1_restOf 50 = .ok (.iload_n 2, 1) := by decide +kernel
theorem dX1_restOf_51 : decode cX1_restOf 51 = .ok (.aaload, 1) := by decide +kernel
theorem dX1_restOf_52 : decode cX1_restOf 52 = .ok (.iload_n 3, 1) := by decide +kernel
theorem dX1_restOf_53 : decode cX1_restOf 53 = .ok (.iaload, 1) := by decide +kernel
theorem dX1_restOf_54 : decode cX1_restOf 54 = .ok (.i2l, 1) := by decide +kernel
theorem dX1_restOf_55 : decode cX1_restOf 55 = .ok (.aload_n 0, 1) := by decide +kernel
theorem dX1_restOf_56 : decode cX1_restOf 56 = .ok (.getfield 12, 3) := by decide +kernel
theorem dX1_restOf_59 : decode cX1_restOf 59 = .ok (.getfield 64, 3) := by decide +kernel
theorem dX1_restOf_62 : decode cX1_restOf 62 = .ok (.lmul, 1) := by decide +kernel
theorem dX1_restOf_63 : decode cX1_restOf 63 = .ok (.lload 5, 2) := by decide +kernel
theorem dX1_restOf_65 : decode cX1_restOf 65 = .ok (.lsub, 1) := by decide +kernel
theorem dX1_restOf_66 : decode cX1_restOf 66 = .ok (.lreturn, 1) := by decide +kernel
theorem dX1_greaterRestOf_0 : decode cX1_greaterRestOf 0 = .ok (.aload_n 0, 1) := by decide +kernel
theorem dX1_greaterRestOf_1 : decode cX1_greaterRestOf 1 = .ok (.aload_n 1, 1) := by decide +kernel
theorem dX1_greaterRestOf_2 : decode cX1_greaterRestOf 2 = .ok (.iconst 0, 1) := by decide +kernel
theorem dX1_greaterRestOf_3 : decode cX1_greaterRestOf 3 = .ok (.iload_n 2, 1) := by decide +kernel
theorem dX1_greaterRestOf_4 : decode cX1_greaterRestOf 4 = .ok (.invokevirtual 90, 3) := by decide +kernel
theorem dX1_greaterRestOf_7 : decode cX1_greaterRestOf 7 = .ok (.invokestatic 94, 3) := by decide +kernel
theorem dX1_greaterRestOf_10 : decode cX1_greaterRestOf 10 = .ok (.aload_n 0, 1) := by decide +kernel
theorem dX1_greaterRestOf_11 : decode cX1_greaterRestOf 11 = .ok (.aload_n 1, 1) := by decide +kernel
theorem dX1_greaterRestOf_12 : decode cX1_greaterRestOf 12 = .ok (.iconst 1, 1) := by decide +kernel
theorem dX1_greaterRestOf_13 : decode cX1_greaterRestOf 13 = .ok (.iload_n 2, 1) := by decide +kernel
theorem dX1_greaterRestOf_14 : decode cX1_greaterRestOf 14 = .ok (.invokevirtual 90, 3) := by decide +kernel
theorem dX1_greaterRestOf_17 : decode cX1_greaterRestOf 17 = .ok (.invokestatic 94, 3) := by decide +kernel
theorem dX1_greaterRestOf_20 : decode cX1_greaterRestOf 20 = .ok (.invokestatic 100, 3) := by decide +kernel
theorem dX1_greaterRestOf_23 : decode cX1_greaterRestOf 23 = .ok (.lreturn, 1) := by decide +kernel
theorem dX1_sumOfSquares_0 : decode cX1_sumOfSquares 0 = .ok (.aload_n 0, 1) := by decide +kernel
theorem dX1_sumOfSquares_1 : decode cX1_sumOfSquares 1 = .ok (.getfield 20, 3) := by decide +kernel
theorem dX1_sumOfSquares_4 : decode cX1_sumOfSquares 4 = .ok (.iload_n 1, 1) := by decide +kernel
theorem dX1_sumOfSquares_5 : decode cX1_sumOfSquares 5 = .ok (.aaload, 1) := by decide +kernel
theorem dX1_sumOfSquares_6 : decode cX1_sumOfSquares 6 = .ok (.astore_n 2, 1) := by decide +kernel
theorem dX1_sumOfSquares_7 : decode cX1_sumOfSquares 7 = .ok (.aload_n 0, 1) := by decide +kernel
theorem dX1_sumOfSquares_8 : decode cX1_sumOfSquares 8 = .ok (.getfield 23, 3) := by decide +kernel
theorem dX1_sumOfSquares_11 : decode cX1_sumOfSquares 11 = .ok (.iload_n 1, 1) := by decide +kernel
theorem dX1_sumOfSquares_12 : decode cX1_sumOfSquares 12 = .ok (.aaload, 1) := by decide +kernel
theorem dX1_sumOfSquares_13 : decode cX1_sumOfSquares 13 = .ok (.astore_n 3, 1) := by decide +kernel
theorem dX1_sumOfSquares_14 : decode cX1_sumOfSquares 14 = .ok (.aload_n 2, 1) := by decide +kernel
theorem dX1_sumOfSquares_15 : decode cX1_sumOfSquares 15 = .ok (.iconst 3, 1) := by decide +kernel
theorem dX1_sumOfSquares_16 : decode cX1_sumOfSquares 16 = .ok (.laload, 1) := by decide +kernel
theorem dX1_sumOfSquares_17 : decode cX1_sumOfSquares 17 = .ok (.aload_n 0, 1) := by decide +kernel
theorem dX1_sumOfSquares_18 : decode cX1_sumOfSquares 18 = .ok (.getfield 12, 3) := by decide +kernel
theorem dX1_sumOfSquares_21 : decode cX1_sumOfSquares 21 = .ok (.getfield 64, 3) := by decide +kernel
theorem dX1_sumOfSquares_24 : decode cX1_sumOfSquares 24 = .ok (.lmul, 1) := by decide +kernel
theorem dX1_sumOfSquares_25 : decode cX1_sumOfSquares 25 = .ok (.aload_n 3, 1) := by decide +kernel
theorem dX1_sumOfSquares_26 : decode cX1_sumOfSquares 26 = .ok (.iconst 0, 1) := by decide +kernel
theorem dX1_sumOfSquares_27 : decode cX1_sumOfSquares 27 = .ok (.laload, 1) := by decide +kernel
theorem dX1_sumOfSquares_28 : decode cX1_sumOfSquares 28 = .ok (.aload_n 2, 1) := by decide +kernel
theorem dX1_sumOfSquares_29 : decode cX1_sumOfSquares 29 = .ok (.iconst 0, 1) := by decide +kernel
theorem dX1_sumOfSquares_30 : decode cX1_sumOfSquares 30 = .ok (.laload, 1) := by decide +kernel
theorem dX1_sumOfSquares_31 : decode cX1_sumOfSquares 31 = .ok (.lmul, 1) := by decide +kernel
theorem dX1_sumOfSquares_32 : decode cX1_sumOfSquares 32 = .ok (.lsub, 1) := by decide +kernel
theorem dX1_sumOfSquares_33 : decode cX1_sumOfSquares 33 = .ok (.aload_n 3, 1) := by decide +kernel
theorem dX1_sumOfSquares_34 : decode cX1_sumOfSquares 34 = .ok (.iconst 1, 1) := by decide +kernel
theorem dX1_sumOfSquares_35 : decode cX1_sumOfSquares 35 = .ok (.laload, 1) := by decide +kernel
theorem dX1_sumOfSquares_36 : decode cX1_sumOfSquares 36 = .ok (.aload_n 2, 1) := by decide +kernel
theorem dX1_sumOfSquares_37 : decode cX1_sumOfSquares 37 = .ok (.iconst 1, 1) := by decide +kernel
theorem dX1_sumOfSquares_38 : decode cX1_sumOfSquares 38 = .ok (.laload, 1) := by decide +kernel
theorem dX1_sumOfSquares_39 : decode cX1_sumOfSquares 39 = .ok (.lmul, 1) := by decide +kernel
theorem dX1_sumOfSquares_40 : decode cX1_sumOfSquares 40 = .ok (.lsub, 1) := by decide +kernel
theorem dX1_sumOfSquares_41 : decode cX1_sumOfSquares 41 = .ok (.aload_n 3, 1) := by decide +kernel
theorem dX1_sumOfSquares_42 : decode cX1_sumOfSquares 42 = .ok (.iconst 2, 1) := by decide +kernel
theorem dX1_sumOfSquares_43 : decode cX1_sumOfSquares 43 = .ok (.laload, 1) := by decide +kernel
theorem dX1_sumOfSquares_44 : decode cX1_sumOfSquares 44 = .ok (.aload_n 2, 1) := by decide +kernel
theorem dX1_sumOfSquares_45 : decode cX1_sumOfSquares 45 = .ok (.iconst 2, 1) := by decide +kernel
theorem dX1_sumOfSquares_46 : decode cX1_sumOfSquares 46 = .ok (.laload, 1) := by decide +kernel
theorem dX1_sumOfSquares_47 : decode cX1_sumOfSquares 47 = .ok (.lmul, 1) := by decide +kernel
theorem dX1_sumOfSquares_48 : decode cX1_sumOfSquares 48 = .ok (.lsub, 1) := by decide +kernel
theorem dX1_sumOfSquares_49 : decode cX1_sumOfSquares 49 = .ok (.lreturn, 1) := by decide +kernel
theorem dX1_above_0 : decode cX1_above 0 = .ok (.iconst 0, 1) := by decide +kernel
theorem dX1_above_1 : decode cX1_above 1 = .ok (.istore 4, 2) := by decide +kernel
theorem dX1_above_3 : decode cX1_above 3 = .ok (.iconst 0, 1) := by decide +kernel
theorem dX1_above_4 : decode cX1_above 4 = .ok (.istore 5, 2) := by decide +kernel
theorem dX1_above_6 : decode cX1_above 6 = .ok (.iload 5, 2) := by decide +kernel
theorem dX1_above_8 : decode cX1_above 8 = .ok (.aload_n 1, 1) := by decide +kernel
theorem dX1_above_9 : decode cX1_above 9 = .ok (.getfield 34, 3) := by decide +kernel
theorem dX1_above_12 : decode cX1_above 12 = .ok (.if_icmp .ge 48, 3) := by decide +kernel
theorem dX1_above_15 : decode cX1_above 15 = .ok (.iload_n 2, 1) := by decide +kernel
theorem dX1_above_16 : decode cX1_above 16 = .ok (.iload 5, 2) := by decide +kernel
theorem dX1_above_18 : decode cX1_above 18 = .ok (.invokestatic 39, 3) := by decide +kernel
theorem dX1_above_21 : decode cX1_above 21 = .ok (.ifCond .eq 33, 3) := by decide +kernel
theorem dX1_above_24 : decode cX1_above 24 = .ok (.aload_n 0, 1) := by decide +kernel
theorem dX1_above_25 : decode cX1_above 25 = .ok (.aload_n 1, 1) := by decide +kernel
theorem dX1_above_26 : decode cX1_above 26 = .ok (.iload 5, 2) := by decide +kernel
theorem dX1_above_28 : decode cX1_above 28 = .ok (.invokevirtual 104, 3) := by decide +kernel
theorem dX1_above_31 : decode cX1_above 31 = .ok (.iload_n 3, 1) := by decide +kernel
theorem dX1_above_32 : decode cX1_above 32 = .ok (.i2l, 1) := by decide +kernel
theorem dX1_above_33 : decode cX1_above 33 = .ok (.aload_n 0, 1) := by decide +kernel
theorem dX1_above_34 : decode cX1_above 34 = .ok (.getfield 12, 3) := by decide +kernel
theorem dX1_above_37 : decode cX1_above 37 = .ok (.getfield 64, 3) := by decide +kernel
theorem dX1_above_40 : decode cX1_above 40 = .ok (.lmul, 1) := by decide +kernel
theorem dX1_above_41 : decode cX1_above 41 = .ok (.lcmp, 1) := by decide +kernel
theorem dX1_above_42 : decode cX1_above 42 = .ok (.ifCond .le 12, 3) := by decide +kernel
theorem dX1_above_45 : decode cX1_above 45 = .ok (.iload 4, 2) := by decide +kernel
theorem dX1_above_47 : decode cX1_above 47 = .ok (.iconst 1, 1) := by decide +kernel
theorem dX1_above_48 : decode cX1_above 48 = .ok (.iload 5, 2) := by decide +kernel
theorem dX1_above_50 : decode cX1_above 50 = .ok (.ishl, 1) := by decide +kernel
theorem dX1_above_51 : decode cX1_above 51 = .ok (.ior, 1) := by decide +kernel
theorem dX1_above_52 : decode cX1_above 52 = .ok (.istore 4, 2) := by decide +kernel
theorem dX1_above_54 : decode cX1_above 54 = .ok (.iinc 5 1, 3) := by decide +kernel
theorem dX1_above_57 : decode cX1_above 57 = .ok (.goto (-51), 3) := by decide +kernel
theorem dX1_above_60 : decode cX1_above 60 = .ok (.iload 4, 2) := by decide +kernel
theorem dX1_above_62 : decode cX1_above 62 = .ok (.ireturn, 1) := by decide +kernel
theorem dX1_liars_0 : decode cX1_liars 0 = .ok (.aload_n 1, 1) := by decide +kernel
theorem dX1_liars_1 : decode cX1_liars 1 = .ok (.invokevirtual 108, 3) := by decide +kernel
theorem dX1_liars_4 : decode cX1_liars 4 = .ok (.istore 4, 2) := by decide +kernel
theorem dX1_liars_6 : decode cX1_liars 6 = .ok (.iconst 0, 1) := by decide +kernel
theorem dX1_liars_7 : decode cX1_liars 7 = .ok (.istore 5, 2) := by decide +kernel
theorem dX1_liars_9 : decode cX1_liars 9 = .ok (.iload 5, 2) := by decide +kernel
theorem dX1_liars_11 : decode cX1_liars 11 = .ok (.bipush 12, 2) := by decide +kernel
theorem dX1_liars_13 : decode cX1_liars 13 = .ok (.if_icmp .ge 71, 3) := by decide +kernel
theorem dX1_liars_16 : decode cX1_liars 16 = .ok (.aload_n 0, 1) := by decide +kernel
theorem dX1_liars_17 : decode cX1_liars 17 = .ok (.aload_n 1, 1) := by decide +kernel
theorem dX1_liars_18 : decode cX1_liars 18 = .ok (.iload_n 2, 1) := by decide +kernel
theorem dX1_liars_19 : decode cX1_liars 19 = .ok (.iload 4, 2) := by decide +kernel
theorem dX1_liars_21 : decode cX1_liars 21 = .ok (.invokevirtual 112, 3) := by decide +kernel
theorem dX1_liars_24 : decode cX1_liars 24 = .ok (.pop, 1) := by decide +kernel
theorem dX1_liars_25 : decode cX1_liars 25 = .ok (.aload_n 0, 1) := by decide +kernel
theorem dX1_liars_26 : decode cX1_liars 26 = .ok (.aload_n 1, 1) := by decide +kernel
theorem dX1_liars_27 : decode cX1_liars 27 = .ok (.aload_n 0, 1) := by decide +kernel
theorem dX1_liars_28 : decode cX1_liars 28 = .ok (.aload_n 1, 1) := by decide +kernel
theorem dX1_liars_29 : decode cX1_liars 29 = .ok (.iload 4, 2) := by decide +kernel
theorem dX1_liars_31 : decode cX1_liars 31 = .ok (.iload_n 3, 1) := by decide +kernel
theorem dX1_liars_32 : decode cX1_liars 32 = .ok (.invokevirtual 116, 3) := by decide +kernel
theorem dX1_liars_35 : decode cX1_liars 35 = .ok (.invokevirtual 120, 3) := by decide +kernel
theorem dX1_liars_38 : decode cX1_liars 38 = .ok (.istore 6, 2) := by decide +kernel
theorem dX1_liars_40 : decode cX1_liars 40 = .ok (.iload 6, 2) := by decide +kernel
theorem dX1_liars_42 : decode cX1_liars 42 = .ok (.iconst (-1), 1) := by decide +kernel
theorem dX1_liars_43 : decode cX1_liars 43 = .ok (.if_icmp .eq 41, 3) := by decide +kernel
theorem dX1_liars_46 : decode cX1_liars 46 = .ok (.aload_n 0, 1) := by decide +kernel
theorem dX1_liars_47 : decode cX1_liars 47 = .ok (.aload_n 1, 1) := by decide +kernel
theorem dX1_liars_48 : decode cX1_liars 48 = .ok (.iload_n 2, 1) := by decide +kernel
theorem dX1_liars_49 : decode cX1_liars 49 = .ok (.iload 4, 2) := by decide +kernel
theorem dX1_liars_51 : decode cX1_liars 51 = .ok (.iconst 1, 1) := by decide +kernel
theorem dX1_liars_52 : decode cX1_liars 52 = .ok (.iload 6, 2) := by decide +kernel
theorem dX1_liars_54 : decode cX1_liars 54 = .ok (.ishl, 1) := by decide +kernel
theorem dX1_liars_55 : decode cX1_liars 55 = .ok (.iconst (-1), 1) := by decide +kernel
theorem dX1_liars_56 : decode cX1_liars 56 = .ok (.ixor, 1) := by decide +kernel
theorem dX1_liars_57 : decode cX1_liars 57 = .ok (.iand, 1) := by decide +kernel
theorem dX1_liars_58 : decode cX1_liars 58 = .ok (.invokevirtual 112, 3) := by decide +kernel
theorem dX1_liars_61 : decode cX1_liars 61 = .ok (.ifCond .ne 6, 3) := by decide +kernel
theorem dX1_liars_64 : decode cX1_liars 64 = .ok (.goto 20, 3) := by decide +kernel
theorem dX1_liars_67 : decode cX1_liars 67 = .ok (.iload 4, 2) := by decide +kernel
theorem dX1_liars_69 : decode cX1_liars 69 = .ok (.iconst 1, 1) := by decide +kernel
theorem dX1_liars_70 : decode cX1_liars 70 = .ok (.iload 6, 2) := by decide +kernel
theorem dX1_liars_72 : decode cX1_liars 72 = .ok (.ishl, 1) := by decide +kernel
theorem dX1_liars_73 : decode cX1_liars 73 = .ok (.iconst (-1), 1) := by decide +kernel
theorem dX1_liars_74 : decode cX1_liars 74 = .ok (.ixor, 1) := by decide +kernel
theorem dX1_liars_75 : decode cX1_liars 75 = .ok (.iand, 1) := by decide +kernel
theorem dX1_liars_76 : decode cX1_liars 76 = .ok (.istore 4, 2) := by decide +kernel
theorem dX1_liars_78 : decode cX1_liars 78 = .ok (.iinc 5 1, 3) := by decide +kernel
theorem dX1_liars_81 : decode cX1_liars 81 = .ok (.goto (-72), 3) := by decide +kernel
theorem dX1_liars_84 : decode cX1_liars 84 = .ok (.aload_n 1, 1) := by decide +kernel
theorem dX1_liars_85 : decode cX1_liars 85 = .ok (.invokevirtual 108, 3) := by decide +kernel
theorem dX1_liars_88 : decode cX1_liars 88 = .ok (.iload 4, 2) := by decide +kernel
theorem dX1_liars_90 : decode cX1_liars 90 = .ok (.iconst (-1), 1) := by decide +kernel
theorem dX1_liars_91 : decode cX1_liars 91 = .ok (.ixor, 1) := by decide +kernel
theorem dX1_liars_92 : decode cX1_liars 92 = .ok (.iand, 1) := by decide +kernel
theorem dX1_liars_93 : decode cX1_liars 93 = .ok (.ireturn, 1) := by decide +kernel
theorem dX1_worstOf_0 : decode cX1_worstOf 0 = .ok (.iconst (-1), 1) := by decide +kernel
theorem dX1_worstOf_1 : decode cX1_worstOf 1 = .ok (.istore_n 3, 1) := by decide +kernel
theorem dX1_worstOf_2 : decode cX1_worstOf 2 = .ok (.lconst 0, 1) := by decide +kernel
theorem dX1_worstOf_3 : decode cX1_worstOf 3 = .ok (.lstore 4, 2) := by decide +kernel
theorem dX1_worstOf_5 : decode cX1_worstOf 5 = .ok (.iconst 0, 1) := by decide +kernel
theorem dX1_worstOf_6 : decode cX1_worstOf 6 = .ok (.istore 6, 2) := by decide +kernel
theorem dX1_worstOf_8 : decode cX1_worstOf 8 = .ok (.iload 6, 2) := by decide +kernel
theorem dX1_worstOf_10 : decode cX1_worstOf 10 = .ok (.aload_n 1, 1) := by decide +kernel
theorem dX1_worstOf_11 : decode cX1_worstOf 11 = .ok (.getfield 34, 3) := by decide +kernel
theorem dX1_worstOf_14 : decode cX1_worstOf 14 = .ok (.if_icmp .ge 43, 3) := by decide +kernel
theorem dX1_worstOf_17 : decode cX1_worstOf 17 = .ok (.iload_n 2, 1) := by decide +kernel
theorem dX1_worstOf_18 : decode cX1_worstOf 18 = .ok (.iload 6, 2) := by decide +kernel
theorem dX1_worstOf_20 : decode cX1_worstOf 20 = .ok (.invokestatic 39, 3) := by decide +kernel
theorem dX1_worstOf_23 : decode cX1_worstOf 23 = .ok (.ifCond .eq 28, 3) := by decide +kernel
theorem dX1_worstOf_26 : decode cX1_worstOf 26 = .ok (.aload_n 0, 1) := by decide +kernel
theorem dX1_worstOf_27 : decode cX1_worstOf 27 = .ok (.aload_n 1, 1) := by decide +kernel
theorem dX1_worstOf_28 : decode cX1_worstOf 28 = .ok (.iload 6, 2) := by decide +kernel
theorem dX1_worstOf_30 : decode cX1_worstOf 30 = .ok (.invokevirtual 104, 3) := by decide +kernel
theorem dX1_worstOf_33 : decode cX1_worstOf 33 = .ok (.lload 4, 2) := by decide +kernel
theorem dX1_worstOf_35 : decode cX1_worstOf 35 = .ok (.lcmp, 1) := by decide +kernel
theorem dX1_worstOf_36 : decode cX1_worstOf 36 = .ok (.ifCond .le 15, 3) := by decide +kernel
theorem dX1_worstOf_39 : decode cX1_worstOf 39 = .ok (.iload 6, 2) := by decide +kernel
theorem dX1_worstOf_41 : decode cX1_worstOf 41 = .ok (.istore_n 3, 1) := by decide +kernel
theorem dX1_worstOf_42 : decode cX1_worstOf 42 = .ok (.aload_n 0, 1) := by decide +kernel
theorem dX1_worstOf_43 : decode cX1_worstOf 43 = .ok (.aload_n 1, 1) := by decide +kernel
theorem dX1_worstOf_44 : decode cX1_worstOf 44 = .ok (.iload 6, 2) := by decide +kernel
theorem dX1_worstOf_46 : decode cX1_worstOf 46 = .ok (.invokevirtual 104, 3) := by decide +kernel
theorem dX1_worstOf_49 : decode cX1_worstOf 49 = .ok (.lstore 4, 2) := by decide +kernel
theorem dX1_worstOf_51 : decode cX1_worstOf 51 = .ok (.iinc 6 1, 3) := by decide +kernel
theorem dX1_worstOf_54 : decode cX1_worstOf 54 = .ok (.goto (-46), 3) := by decide +kernel
theorem dX1_worstOf_57 : decode cX1_worstOf 57 = .ok (.iload_n 3, 1) := by decide +kernel
theorem dX1_worstOf_58 : decode cX1_worstOf 58 = .ok (.ireturn, 1) := by decide +kernel
theorem dX2_init_0 : decode cX2_init 0 = .ok (.aload_n 0, 1) := by decide +kernel
theorem dX2_init_1 : decode cX2_init 1 = .ok (.invokespecial 3, 3) := by decide +kernel
theorem dX2_init_4 : decode cX2_init 4 = .ok (.aload_n 0, 1) := by decide +kernel
theorem dX2_init_5 : decode cX2_init 5 = .ok (.bipush 12, 2) := by decide +kernel
theorem dX2_init_7 : decode cX2_init 7 = .ok (.newarray .int, 2) := by decide +kernel
theorem dX2_init_9 : decode cX2_init 9 = .ok (.putfield 9, 3) := by decide +kernel
theorem dX2_init_12 : decode cX2_init 12 = .ok (.aload_n 0, 1) := by decide +kernel
theorem dX2_init_13 : decode cX2_init 13 = .ok (.bipush 12, 2) := by decide +kernel
theorem dX2_init_15 : decode cX2_init 15 = .ok (.newarray .int, 2) := by decide +kernel
theorem dX2_init_17 : decode cX2_init 17 = .ok (.putfield 15, 3) := by decide +kernel
theorem dX2_init_20 : decode cX2_init 20 = .ok (.aload_n 0, 1) := by decide +kernel
theorem dX2_init_21 : decode cX2_init 21 = .ok (.bipush 12, 2) := by decide +kernel
theorem dX2_init_23 : decode cX2_init 23 = .ok (.newarray .int, 2) := by decide +kernel
theorem dX2_init_25 : decode cX2_init 25 = .ok (.putfield 18, 3) := by decide +kernel
theorem dX2_init_28 : decode cX2_init 28 = .ok (.aload_n 0, 1) := by decide +kernel
theorem dX2_init_29 : decode cX2_init 29 = .ok (.bipush 12, 2) := by decide +kernel
theorem dX2_init_31 : decode cX2_init 31 = .ok (.newarray .int, 2) := by decide +kernel
theorem dX2_init_33 : decode cX2_init 33 = .ok (.putfield 21, 3) := by decide +kernel
theorem dX2_init_36 : decode cX2_init 36 = .ok (.aload_n 0, 1) := by decide +kernel
theorem dX2_init_37 : decode cX2_init 37 = .ok (.iconst 2, 1) := by decide +kernel
theorem dX2_init_38 : decode cX2_init 38 = .ok (.bipush 12, 2) := by decide +kernel
theorem dX2_init_40 : decode cX2_init 40 = .ok (.multianewarray 24 2, 4) := by decide +kernel
theorem dX2_init_44 : decode cX2_init 44 = .ok (.putfield 26, 3) := by decide +kernel
theorem dX2_init_47 : decode cX2_init 47 = .ok (.return_, 1) := by decide +kernel
theorem dX2_has_0 : decode cX2_has 0 = .ok (.iload_n 1, 1) := by decide +kernel
theorem dX2_has_1 : decode cX2_has 1 = .ok (.ifCond .lt 15, 3) := by decide +kernel
theorem dX2_has_4 : decode cX2_has 4 = .ok (.iload_n 1, 1) := by decide +kernel
theorem dX2_has_5 : decode cX2_has 5 = .ok (.aload_n 0, 1) := by decide +kernel
theorem dX2_has_6 : decode cX2_has 6 = .ok (.getfield 29, 3) := by decide +kernel
theorem dX2_has_9 : decode cX2_has 9 = .ok (.if_icmp .ge 7, 3) := by decide +kernel
theorem dX2_has_12 : decode cX2_has 12 = .ok (.iconst 1, 1) := by decide +kernel
theorem dX2_has_13 : decode cX2_has 13 = .ok (.goto 4, 3) := by decide +kernel
theorem dX2_has_16 : decode cX2_has 16 = .ok (.iconst 0, 1) := by decide +kernel
theorem dX2_has_17 : decode cX2_has 17 = .ok (.ireturn, 1) := by decide +kernel
theorem dX2_add_0 : decode cX2_add 0 = .ok (.aload_n 0, 1) := by decide +kernel
theorem dX2_add_1 : decode cX2_add 1 = .ok (.getfield 29, 3) := by decide +kernel
theorem dX2_add_4 : decode cX2_add 4 = .ok (.istore 5, 2) := by decide +kernel
theorem dX2_add_6 : decode cX2_add 6 = .ok (.aload_n 0, 1) := by decide +kernel
theorem dX2_add_7 : decode cX2_add 7 = .ok (.getfield 9, 3) := by decide +kernel
theorem dX2_add_10 : decode cX2_add 10 = .ok (.iload 5, 2) := by decide +kernel
theorem dX2_add_12 : decode cX2_add 12 = .ok (.iload_n 1, 1) := by decide +kernel
theorem dX2_add_13 : decode cX2_add 13 = .ok (.iastore, 1) := by decide +kernel
theorem dX2_add_14 : decode cX2_add 14 = .ok (.aload_n 0, 1) := by decide +kernel
theorem dX2_add_15 : decode cX2_add 15 = .ok (.getfield 15, 3) := by decide +kernel
theorem dX2_add_18 : decode cX2_add 18 = .ok (.iload 5, 2) := by decide +kernel
theorem dX2_add_20 : decode cX2_add 20 = .ok (.iload_n 2, 1) := by decide +kernel
theorem dX2_add_21 : decode cX2_add 21 = .ok (.iastore, 1) := by decide +kernel
theorem dX2_add_22 : decode cX2_add 22 = .ok (.aload_n 0, 1) := by decide +kernel
theorem dX2_add_23 : decode cX2_add 23 = .ok (.getfield 18, 3) := by decide +kernel
theorem dX2_add_26 : decode cX2_add 26 = .ok (.iload 5, 2) := by decide +kernel
theorem dX2_add_28 : decode cX2_add 28 = .ok (.iload_n 3, 1) := by decide +kernel
theorem dX2_add_29 : decode cX2_add 29 = .ok (.iastore, 1) := by decide +kernel
theorem dX2_add_30 : decode cX2_add 30 = .ok (.aload_n 0, 1) := by decide +kernel
theorem dX2_add_31 : decode cX2_add 31 = .ok (.getfield 21, 3) := by decide +kernel
theorem dX2_add_34 : decode cX2_add 34 = .ok (.iload 5, 2) := by decide +kernel
theorem dX2_add_36 : decode cX2_add 36 = .ok (.iload 4, 2) := by decide +kernel
theorem dX2_add_38 : decode cX2_add 38 = .ok (.iastore, 1) := by decide +kernel
theorem dX2_add_39 : decode cX2_add 39 = .ok (.aload_n 0, 1) := by decide +kernel
theorem dX2_add_40 : decode cX2_add 40 = .ok (.dup, 1) := by decide +kernel
theorem dX2_add_41 : decode cX2_add 41 = .ok (.getfield 33, 3) := by decide +kernel
theorem dX2_add_44 : decode cX2_add 44 = .ok (.iconst 1, 1) := by decide +kernel
theorem dX2_add_45 : decode cX2_add 45 = .ok (.iload 5, 2) := by decide +kernel
theorem dX2_add_47 : decode cX2_add 47 = .ok (.ishl, 1) := by decide +kernel
theorem dX2_add_48 : decode cX2_add 48 = .ok (.ior, 1) := by decide +kernel
theorem dX2_add_49 : decode cX2_add 49 = .ok (.putfield 33, 3) := by decide +kernel
theorem dX2_add_52 : decode cX2_add 52 = .ok (.aload_n 0, 1) := by decide +kernel
theorem dX2_add_53 : decode cX2_add 53 = .ok (.iload 5, 2) := by decide +kernel
theorem dX2_add_55 : decode cX2_add 55 = .ok (.iconst 1, 1) := by decide +kernel
theorem dX2_add_56 : decode cX2_add 56 = .ok (.iadd, 1) := by decide +kernel
theorem dX2_add_57 : decode cX2_add 57 = .ok (.putfield 29, 3) := by decide +kernel
theorem dX2_add_60 : decode cX2_add 60 = .ok (.iload 5, 2) := by decide +kernel
theorem dX2_add_62 : decode cX2_add 62 = .ok (.ireturn, 1) := by decide +kernel
theorem dX2_setReads_0 : decode cX2_setReads 0 = .ok (.aload_n 0, 1) := by decide +kernel
theorem dX2_setReads_1 : decode cX2_setReads 1 = .ok (.getfield 26, 3) := by decide +kernel
theorem dX2_setReads_4 : decode cX2_setReads 4 = .ok (.iconst 0, 1) := by decide +kernel
theorem dX2_setReads_5 : decode cX2_setReads 5 = .ok (.aaload, 1) := by decide +kernel
theorem dX2_setReads_6 : decode cX2_setReads 6 = .ok (.iload_n 1, 1) := by decide +kernel
theorem dX2_setReads_7 : decode cX2_setReads 7 = .ok (.iload_n 2, 1) := by decide +kernel
theorem dX2_setReads_8 : decode cX2_setReads 8 = .ok (.iastore, 1) := by decide +kernel
theorem dX2_setReads_9 : decode cX2_setReads 9 = .ok (.aload_n 0, 1) := by decide +kernel
theorem dX2_setReads_10 : decode cX2_setReads 10 = .ok (.getfield 26, 3) := by decide +kernel
theorem dX2_setReads_13 : decode cX2_setReads 13 = .ok (.iconst 1, 1) := by decide +kernel
theorem dX2_setReads_14 : decode cX2_setReads 14 = .ok (.aaload, 1) := by decide +kernel
theorem dX2_setReads_15 : decode cX2_setReads 15 = .ok (.iload_n 1, 1) := by decide +kernel
theorem dX2_setReads_16 : decode cX2_setReads 16 = .ok (.iload_n 3, 1) := by decide +kernel
theorem dX2_setReads_17 : decode cX2_setReads 17 = .ok (.iastore, 1) := by decide +kernel
theorem dX2_setReads_18 : decode cX2_setReads 18 = .ok (.aload_n 0, 1) := by decide +kernel
theorem dX2_setReads_19 : decode cX2_setReads 19 = .ok (.dup, 1) := by decide +kernel
theorem dX2_setReads_20 : decode cX2_setReads 20 = .ok (.getfield 33, 3) := by decide +kernel
theorem dX2_setReads_23 : decode cX2_setReads 23 = .ok (.iconst 1, 1) := by decide +kernel
theorem dX2_setReads_24 : decode cX2_setReads 24 = .ok (.iload_n 1, 1) := by decide +kernel
theorem dX2_setReads_25 : decode cX2_setReads 25 = .ok (.ishl, 1) := by decide +kernel
theorem dX2_setReads_26 : decode cX2_setReads 26 = .ok (.iconst (-1), 1) := by decide +kernel
theorem dX2_setReads_27 : decode cX2_setReads 27 = .ok (.ixor, 1) := by decide +kernel
theorem dX2_setReads_28 : decode cX2_setReads 28 = .ok (.iand, 1) := by decide +kernel
theorem dX2_setReads_29 : decode cX2_setReads 29 = .ok (.putfield 33, 3) := by decide +kernel
theorem dX2_setReads_32 : decode cX2_setReads 32 = .ok (.aload_n 0, 1) := by decide +kernel
theorem dX2_setReads_33 : decode cX2_setReads 33 = .ok (.dup, 1) := by decide +kernel
theorem dX2_setReads_34 : decode cX2_setReads 34 = .ok (.getfield 36, 3) := by decide +kernel
theorem dX2_setReads_37 : decode cX2_setReads 37 = .ok (.iconst 1, 1) := by decide +kernel
theorem dX2_setReads_38 : decode cX2_setReads 38 = .ok (.iload_n 1, 1) := by decide +kernel
theorem dX2_setReads_39 : decode cX2_setReads 39 = .ok (.ishl, 1) := by decide +kernel
theorem dX2_setReads_40 : decode cX2_setReads 40 = .ok (.iconst (-1), 1) := by decide +kernel
theorem dX2_setReads_41 : decode cX2_setReads 41 = .ok (.ixor, 1) := by decide +kernel
theorem dX2_setReads_42 : decode cX2_setReads 42 = .ok (.iand, 1) := by decide +kernel
theorem dX2_setReads_43 : decode cX2_setReads 43 = .ok (.putfield 36, 3) := by decide +kernel
theorem dX2_setReads_46 : decode cX2_setReads 46 = .ok (.return_, 1) := by decide +kernel
theorem dX2_forget_0 : decode cX2_forget 0 = .ok (.aload_n 0, 1) := by decide +kernel
theorem dX2_forget_1 : decode cX2_forget 1 = .ok (.iload_n 1, 1) := by decide +kernel
theorem dX2_forget_2 : decode cX2_forget 2 = .ok (.iconst 0, 1) := by decide +kernel
theorem dX2_forget_3 : decode cX2_forget 3 = .ok (.iconst 0, 1) := by decide +kernel
theorem dX2_forget_4 : decode cX2_forget 4 = .ok (.invokevirtual 39, 3) := by decide +kernel
theorem dX2_forget_7 : decode cX2_forget 7 = .ok (.aload_n 0, 1) := by decide +kernel
theorem dX2_forget_8 : decode cX2_forget 8 = .ok (.dup, 1) := by decide +kernel
theorem dX2_forget_9 : decode cX2_forget 9 = .ok (.getfield 33, 3) := by decide +kernel
theorem dX2_forget_12 : decode cX2_forget 12 = .ok (.iconst 1, 1) := by decide +kernel
theorem dX2_forget_13 : decode cX2_forget 13 = .ok (.iload_n 1, 1) := by decide +kernel
theorem dX2_forget_14 : decode cX2_forget 14 = .ok (.ishl, 1) := by decide +kernel
theorem dX2_forget_15 : decode cX2_forget 15 = .ok (.ior, 1) := by decide +kernel
theorem dX2_forget_16 : decode cX2_forget 16 = .ok (.putfield 33, 3) := by decide +kernel
theorem dX2_forget_19 : decode cX2_forget 19 = .ok (.return_, 1) := by decide +kernel
theorem dX2_notLost_0 : decode cX2_notLost 0 = .ok (.iconst 1, 1) := by decide +kernel
theorem dX2_notLost_1 : decode cX2_notLost 1 = .ok (.aload_n 0, 1) := by decide +kernel
theorem dX2_notLost_2 : decode cX2_notLost 2 = .ok (.getfield 29, 3) := by decide +kernel
theorem dX2_notLost_5 : decode cX2_notLost 5 = .ok (.ishl, 1) := by decide +kernel
theorem dX2_notLost_6 : decode cX2_notLost 6 = .ok (.iconst 1, 1) := by decide +kernel
theorem dX2_notLost_7 : decode cX2_notLost 7 = .ok (.isub, 1) := by decide +kernel
theorem dX2_notLost_8 : decode cX2_notLost 8 = .ok (.aload_n 0, 1) := by decide +kernel
theorem dX2_notLost_9 : decode cX2_notLost 9 = .ok (.getfield 33, 3) := by decide +kernel
theorem dX2_notLost_12 : decode cX2_notLost 12 = .ok (.iconst (-1), 1) := by decide +kernel
theorem dX2_notLost_13 : decode cX2_notLost 13 = .ok (.ixor, 1) := by decide +kernel
theorem dX2_notLost_14 : decode cX2_notLost 14 = .ok (.iand, 1) := by decide +kernel
theorem dX2_notLost_15 : decode cX2_notLost 15 = .ok (.ireturn, 1) := by decide +kernel
theorem dX2_counting_0 : decode cX2_counting 0 = .ok (.aload_n 0, 1) := by decide +kernel
theorem dX2_counting_1 : decode cX2_counting 1 = .ok (.invokevirtual 43, 3) := by decide +kernel
theorem dX2_counting_4 : decode cX2_counting 4 = .ok (.aload_n 0, 1) := by decide +kernel
theorem dX2_counting_5 : decode cX2_counting 5 = .ok (.getfield 36, 3) := by decide +kernel
theorem dX2_counting_8 : decode cX2_counting 8 = .ok (.iconst (-1), 1) := by decide +kernel
theorem dX2_counting_9 : decode cX2_counting 9 = .ok (.ixor, 1) := by decide +kernel
theorem dX2_counting_10 : decode cX2_counting 10 = .ok (.iand, 1) := by decide +kernel
theorem dX2_counting_11 : decode cX2_counting 11 = .ok (.ireturn, 1) := by decide +kernel
theorem dX2_secondTerm_0 : decode cX2_secondTerm 0 = .ok (.iload_n 1, 1) := by decide +kernel
theorem dX2_secondTerm_1 : decode cX2_secondTerm 1 = .ok (.iconst 1, 1) := by decide +kernel
theorem dX2_secondTerm_2 : decode cX2_secondTerm 2 = .ok (.if_icmp .ne 12, 3) := by decide +kernel
theorem dX2_secondTerm_5 : decode cX2_secondTerm 5 = .ok (.aload_n 0, 1) := by decide +kernel
theorem dX2_secondTerm_6 : decode cX2_secondTerm 6 = .ok (.getfield 9, 3) := by decide +kernel
theorem dX2_secondTerm_9 : decode cX2_secondTerm 9 = .ok (.iload_n 2, 1) := by decide +kernel
theorem dX2_secondTerm_10 : decode cX2_secondTerm 10 = .ok (.iaload, 1) := by decide +kernel
theorem dX2_secondTerm_11 : decode cX2_secondTerm 11 = .ok (.goto 18, 3) := by decide +kernel
theorem dX2_secondTerm_14 : decode cX2_secondTerm 14 = .ok (.iload_n 1, 1) := by decide +kernel
theorem dX2_secondTerm_15 : decode cX2_secondTerm 15 = .ok (.iconst 2, 1) := by decide +kernel
theorem dX2_secondTerm_16 : decode cX2_secondTerm 16 = .ok (.if_icmp .ne 12, 3) := by decide +kernel
theorem dX2_secondTerm_19 : decode cX2_secondTerm 19 = .ok (.aload_n 0, 1) := by decide +kernel
theorem dX2_secondTerm_20 : decode cX2_secondTerm 20 = .ok (.getfield 18, 3) := by decide +kernel
theorem dX2_secondTerm_23 : decode cX2_secondTerm 23 = .ok (.iload_n 2, 1) := by decide +kernel
theorem dX2_secondTerm_24 : decode cX2_secondTerm 24 = .ok (.iaload, 1) := by decide +kernel
theorem dX2_secondTerm_25 : decode cX2_secondTerm 25 = .ok (.goto 4, 3) := by decide +kernel
theorem dX2_secondTerm_28 : decode cX2_secondTerm 28 = .ok (.iconst 0, 1) := by decide +kernel
theorem dX2_secondTerm_29 : decode cX2_secondTerm 29 = .ok (.ireturn, 1) := by decide +kernel
theorem dX2_thirdTerm_0 : decode cX2_thirdTerm 0 = .ok (.iload_n 1, 1) := by decide +kernel
theorem dX2_thirdTerm_1 : decode cX2_thirdTerm 1 = .ok (.iconst 1, 1) := by decide +kernel
theorem dX2_thirdTerm_2 : decode cX2_thirdTerm 2 = .ok (.if_icmp .ne 12, 3) := by decide +kernel
theorem dX2_thirdTerm_5 : decode cX2_thirdTerm 5 = .ok (.aload_n 0, 1) := by decide +kernel
theorem dX2_thirdTerm_6 : decode cX2_thirdTerm 6 = .ok (.getfield 15, 3) := by decide +kernel
theorem dX2_thirdTerm_9 : decode cX2_thirdTerm 9 = .ok (.iload_n 2, 1) := by decide +kernel
theorem dX2_thirdTerm_10 : decode cX2_thirdTerm 10 = .ok (.iaload, 1) := by decide +kernel
theorem dX2_thirdTerm_11 : decode cX2_thirdTerm 11 = .ok (.goto 18, 3) := by decide +kernel
theorem dX2_thirdTerm_14 : decode cX2_thirdTerm 14 = .ok (.iload_n 1, 1) := by decide +kernel
theorem dX2_thirdTerm_15 : decode cX2_thirdTerm 15 = .ok (.iconst 2, 1) := by decide +kernel
theorem dX2_thirdTerm_16 : decode cX2_thirdTerm 16 = .ok (.if_icmp .ne 12, 3) := by decide +kernel
theorem dX2_thirdTerm_19 : decode cX2_thirdTerm 19 = .ok (.aload_n 0, 1) := by decide +kernel
theorem dX2_thirdTerm_20 : decode cX2_thirdTerm 20 = .ok (.getfield 21, 3) := by decide +kernel
theorem dX2_thirdTerm_23 : decode cX2_thirdTerm 23 = .ok (.iload_n 2, 1) := by decide +kernel
theorem dX2_thirdTerm_24 : decode cX2_thirdTerm 24 = .ok (.iaload, 1) := by decide +kernel
theorem dX2_thirdTerm_25 : decode cX2_thirdTerm 25 = .ok (.goto 4, 3) := by decide +kernel
theorem dX2_thirdTerm_28 : decode cX2_thirdTerm 28 = .ok (.iconst 0, 1) := by decide +kernel
theorem dX2_thirdTerm_29 : decode cX2_thirdTerm 29 = .ok (.ireturn, 1) := by decide +kernel
theorem dX2_fieldsOf_0 : decode cX2_fieldsOf 0 = .ok (.iconst 0, 1) := by decide +kernel
theorem dX2_fieldsOf_1 : decode cX2_fieldsOf 1 = .ok (.istore_n 2, 1) := by decide +kernel
theorem dX2_fieldsOf_2 : decode cX2_fieldsOf 2 = .ok (.iconst 0, 1) := by decide +kernel
theorem dX2_fieldsOf_3 : decode cX2_fieldsOf 3 = .ok (.istore_n 3, 1) := by decide +kernel
theorem dX2_fieldsOf_4 : decode cX2_fieldsOf 4 = .ok (.iload_n 3, 1) := by decide +kernel
theorem dX2_fieldsOf_5 : decode cX2_fieldsOf 5 = .ok (.aload_n 0, 1) := by decide +kernel
theorem dX2_fieldsOf_6 : decode cX2_fieldsOf 6 = .ok (.getfield 29, 3) := by decide +kernel
theorem dX2_fieldsOf_9 : decode cX2_fieldsOf 9 = .ok (.if_icmp .ge 29, 3) := by decide +kernel
theorem dX2_fieldsOf_12 : decode cX2_fieldsOf 12 = .ok (.iload_n 1, 1) := by decide +kernel
theorem dX2_fieldsOf_13 : decode cX2_fieldsOf 13 = .ok (.iload_n 3, 1) := by decide +kernel
theorem dX2_fieldsOf_14 : decode cX2_fieldsOf 14 = .ok (.invokestatic 47, 3) := by decide +kernel
theorem dX2_fieldsOf_17 : decode cX2_fieldsOf 17 = .ok (.ifCond .eq 15, 3) := by decide +kernel
theorem dX2_fieldsOf_20 : decode cX2_fieldsOf 20 = .ok (.aload_n 0, 1) := by decide +kernel
theorem dX2_fieldsOf_21 : decode cX2_fieldsOf 21 = .ok (.iload_n 1, 1) := by decide +kernel
theorem dX2_fieldsOf_22 : decode cX2_fieldsOf 22 = .ok (.iload_n 3, 1) := by decide +kernel
theorem dX2_fieldsOf_23 : decode cX2_fieldsOf 23 = .ok (.invokevirtual 51, 3) := by decide +kernel
theorem dX2_fieldsOf_26 : decode cX2_fieldsOf 26 = .ok (.ifCond .ne 6, 3) := by decide +kernel
theorem dX2_fieldsOf_29 : decode cX2_fieldsOf 29 = .ok (.iinc 2 1, 3) := by decide +kernel
theorem dX2_fieldsOf_32 : decode cX2_fieldsOf 32 = .ok (.iinc 3 1, 3) := by decide +kernel
theorem dX2_fieldsOf_35 : decode cX2_fieldsOf 35 = .ok (.goto (-31), 3) := by decide +kernel
theorem dX2_fieldsOf_38 : decode cX2_fieldsOf 38 = .ok (.iload_n 2, 1) := by decide +kernel
theorem dX2_fieldsOf_39 : decode cX2_fieldsOf 39 = .ok (.ireturn, 1) := by decide +kernel
theorem dX2_hasEarlierOfField_0 : decode cX2_hasEarlierOfField 0 = .ok (.iconst 0, 1) := by decide +kernel
theorem dX2_hasEarlierOfField_1 : decode cX2_hasEarlierOfField 1 = .ok (.istore_n 3, 1) := by decide +kernel
theorem dX2_hasEarlierOfField_2 : decode cX2_hasEarlierOfField 2 = .ok (.iload_n 3, 1) := by decide +kernel
theorem dX2_hasEarlierOfField_3 : decode cX2_hasEarlierOfField 3 = .ok (.iload_n 2, 1) := by decide +kernel
theorem dX2_hasEarlierOfField_4 : decode cX2_hasEarlierOfField 4 = .ok (.if_icmp .ge 49, 3) := by decide +kernel
theorem dX2_hasEarlierOfField_7 : decode cX2_hasEarlierOfField 7 = .ok (.iload_n 1, 1) := by decide +kernel
theorem dX2_hasEarlierOfField_8 : decode cX2_hasEarlierOfField 8 = .ok (.iload_n 3, 1) := by decide +kernel
theorem dX2_hasEarlierOfField_9 : decode cX2_hasEarlierOfField 9 = .ok (.invokestatic 47, 3) := by decide +kernel
theorem dX2_hasEarlierOfField_12 : decode cX2_hasEarlierOfField 12 = .ok (.ifCond .eq 35, 3) := by decide +kernel
theorem dX2_hasEarlierOfField_15 : decode cX2_hasEarlierOfField 15 = .ok (.aload_n 0, 1) := by decide +kernel
theorem dX2_hasEarlierOfField_16 : decode cX2_hasEarlierOfField 16 = .ok (.getfield 9, 3) := by decide +kernel
theorem dX2_hasEarlierOfField_19 : decode cX2_hasEarlierOfField 19 = .ok (.iload_n 3, 1) := by decide +kernel
theorem dX2_hasEarlierOfField_20 : decode cX2_hasEarlierOfField 20 = .ok (.iaload, 1) := by decide +kernel
theorem dX2_hasEarlierOfField_21 : decode cX2_hasEarlierOfField 21 = .ok (.aload_n 0, 1) := by decide +kernel
theorem dX2_hasEarlierOfField_22 : decode cX2_hasEarlierOfField 22 = .ok (.getfield 9, 3) := by decide +kernel
theorem dX2_hasEarlierOfField_25 : decode cX2_hasEarlierOfField 25 = .ok (.iload_n 2, 1) := by decide +kernel
theorem dX2_hasEarlierOfField_26 : decode cX2_hasEarlierOfField 26 = .ok (.iaload, 1) := by decide +kernel
theorem dX2_hasEarlierOfField_27 : decode cX2_hasEarlierOfField 27 = .ok (.if_icmp .ne 20, 3) := by decide +kernel
theorem dX2_hasEarlierOfField_30 : decode cX2_hasEarlierOfField 30 = .ok (.aload_n 0, 1) := by decide +kernel
theorem dX2_hasEarlierOfField_31 : decode cX2_hasEarlierOfField 31 = .ok (.getfield 15, 3) := by decide +kernel
theorem dX2_hasEarlierOfField_34 : decode cX2_hasEarlierOfField 34 = .ok (.iload_n 3, 1) := by decide +kernel
theorem dX2_hasEarlierOfField_35 : decode cX2_hasEarlierOfField 35 = .ok (.iaload, 1) := by decide +kernel
theorem dX2_hasEarlierOfField_36 : decode cX2_hasEarlierOfField 36 = .ok (.aload_n 0, 1) := by decide +kernel
theorem dX2_hasEarlierOfField_37 : decode cX2_hasEarlierOfField 37 = .ok (.getfield 15, 3) := by decide +kernel
theorem dX2_hasEarlierOfField_40 : decode cX2_hasEarlierOfField 40 = .ok (.iload_n 2, 1) := by decide +kernel
theorem dX2_hasEarlierOfField_41 : decode cX2_hasEarlierOfField 41 = .ok (.iaload, 1) := by decide +kernel
theorem dX2_hasEarlierOfField_42 : decode cX2_hasEarlierOfField 42 = .ok (.if_icmp .ne 5, 3) := by decide +kernel
theorem dX2_hasEarlierOfField_45 : decode cX2_hasEarlierOfField 45 = .ok (.iconst 1, 1) := by decide +kernel
theorem dX2_hasEarlierOfField_46 : decode cX2_hasEarlierOfField 46 = .ok (.ireturn, 1) := by decide +kernel
theorem dX2_hasEarlierOfField_47 : decode cX2_hasEarlierOfField 47 = .ok (.iinc 3 1, 3) := by decide +kernel
theorem dX2_hasEarlierOfField_50 : decode cX2_hasEarlierOfField 50 = .ok (.goto (-48), 3) := by decide +kernel
theorem dX2_hasEarlierOfField_53 : decode cX2_hasEarlierOfField 53 = .ok (.iconst 0, 1) := by decide +kernel
theorem dX2_hasEarlierOfField_54 : decode cX2_hasEarlierOfField 54 = .ok (.ireturn, 1) := by decide +kernel
theorem dX3_init_0 : decode cX3_init 0 = .ok (.aload_n 0, 1) := by decide +kernel
theorem dX3_init_1 : decode cX3_init 1 = .ok (.invokespecial 1, 3) := by decide +kernel
theorem dX3_init_4 : decode cX3_init 4 = .ok (.aload_n 0, 1) := by decide +kernel
theorem dX3_init_5 : decode cX3_init 5 = .ok (.new 7, 3) := by decide +kernel
theorem dX3_init_8 : decode cX3_init 8 = .ok (.dup, 1) := by decide +kernel
theorem dX3_init_9 : decode cX3_init 9 = .ok (.invokespecial 9, 3) := by decide +kernel
theorem dX3_init_12 : decode cX3_init 12 = .ok (.putfield 10, 3) := by decide +kernel
theorem dX3_init_15 : decode cX3_init 15 = .ok (.return_, 1) := by decide +kernel
theorem dX3_make_0 : decode cX3_make 0 = .ok (.aload_n 0, 1) := by decide +kernel
theorem dX3_make_1 : decode cX3_make 1 = .ok (.iload_n 3, 1) := by decide +kernel
theorem dX3_make_2 : decode cX3_make 2 = .ok (.putfield 16, 3) := by decide +kernel
theorem dX3_make_5 : decode cX3_make 5 = .ok (.aload_n 0, 1) := by decide +kernel
theorem dX3_make_6 : decode cX3_make 6 = .ok (.iconst 0, 1) := by decide +kernel
theorem dX3_make_7 : decode cX3_make 7 = .ok (.putfield 20, 3) := by decide +kernel
theorem dX3_make_10 : decode cX3_make 10 = .ok (.aload_n 0, 1) := by decide +kernel
theorem dX3_make_11 : decode cX3_make 11 = .ok (.getfield 10, 3) := by decide +kernel
theorem dX3_make_14 : decode cX3_make 14 = .ok (.aload_n 0, 1) := by decide +kernel
theorem dX3_make_15 : decode cX3_make 15 = .ok (.getfield 16, 3) := by decide +kernel
theorem dX3_make_18 : decode cX3_make 18 = .ok (.invokevirtual 23, 3) := by decide +kernel
theorem dX3_make_21 : decode cX3_make 21 = .ok (.aload_n 0, 1) := by decide +kernel
theorem dX3_make_22 : decode cX3_make 22 = .ok (.aload_n 1, 1) := by decide +kernel
theorem dX3_make_23 : decode cX3_make 23 = .ok (.iconst 0, 1) := by decide +kernel
theorem dX3_make_24 : decode cX3_make 24 = .ok (.iload_n 2, 1) := by decide +kernel
theorem dX3_make_25 : decode cX3_make 25 = .ok (.iconst 0, 1) := by decide +kernel
theorem dX3_make_26 : decode cX3_make 26 = .ok (.invokevirtual 27, 3) := by decide +kernel
theorem dX3_make_29 : decode cX3_make 29 = .ok (.aload_n 0, 1) := by decide +kernel
theorem dX3_make_30 : decode cX3_make 30 = .ok (.getfield 20, 3) := by decide +kernel
theorem dX3_make_33 : decode cX3_make 33 = .ok (.ifCond .eq 7, 3) := by decide +kernel
theorem dX3_make_36 : decode cX3_make 36 = .ok (.iconst 1, 1) := by decide +kernel
theorem dX3_make_37 : decode cX3_make 37 = .ok (.goto 4, 3) := by decide +kernel
theorem dX3_make_40 : decode cX3_make 40 = .ok (.iconst 0, 1) := by decide +kernel
theorem dX3_make_41 : decode cX3_make 41 = .ok (.ireturn, 1) := by decide +kernel
theorem dX3_choose_0 : decode cX3_choose 0 = .ok (.iload_n 3, 1) := by decide +kernel
theorem dX3_choose_1 : decode cX3_choose 1 = .ok (.ifCond .gt 11, 3) := by decide +kernel
theorem dX3_choose_4 : decode cX3_choose 4 = .ok (.aload_n 0, 1) := by decide +kernel
theorem dX3_choose_5 : decode cX3_choose 5 = .ok (.aload_n 1, 1) := by decide +kernel
theorem dX3_choose_6 : decode cX3_choose 6 = .ok (.iload 4, 2) := by decide +kernel
theorem dX3_choose_8 : decode cX3_choose 8 = .ok (.invokevirtual 31, 3) := by decide +kernel
theorem dX3_choose_11 : decode cX3_choose 11 = .ok (.return_, 1) := by decide +kernel
theorem dX3_choose_12 : decode cX3_choose 12 = .ok (.iload_n 2, 1) := by decide +kernel
theorem dX3_choose_13 : decode cX3_choose 13 = .ok (.istore 5, 2) := by decide +kernel
theorem dX3_choose_15 : decode cX3_choose 15 = .ok (.iload 5, 2) := by decide +kernel
theorem dX3_choose_17 : decode cX3_choose 17 = .ok (.aload_n 1, 1) := by decide +kernel
theorem dX3_choose_18 : decode cX3_choose 18 = .ok (.getfield 35, 3) := by decide +kernel
theorem dX3_choose_21 : decode cX3_choose 21 = .ok (.iload_n 3, 1) := by decide +kernel
theorem dX3_choose_22 : decode cX3_choose 22 = .ok (.isub, 1) := by decide +kernel
theorem dX3_choose_23 : decode cX3_choose 23 = .ok (.if_icmp .gt 19, 3) := by decide +kernel
theorem dX3_choose_26 : decode cX3_choose 26 = .ok (.aload_n 0, 1) := by decide +kernel
theorem dX3_choose_27 : decode cX3_choose 27 = .ok (.aload_n 1, 1) := by decide +kernel
theorem dX3_choose_28 : decode cX3_choose 28 = .ok (.iload 5, 2) := by decide +kernel
theorem dX3_choose_30 : decode cX3_choose 30 = .ok (.iload_n 3, 1) := by decide +kernel
theorem dX3_choose_31 : decode cX3_choose 31 = .ok (.iload 4, 2) := by decide +kernel
theorem dX3_choose_33 : decode cX3_choose 33 = .ok (.invokevirtual 40, 3) := by decide +kernel
theorem dX3_choose_36 : decode cX3_choose 36 = .ok (.iinc 5 1, 3) := by decide +kernel
theorem dX3_choose_39 : decode cX3_choose 39 = .ok (.goto (-24), 3) := by decide +kernel
theorem dX3_choose_42 : decode cX3_choose 42 = .ok (.return_, 1) := by decide +kernel
theorem dX3_chooseWith_0 : decode cX3_chooseWith 0 = .ok (.aload_n 1, 1) := by decide +kernel
theorem dX3_chooseWith_1 : decode cX3_chooseWith 1 = .ok (.aload_n 0, 1) := by decide +kernel
theorem dX3_chooseWith_2 : decode cX3_chooseWith 2 = .ok (.getfield 16, 3) := by decide +kernel
theorem dX3_chooseWith_5 : decode cX3_chooseWith 5 = .ok (.iload_n 2, 1) := by decide +kernel
theorem dX3_chooseWith_6 : decode cX3_chooseWith 6 = .ok (.invokevirtual 43, 3) := by decide +kernel
theorem dX3_chooseWith_9 : decode cX3_chooseWith 9 = .ok (.istore 5, 2) := by decide +kernel
theorem dX3_chooseWith_11 : decode cX3_chooseWith 11 = .ok (.aload_n 1, 1) := by decide +kernel
theorem dX3_chooseWith_12 : decode cX3_chooseWith 12 = .ok (.aload_n 0, 1) := by decide +kernel
theorem dX3_chooseWith_13 : decode cX3_chooseWith 13 = .ok (.getfield 16, 3) := by decide +kernel
theorem dX3_chooseWith_16 : decode cX3_chooseWith 16 = .ok (.iload_n 2, 1) := by decide +kernel
theorem dX3_chooseWith_17 : decode cX3_chooseWith 17 = .ok (.invokevirtual 47, 3) := by decide +kernel
theorem dX3_chooseWith_20 : decode cX3_chooseWith 20 = .ok (.istore 6, 2) := by decide +kernel
theorem dX3_chooseWith_22 : decode cX3_chooseWith 22 = .ok (.aload_n 0, 1) := by decide +kernel
theorem dX3_chooseWith_23 : decode cX3_chooseWith 23 = .ok (.getfield 10, 3) := by decide +kernel
theorem dX3_chooseWith_26 : decode cX3_chooseWith 26 = .ok (.iload 5, 2) := by decide +kernel
theorem dX3_chooseWith_28 : decode cX3_chooseWith 28 = .ok (.i2l, 1) := by decide +kernel
theorem dX3_chooseWith_29 : decode cX3_chooseWith 29 = .ok (.iload 6, 2) := by decide +kernel
theorem dX3_chooseWith_31 : decode cX3_chooseWith 31 = .ok (.i2l, 1) := by decide +kernel
theorem dX3_chooseWith_32 : decode cX3_chooseWith 32 = .ok (.iconst 1, 1) := by decide +kernel
theorem dX3_chooseWith_33 : decode cX3_chooseWith 33 = .ok (.invokevirtual 50, 3) := by decide +kernel
theorem dX3_chooseWith_36 : decode cX3_chooseWith 36 = .ok (.aload_n 0, 1) := by decide +kernel
theorem dX3_chooseWith_37 : decode cX3_chooseWith 37 = .ok (.aload_n 1, 1) := by decide +kernel
theorem dX3_chooseWith_38 : decode cX3_chooseWith 38 = .ok (.iload_n 2, 1) := by decide +kernel
theorem dX3_chooseWith_39 : decode cX3_chooseWith 39 = .ok (.iconst 1, 1) := by decide +kernel
theorem dX3_chooseWith_40 : decode cX3_chooseWith 40 = .ok (.iadd, 1) := by decide +kernel
theorem dX3_chooseWith_41 : decode cX3_chooseWith 41 = .ok (.iload_n 3, 1) := by decide +kernel
theorem dX3_chooseWith_42 : decode cX3_chooseWith 42 = .ok (.iconst 1, 1) := by decide +kernel
theorem dX3_chooseWith_43 : decode cX3_chooseWith 43 = .ok (.isub, 1) := by decide +kernel
theorem dX3_chooseWith_44 : decode cX3_chooseWith 44 = .ok (.iload 4, 2) := by decide +kernel
theorem dX3_chooseWith_46 : decode cX3_chooseWith 46 = .ok (.iconst 1, 1) := by decide +kernel
theorem dX3_chooseWith_47 : decode cX3_chooseWith 47 = .ok (.iload_n 2, 1) := by decide +kernel
theorem dX3_chooseWith_48 : decode cX3_chooseWith 48 = .ok (.ishl, 1) := by decide +kernel
theorem dX3_chooseWith_49 : decode cX3_chooseWith 49 = .ok (.ior, 1) := by decide +kernel
theorem dX3_chooseWith_50 : decode cX3_chooseWith 50 = .ok (.invokevirtual 27, 3) := by decide +kernel
theorem dX3_chooseWith_53 : decode cX3_chooseWith 53 = .ok (.aload_n 0, 1) := by decide +kernel
theorem dX3_chooseWith_54 : decode cX3_chooseWith 54 = .ok (.getfield 10, 3) := by decide +kernel
theorem dX3_chooseWith_57 : decode cX3_chooseWith 57 = .ok (.iload 5, 2) := by decide +kernel
theorem dX3_chooseWith_59 : decode cX3_chooseWith 59 = .ok (.i2l, 1) := by decide +kernel
theorem dX3_chooseWith_60 : decode cX3_chooseWith 60 = .ok (.iload 6, 2) := by decide +kernel
theorem dX3_chooseWith_62 : decode cX3_chooseWith 62 = .ok (.i2l, 1) := by decide +kernel
theorem dX3_chooseWith_63 : decode cX3_chooseWith 63 = .ok (.iconst (-1), 1) := by decide +kernel
theorem dX3_chooseWith_64 : decode cX3_chooseWith 64 = .ok (.invokevirtual 50, 3) := by decide +kernel
theorem dX3_chooseWith_67 : decode cX3_chooseWith 67 = .ok (.return_, 1) := by decide +kernel
theorem dX3_weigh_0 : decode cX3_weigh 0 = .ok (.aload_n 0, 1) := by decide +kernel
theorem dX3_weigh_1 : decode cX3_weigh 1 = .ok (.getfield 10, 3) := by decide +kernel
theorem dX3_weigh_4 : decode cX3_weigh 4 = .ok (.invokevirtual 54, 3) := by decide +kernel
theorem dX3_weigh_7 : decode cX3_weigh 7 = .ok (.aload_n 0, 1) := by decide +kernel
theorem dX3_weigh_8 : decode cX3_weigh 8 = .ok (.getfield 10, 3) := by decide +kernel
theorem dX3_weigh_11 : decode cX3_weigh 11 = .ok (.getfield 57, 3) := by decide +kernel
theorem dX3_weigh_14 : decode cX3_weigh 14 = .ok (.lconst 0, 1) := by decide +kernel
theorem dX3_weigh_15 : decode cX3_weigh 15 = .ok (.lcmp, 1) := by decide +kernel
theorem dX3_weigh_16 : decode cX3_weigh 16 = .ok (.ifCond .ne 4, 3) := by decide +kernel
theorem dX3_weigh_19 : decode cX3_weigh 19 = .ok (.return_, 1) := by decide +kernel
theorem dX3_weigh_20 : decode cX3_weigh 20 = .ok (.lconst 0, 1) := by decide +kernel
theorem dX3_weigh_21 : decode cX3_weigh 21 = .ok (.lstore_n 3, 1) := by decide +kernel
theorem dX3_weigh_22 : decode cX3_weigh 22 = .ok (.iconst 0, 1) := by decide +kernel
theorem dX3_weigh_23 : decode cX3_weigh 23 = .ok (.istore 5, 2) := by decide +kernel
theorem dX3_weigh_25 : decode cX3_weigh 25 = .ok (.iload 5, 2) := by decide +kernel
theorem dX3_weigh_27 : decode cX3_weigh 27 = .ok (.aload_n 1, 1) := by decide +kernel
theorem dX3_weigh_28 : decode cX3_weigh 28 = .ok (.getfield 35, 3) := by decide +kernel
theorem dX3_weigh_31 : decode cX3_weigh 31 = .ok (.if_icmp .ge 73, 3) := by decide +kernel
theorem dX3_weigh_34 : decode cX3_weigh 34 = .ok (.lload_n 3, 1) := by decide +kernel
theorem dX3_weigh_35 : decode cX3_weigh 35 = .ok (.aload_n 0, 1) := by decide +kernel
theorem dX3_weigh_36 : decode cX3_weigh 36 = .ok (.getfield 10, 3) := by decide +kernel
theorem dX3_weigh_39 : decode cX3_weigh 39 = .ok (.aload_n 1, 1) := by decide +kernel
theorem dX3_weigh_40 : decode cX3_weigh 40 = .ok (.aload_n 0, 1) := by decide +kernel
theorem dX3_weigh_41 : decode cX3_weigh 41 = .ok (.getfield 16, 3) := by decide +kernel
theorem dX3_weigh_44 : decode cX3_weigh 44 = .ok (.iload 5, 2) := by decide +kernel
theorem dX3_weigh_46 : decode cX3_weigh 46 = .ok (.invokevirtual 43, 3) := by decide +kernel
theorem dX3_weigh_49 : decode cX3_weigh 49 = .ok (.i2l, 1) := by decide +kernel
theorem dX3_weigh_50 : decode cX3_weigh 50 = .ok (.aload_n 1, 1) := by decide +kernel
theorem dX3_weigh_51 : decode cX3_weigh 51 = .ok (.aload_n 0, 1) := by decide +kernel
theorem dX3_weigh_52 : decode cX3_weigh 52 = .ok (.getfield 16, 3) := by decide +kernel
theorem dX3_weigh_55 : decode cX3_weigh 55 = .ok (.iload 5, 2) := by decide +kernel
theorem dX3_weigh_57 : decode cX3_weigh 57 = .ok (.invokevirtual 47, 3) := by decide +kernel
theorem dX3_weigh_60 : decode cX3_weigh 60 = .ok (.i2l, 1) := by decide +kernel
theorem dX3_weigh_61 : decode cX3_weigh 61 = .ok (.invokevirtual 61, 3) := by decide +kernel
theorem dX3_weigh_64 : decode cX3_weigh 64 = .ok (.invokestatic 65, 3) := by decide +kernel
theorem dX3_weigh_67 : decode cX3_weigh 67 = .ok (.lstore_n 3, 1) := by decide +kernel
theorem dX3_weigh_68 : decode cX3_weigh 68 = .ok (.aload_n 0, 1) := by decide +kernel
theorem dX3_weigh_69 : decode cX3_weigh 69 = .ok (.getfield 20, 3) := by decide +kernel
theorem dX3_weigh_72 : decode cX3_weigh 72 = .ok (.ifCond .eq 26, 3) := by decide +kernel
theorem dX3_weigh_75 : decode cX3_weigh 75 = .ok (.lload_n 3, 1) := by decide +kernel
theorem dX3_weigh_76 : decode cX3_weigh 76 = .ok (.aload_n 0, 1) := by decide +kernel
theorem dX3_weigh_77 : decode cX3_weigh 77 = .ok (.getfield 70, 3) := by decide +kernel
theorem dX3_weigh_80 : decode cX3_weigh 80 = .ok (.lmul, 1) := by decide +kernel
theorem dX3_weigh_81 : decode cX3_weigh 81 = .ok (.aload_n 0, 1) := by decide +kernel
theorem dX3_weigh_82 : decode cX3_weigh 82 = .ok (.getfield 73, 3) := by decide +kernel
theorem dX3_weigh_85 : decode cX3_weigh 85 = .ok (.aload_n 0, 1) := by decide +kernel
theorem dX3_weigh_86 : decode cX3_weigh 86 = .ok (.getfield 10, 3) := by decide +kernel
theorem dX3_weigh_89 : decode cX3_weigh 89 = .ok (.getfield 57, 3) := by decide +kernel
theorem dX3_weigh_92 : decode cX3_weigh 92 = .ok (.lmul, 1) := by decide +kernel
theorem dX3_weigh_93 : decode cX3_weigh 93 = .ok (.lcmp, 1) := by decide +kernel
theorem dX3_weigh_94 : decode cX3_weigh 94 = .ok (.ifCond .lt 4, 3) := by decide +kernel
theorem dX3_weigh_97 : decode cX3_weigh 97 = .ok (.return_, 1) := by decide +kernel
theorem dX3_weigh_98 : decode cX3_weigh 98 = .ok (.iinc 5 1, 3) := by decide +kernel
theorem dX3_weigh_101 : decode cX3_weigh 101 = .ok (.goto (-76), 3) := by decide +kernel
theorem dX3_weigh_104 : decode cX3_weigh 104 = .ok (.aload_n 0, 1) := by decide +kernel
theorem dX3_weigh_105 : decode cX3_weigh 105 = .ok (.iload_n 2, 1) := by decide +kernel
theorem dX3_weigh_106 : decode cX3_weigh 106 = .ok (.putfield 20, 3) := by decide +kernel
theorem dX3_weigh_109 : decode cX3_weigh 109 = .ok (.aload_n 0, 1) := by decide +kernel
theorem dX3_weigh_110 : decode cX3_weigh 110 = .ok (.lload_n 3, 1) := by decide +kernel
theorem dX3_weigh_111 : decode cX3_weigh 111 = .ok (.putfield 73, 3) := by decide +kernel
theorem dX3_weigh_114 : decode cX3_weigh 114 = .ok (.aload_n 0, 1) := by decide +kernel
theorem dX3_weigh_115 : decode cX3_weigh 115 = .ok (.aload_n 0, 1) := by decide +kernel
theorem dX3_weigh_116 : decode cX3_weigh 116 = .ok (.getfield 10, 3) := by decide +kernel
theorem dX3_weigh_119 : decode cX3_weigh 119 = .ok (.getfield 57, 3) := by decide +kernel
theorem dX3_weigh_122 : decode cX3_weigh 122 = .ok (.putfield 70, 3) := by decide +kernel
theorem dX3_weigh_125 : decode cX3_weigh 125 = .ok (.return_, 1) := by decide +kernel
theorem dX4_init_0 : decode cX4_init 0 = .ok (.aload_n 0, 1) := by decide +kernel
theorem dX4_init_1 : decode cX4_init 1 = .ok (.invokespecial 3, 3) := by decide +kernel
theorem dX4_init_4 : decode cX4_init 4 = .ok (.aload_n 0, 1) := by decide +kernel
theorem dX4_init_5 : decode cX4_init 5 = .ok (.iconst 4, 1) := by decide +kernel
theorem dX4_init_6 : decode cX4_init 6 = .ok (.bipush 6, 2) := by decide +kernel
theorem dX4_init_8 : decode cX4_init 8 = .ok (.multianewarray 9 2, 4) := by decide +kernel
theorem dX4_init_12 : decode cX4_init 12 = .ok (.putfield 11, 3) := by decide +kernel
theorem dX4_init_15 : decode cX4_init 15 = .ok (.aload_n 0, 1) := by decide +kernel
theorem dX4_init_16 : decode cX4_init 16 = .ok (.bipush 6, 2) := by decide +kernel
theorem dX4_init_18 : decode cX4_init 18 = .ok (.newarray .int, 2) := by decide +kernel
theorem dX4_init_20 : decode cX4_init 20 = .ok (.putfield 16, 3) := by decide +kernel
theorem dX4_init_23 : decode cX4_init 23 = .ok (.aload_n 0, 1) := by decide +kernel
theorem dX4_init_24 : decode cX4_init 24 = .ok (.bipush 6, 2) := by decide +kernel
theorem dX4_init_26 : decode cX4_init 26 = .ok (.newarray .int, 2) := by decide +kernel
theorem dX4_init_28 : decode cX4_init 28 = .ok (.putfield 20, 3) := by decide +kernel
theorem dX4_init_31 : decode cX4_init 31 = .ok (.aload_n 0, 1) := by decide +kernel
theorem dX4_init_32 : decode cX4_init 32 = .ok (.iconst 4, 1) := by decide +kernel
theorem dX4_init_33 : decode cX4_init 33 = .ok (.newarray .int, 2) := by decide +kernel
theorem dX4_init_35 : decode cX4_init 35 = .ok (.putfield 23, 3) := by decide +kernel
theorem dX4_init_38 : decode cX4_init 38 = .ok (.aload_n 0, 1) := by decide +kernel
theorem dX4_init_39 : decode cX4_init 39 = .ok (.bipush 100, 2) := by decide +kernel
theorem dX4_init_41 : decode cX4_init 41 = .ok (.putfield 26, 3) := by decide +kernel
theorem dX4_init_44 : decode cX4_init 44 = .ok (.aload_n 0, 1) := by decide +kernel
theorem dX4_init_45 : decode cX4_init 45 = .ok (.bipush 6, 2) := by decide +kernel
theorem dX4_init_47 : decode cX4_init 47 = .ok (.putfield 30, 3) := by decide +kernel
theorem dX4_init_50 : decode cX4_init 50 = .ok (.return_, 1) := by decide +kernel
theorem dX4_make_0 : decode cX4_make 0 = .ok (.aload_n 0, 1) := by decide +kernel
theorem dX4_make_1 : decode cX4_make 1 = .ok (.iconst (-1), 1) := by decide +kernel
theorem dX4_make_2 : decode cX4_make 2 = .ok (.putfield 33, 3) := by decide +kernel
theorem dX4_make_5 : decode cX4_make 5 = .ok (.aload_n 0, 1) := by decide +kernel
theorem dX4_make_6 : decode cX4_make 6 = .ok (.iload_n 1, 1) := by decide +kernel
theorem dX4_make_7 : decode cX4_make 7 = .ok (.iconst 0, 1) := by decide +kernel
theorem dX4_make_8 : decode cX4_make 8 = .ok (.iconst 0, 1) := by decide +kernel
theorem dX4_make_9 : decode cX4_make 9 = .ok (.invokevirtual 36, 3) := by decide +kernel
theorem dX4_make_12 : decode cX4_make 12 = .ok (.aload_n 0, 1) := by decide +kernel
theorem dX4_make_13 : decode cX4_make 13 = .ok (.getfield 33, 3) := by decide +kernel
theorem dX4_make_16 : decode cX4_make 16 = .ok (.iconst (-1), 1) := by decide +kernel
theorem dX4_make_17 : decode cX4_make 17 = .ok (.if_icmp .eq 7, 3) := by decide +kernel
theorem dX4_make_20 : decode cX4_make 20 = .ok (.iconst 1, 1) := by decide +kernel
theorem dX4_make_21 : decode cX4_make 21 = .ok (.goto 4, 3) := by decide +kernel
theorem dX4_make_24 : decode cX4_make 24 = .ok (.iconst 0, 1) := by decide +kernel
theorem dX4_make_25 : decode cX4_make 25 = .ok (.ireturn, 1) := by decide +kernel
theorem dX4_send_0 : decode cX4_send 0 = .ok (.aload_n 0, 1) := by decide +kernel
theorem dX4_send_1 : decode cX4_send 1 = .ok (.getfield 33, 3) := by decide +kernel
theorem dX4_send_4 : decode cX4_send 4 = .ok (.iconst (-1), 1) := by decide +kernel
theorem dX4_send_5 : decode cX4_send 5 = .ok (.if_icmp .eq 12, 3) := by decide +kernel
theorem dX4_send_8 : decode cX4_send 8 = .ok (.iload_n 3, 1) := by decide +kernel
theorem dX4_send_9 : decode cX4_send 9 = .ok (.aload_n 0, 1) := by decide +kernel
theorem dX4_send_10 : decode cX4_send 10 = .ok (.getfield 33, 3) := by decide +kernel
theorem dX4_send_13 : decode cX4_send 13 = .ok (.if_icmp .lt 4, 3) := by decide +kernel
theorem dX4_send_16 : decode cX4_send 16 = .ok (.return_, 1) := by decide +kernel
theorem dX4_send_17 : decode cX4_send 17 = .ok (.iload_n 2, 1) := by decide +kernel
theorem dX4_send_18 : decode cX4_send 18 = .ok (.iload_n 1, 1) := by decide +kernel
theorem dX4_send_19 : decode cX4_send 19 = .ok (.if_icmp .lt 23, 3) := by decide +kernel
theorem dX4_send_22 : decode cX4_send 22 = .ok (.aload_n 0, 1) := by decide +kernel
theorem dX4_send_23 : decode cX4_send 23 = .ok (.iload_n 3, 1) := by decide +kernel
theorem dX4_send_24 : decode cX4_send 24 = .ok (.putfield 33, 3) := by decide +kernel
theorem dX4_send_27 : decode cX4_send 27 = .ok (.aload_n 0, 1) := by decide +kernel
theorem dX4_send_28 : decode cX4_send 28 = .ok (.getfield 16, 3) := by decide +kernel
theorem dX4_send_31 : decode cX4_send 31 = .ok (.iconst 0, 1) := by decide +kernel
theorem dX4_send_32 : decode cX4_send 32 = .ok (.aload_n 0, 1) := by decide +kernel
theorem dX4_send_33 : decode cX4_send 33 = .ok (.getfield 20, 3) := by decide +kernel
theorem dX4_send_36 : decode cX4_send 36 = .ok (.iconst 0, 1) := by decide +kernel
theorem dX4_send_37 : decode cX4_send 37 = .ok (.iload_n 1, 1) := by decide +kernel
theorem dX4_send_38 : decode cX4_send 38 = .ok (.invokestatic 40, 3) := by decide +kernel
theorem dX4_send_41 : decode cX4_send 41 = .ok (.return_, 1) := by decide +kernel
theorem dX4_send_42 : decode cX4_send 42 = .ok (.iconst 0, 1) := by decide +kernel
theorem dX4_send_43 : decode cX4_send 43 = .ok (.istore 4, 2) := by decide +kernel
theorem dX4_send_45 : decode cX4_send 45 = .ok (.iload 4, 2) := by decide +kernel
theorem dX4_send_47 : decode cX4_send 47 = .ok (.iconst 4, 1) := by decide +kernel
theorem dX4_send_48 : decode cX4_send 48 = .ok (.if_icmp .ge 18, 3) := by decide +kernel
theorem dX4_send_51 : decode cX4_send 51 = .ok (.aload_n 0, 1) := by decide +kernel
theorem dX4_send_52 : decode cX4_send 52 = .ok (.iload 4, 2) := by decide +kernel
theorem dX4_send_54 : decode cX4_send 54 = .ok (.iload_n 1, 1) := by decide +kernel
theorem dX4_send_55 : decode cX4_send 55 = .ok (.iload_n 2, 1) := by decide +kernel
theorem dX4_send_56 : decode cX4_send 56 = .ok (.iload_n 3, 1) := by decide +kernel
theorem dX4_send_57 : decode cX4_send 57 = .ok (.invokevirtual 46, 3) := by decide +kernel
theorem dX4_send_60 : decode cX4_send 60 = .ok (.iinc 4 1, 3) := by decide +kernel
theorem dX4_send_63 : decode cX4_send 63 = .ok (.goto (-18), 3) := by decide +kernel
theorem dX4_send_66 : decode cX4_send 66 = .ok (.return_, 1) := by decide +kernel
theorem dX4_sendTo_0 : decode cX4_sendTo 0 = .ok (.aload_n 0, 1) := by decide +kernel
theorem dX4_sendTo_1 : decode cX4_sendTo 1 = .ok (.iload_n 3, 1) := by decide +kernel
theorem dX4_sendTo_2 : decode cX4_sendTo 2 = .ok (.iload_n 1, 1) := by decide +kernel
theorem dX4_sendTo_3 : decode cX4_sendTo 3 = .ok (.invokevirtual 50, 3) := by decide +kernel
theorem dX4_sendTo_6 : decode cX4_sendTo 6 = .ok (.istore 5, 2) := by decide +kernel
theorem dX4_sendTo_8 : decode cX4_sendTo 8 = .ok (.aload_n 0, 1) := by decide +kernel
theorem dX4_sendTo_9 : decode cX4_sendTo 9 = .ok (.getfield 23, 3) := by decide +kernel
theorem dX4_sendTo_12 : decode cX4_sendTo 12 = .ok (.iload_n 1, 1) := by decide +kernel
theorem dX4_sendTo_13 : decode cX4_sendTo 13 = .ok (.iaload, 1) := by decide +kernel
theorem dX4_sendTo_14 : decode cX4_sendTo 14 = .ok (.aload_n 0, 1) := by decide +kernel
theorem dX4_sendTo_15 : decode cX4_sendTo 15 = .ok (.getfield 30, 3) := by decide +kernel
theorem dX4_sendTo_18 : decode cX4_sendTo 18 = .ok (.if_icmp .ge 52, 3) := by decide +kernel
theorem dX4_sendTo_21 : decode cX4_sendTo 21 = .ok (.iload 5, 2) := by decide +kernel
theorem dX4_sendTo_23 : decode cX4_sendTo 23 = .ok (.aload_n 0, 1) := by decide +kernel
theorem dX4_sendTo_24 : decode cX4_sendTo 24 = .ok (.getfield 26, 3) := by decide +kernel
theorem dX4_sendTo_27 : decode cX4_sendTo 27 = .ok (.if_icmp .gt 43, 3) := by decide +kernel
theorem dX4_sendTo_30 : decode cX4_sendTo 30 = .ok (.aload_n 0, 1) := by decide +kernel
theorem dX4_sendTo_31 : decode cX4_sendTo 31 = .ok (.getfield 16, 3) := by decide +kernel
theorem dX4_sendTo_34 : decode cX4_sendTo 34 = .ok (.iload_n 3, 1) := by decide +kernel
theorem dX4_sendTo_35 : decode cX4_sendTo 35 = .ok (.iload_n 1, 1) := by decide +kernel
theorem dX4_sendTo_36 : decode cX4_sendTo 36 = .ok (.iastore, 1) := by decide +kernel
theorem dX4_sendTo_37 : decode cX4_sendTo 37 = .ok (.aload_n 0, 1) := by decide +kernel
theorem dX4_sendTo_38 : decode cX4_sendTo 38 = .ok (.getfield 23, 3) := by decide +kernel
theorem dX4_sendTo_41 : decode cX4_sendTo 41 = .ok (.iload_n 1, 1) := by decide +kernel
theorem dX4_sendTo_42 : decode cX4_sendTo 42 = .ok (.dup2, 1) := by decide +kernel
theorem dX4_sendTo_43 : decode cX4_sendTo 43 = .ok (.iaload, 1) := by decide +kernel
theorem dX4_sendTo_44 : decode cX4_sendTo 44 = .ok (.iconst 1, 1) := by decide +kernel
theorem dX4_sendTo_45 : decode cX4_sendTo 45 = .ok (.iadd, 1) := by decide +kernel
theorem dX4_sendTo_46 : decode cX4_sendTo 46 = .ok (.iastore, 1) := by decide +kernel
theorem dX4_sendTo_47 : decode cX4_sendTo 47 = .ok (.aload_n 0, 1) := by decide +kernel
theorem dX4_sendTo_48 : decode cX4_sendTo 48 = .ok (.iload_n 2, 1) := by decide +kernel
theorem dX4_sendTo_49 : decode cX4_sendTo 49 = .ok (.iload_n 3, 1) := by decide +kernel
theorem dX4_sendTo_50 : decode cX4_sendTo 50 = .ok (.iconst 1, 1) := by decide +kernel
theorem dX4_sendTo_51 : decode cX4_sendTo 51 = .ok (.iadd, 1) := by decide +kernel
theorem dX4_sendTo_52 : decode cX4_sendTo 52 = .ok (.iload 4, 2) := by decide +kernel
theorem dX4_sendTo_54 : decode cX4_sendTo 54 = .ok (.iload 5, 2) := by decide +kernel
theorem dX4_sendTo_56 : decode cX4_sendTo 56 = .ok (.iadd, 1) := by decide +kernel
theorem dX4_sendTo_57 : decode cX4_sendTo 57 = .ok (.invokevirtual 36, 3) := by decide +kernel
theorem dX4_sendTo_60 : decode cX4_sendTo 60 = .ok (.aload_n 0, 1) := by decide +kernel
theorem dX4_sendTo_61 : decode cX4_sendTo 61 = .ok (.getfield 23, 3) := by decide +kernel
theorem dX4_sendTo_64 : decode cX4_sendTo 64 = .ok (.iload_n 1, 1) := by decide +kernel
theorem dX4_sendTo_65 : decode cX4_sendTo 65 = .ok (.dup2, 1) := by decide +kernel
theorem dX4_sendTo_66 : decode cX4_sendTo 66 = .ok (.iaload, 1) := by decide +kernel
theorem dX4_sendTo_67 : decode cX4_sendTo 67 = .ok (.iconst 1, 1) := by decide +kernel
theorem dX4_sendTo_68 : decode cX4_sendTo 68 = .ok (.isub, 1) := by decide +kernel
theorem dX4_sendTo_69 : decode cX4_sendTo 69 = .ok (.iastore, 1) := by decide +kernel
theorem dX4_sendTo_70 : decode cX4_sendTo 70 = .ok (.return_, 1) := by decide +kernel
theorem dX4_stepTo_0 : decode cX4_stepTo 0 = .ok (.iload_n 1, 1) := by decide +kernel
theorem dX4_stepTo_1 : decode cX4_stepTo 1 = .ok (.ifCond .ne 5, 3) := by decide +kernel
theorem dX4_stepTo_4 : decode cX4_stepTo 4 = .ok (.iconst 0, 1) := by decide +kernel
theorem dX4_stepTo_5 : decode cX4_stepTo 5 = .ok (.ireturn, 1) := by decide +kernel
theorem dX4_stepTo_6 : decode cX4_stepTo 6 = .ok (.aload_n 0, 1) := by decide +kernel
theorem dX4_stepTo_7 : decode cX4_stepTo 7 = .ok (.getfield 16, 3) := by decide +kernel
theorem dX4_stepTo_10 : decode cX4_stepTo 10 = .ok (.iload_n 1, 1) := by decide +kernel
theorem dX4_stepTo_11 : decode cX4_stepTo 11 = .ok (.iconst 1, 1) := by decide +kernel
theorem dX4_stepTo_12 : decode cX4_stepTo 12 = .ok (.isub, 1) := by decide +kernel
theorem dX4_stepTo_13 : decode cX4_stepTo 13 = .ok (.iaload, 1) := by decide +kernel
theorem dX4_stepTo_14 : decode cX4_stepTo 14 = .ok (.istore_n 3, 1) := by decide +kernel
theorem dX4_stepTo_15 : decode cX4_stepTo 15 = .ok (.aload_n 0, 1) := by decide +kernel
theorem dX4_stepTo_16 : decode cX4_stepTo 16 = .ok (.getfield 11, 3) := by decide +kernel
theorem dX4_stepTo_19 : decode cX4_stepTo 19 = .ok (.iload_n 2, 1) := by decide +kernel
theorem dX4_stepTo_20 : decode cX4_stepTo 20 = .ok (.aaload, 1) := by decide +kernel
theorem dX4_stepTo_21 : decode cX4_stepTo 21 = .ok (.iload_n 1, 1) := by decide +kernel
theorem dX4_stepTo_22 : decode cX4_stepTo 22 = .ok (.iaload, 1) := by decide +kernel
theorem dX4_stepTo_23 : decode cX4_stepTo 23 = .ok (.aload_n 0, 1) := by decide +kernel
theorem dX4_stepTo_24 : decode cX4_stepTo 24 = .ok (.getfield 11, 3) := by decide +kernel
theorem dX4_stepTo_27 : decode cX4_stepTo 27 = .ok (.iload_n 3, 1) := by decide +kernel
theorem dX4_stepTo_28 : decode cX4_stepTo 28 = .ok (.aaload, 1) := by decide +kernel
theorem dX4_stepTo_29 : decode cX4_stepTo 29 = .ok (.iload_n 1, 1) := by decide +kernel
theorem dX4_stepTo_30 : decode cX4_stepTo 30 = .ok (.iconst 1, 1) := by decide +kernel
theorem dX4_stepTo_31 : decode cX4_stepTo 31 = .ok (.isub, 1) := by decide +kernel
theorem dX4_stepTo_32 : decode cX4_stepTo 32 = .ok (.iaload, 1) := by decide +kernel
theorem dX4_stepTo_33 : decode cX4_stepTo 33 = .ok (.isub, 1) := by decide +kernel
theorem dX4_stepTo_34 : decode cX4_stepTo 34 = .ok (.invokestatic 54, 3) := by decide +kernel
theorem dX4_stepTo_37 : decode cX4_stepTo 37 = .ok (.ireturn, 1) := by decide +kernel
theorem dX5_init_0 : decode cX5_init 0 = .ok (.aload_n 0, 1) := by decide +kernel
theorem dX5_init_1 : decode cX5_init 1 = .ok (.invokespecial 1, 3) := by decide +kernel
theorem dX5_init_4 : decode cX5_init 4 = .ok (.return_, 1) := by decide +kernel
theorem dX5_clear_0 : decode cX5_clear 0 = .ok (.aload_n 0, 1) := by decide +kernel
theorem dX5_clear_1 : decode cX5_clear 1 = .ok (.lconst 0, 1) := by decide +kernel
theorem dX5_clear_2 : decode cX5_clear 2 = .ok (.putfield 7, 3) := by decide +kernel
theorem dX5_clear_5 : decode cX5_clear 5 = .ok (.aload_n 0, 1) := by decide +kernel
theorem dX5_clear_6 : decode cX5_clear 6 = .ok (.lconst 0, 1) := by decide +kernel
theorem dX5_clear_7 : decode cX5_clear 7 = .ok (.putfield 13, 3) := by decide +kernel
theorem dX5_clear_10 : decode cX5_clear 10 = .ok (.aload_n 0, 1) := by decide +kernel
theorem dX5_clear_11 : decode cX5_clear 11 = .ok (.lconst 0, 1) := by decide +kernel
theorem dX5_clear_12 : decode cX5_clear 12 = .ok (.putfield 16, 3) := by decide +kernel
theorem dX5_clear_15 : decode cX5_clear 15 = .ok (.aload_n 0, 1) := by decide +kernel
theorem dX5_clear_16 : decode cX5_clear 16 = .ok (.lconst 0, 1) := by decide +kernel
theorem dX5_clear_17 : decode cX5_clear 17 = .ok (.putfield 19, 3) := by decide +kernel
theorem dX5_clear_20 : decode cX5_clear 20 = .ok (.aload_n 0, 1) := by decide +kernel
theorem dX5_clear_21 : decode cX5_clear 21 = .ok (.iload_n 1, 1) := by decide +kernel
theorem dX5_clear_22 : decode cX5_clear 22 = .ok (.ifCond .ne 7, 3) := by decide +kernel
theorem dX5_clear_25 : decode cX5_clear 25 = .ok (.lconst 1, 1) := by decide +kernel
theorem dX5_clear_26 : decode cX5_clear 26 = .ok (.goto 4, 3) := by decide +kernel
theorem dX5_clear_29 : decode cX5_clear 29 = .ok (.lconst 0, 1) := by decide +kernel
theorem dX5_clear_30 : decode cX5_clear 30 = .ok (.putfield 22, 3) := by decide +kernel
theorem dX5_clear_33 : decode cX5_clear 33 = .ok (.aload_n 0, 1) := by decide +kernel
theorem dX5_clear_34 : decode cX5_clear 34 = .ok (.aload_n 0, 1) := by decide +kernel
theorem dX5_clear_35 : decode cX5_clear 35 = .ok (.getfield 22, 3) := by decide +kernel
theorem dX5_clear_38 : decode cX5_clear 38 = .ok (.putfield 25, 3) := by decide +kernel
theorem dX5_clear_41 : decode cX5_clear 41 = .ok (.return_, 1) := by decide +kernel
theorem dX5_add_0 : decode cX5_add 0 = .ok (.aload_n 0, 1) := by decide +kernel
theorem dX5_add_1 : decode cX5_add 1 = .ok (.dup, 1) := by decide +kernel
theorem dX5_add_2 : decode cX5_add 2 = .ok (.getfield 7, 3) := by decide +kernel
theorem dX5_add_5 : decode cX5_add 5 = .ok (.iload 5, 2) := by decide +kernel
theorem dX5_add_7 : decode cX5_add 7 = .ok (.i2l, 1) := by decide +kernel
theorem dX5_add_8 : decode cX5_add 8 = .ok (.ladd, 1) := by decide +kernel
theorem dX5_add_9 : decode cX5_add 9 = .ok (.putfield 7, 3) := by decide +kernel
theorem dX5_add_12 : decode cX5_add 12 = .ok (.aload_n 0, 1) := by decide +kernel
theorem dX5_add_13 : decode cX5_add 13 = .ok (.dup, 1) := by decide +kernel
theorem dX5_add_14 : decode cX5_add 14 = .ok (.getfield 13, 3) := by decide +kernel
theorem dX5_add_17 : decode cX5_add 17 = .ok (.iload 5, 2) := by decide +kernel
theorem dX5_add_19 : decode cX5_add 19 = .ok (.i2l, 1) := by decide +kernel
theorem dX5_add_20 : decode cX5_add 20 = .ok (.lload_n 1, 1) := by decide +kernel
theorem dX5_add_21 : decode cX5_add 21 = .ok (.lmul, 1) := by decide +kernel
theorem dX5_add_22 : decode cX5_add 22 = .ok (.ladd, 1) := by decide +kernel
theorem dX5_add_23 : decode cX5_add 23 = .ok (.putfield 13, 3) := by decide +kernel
theorem dX5_add_26 : decode cX5_add 26 = .ok (.aload_n 0, 1) := by decide +kernel
theorem dX5_add_27 : decode cX5_add 27 = .ok (.dup, 1) := by decide +kernel
theorem dX5_add_28 : decode cX5_add 28 = .ok (.getfield 16, 3) := by decide +kernel
theorem dX5_add_31 : decode cX5_add 31 = .ok (.iload 5, 2) := by decide +kernel
theorem dX5_add_33 : decode cX5_add 33 = .ok (.i2l, 1) := by decide +kernel
theorem dX5_add_34 : decode cX5_add 34 = .ok (.lload_n 3, 1) := by decide +kernel
theorem dX5_add_35 : decode cX5_add 35 = .ok (.lmul, 1) := by decide +kernel
theorem dX5_add_36 : decode cX5_add 36 = .ok (.ladd, 1) := by decide +kernel
theorem dX5_add_37 : decode cX5_add 37 = .ok (.putfield 16, 3) := by decide +kernel
theorem dX5_add_40 : decode cX5_add 40 = .ok (.aload_n 0, 1) := by decide +kernel
theorem dX5_add_41 : decode cX5_add 41 = .ok (.dup, 1) := by decide +kernel
theorem dX5_add_42 : decode cX5_add 42 = .ok (.getfield 22, 3) := by decide +kernel
theorem dX5_add_45 : decode cX5_add 45 = .ok (.iload 5, 2) := by decide +kernel
theorem dX5_add_47 : decode cX5_add 47 = .ok (.i2l, 1) := by decide +kernel
theorem dX5_add_48 : decode cX5_add 48 = .ok (.lload_n 1, 1) := by decide +kernel
theorem dX5_add_49 : decode cX5_add 49 = .ok (.lmul, 1) := by decide +kernel
theorem dX5_add_50 : decode cX5_add 50 = .ok (.lload_n 1, 1) := by decide +kernel
theorem dX5_add_51 : decode cX5_add 51 = .ok (.lmul, 1) := by decide +kernel
theorem dX5_add_52 : decode cX5_add 52 = .ok (.ladd, 1) := by decide +kernel
theorem dX5_add_53 : decode cX5_add 53 = .ok (.putfield 22, 3) := by decide +kernel
theorem dX5_add_56 : decode cX5_add 56 = .ok (.aload_n 0, 1) := by decide +kernel
theorem dX5_add_57 : decode cX5_add 57 = .ok (.dup, 1) := by decide +kernel
theorem dX5_add_58 : decode cX5_add 58 = .ok (.getfield 19, 3) := by decide +kernel
theorem dX5_add_61 : decode cX5_add 61 = .ok (.iload 5, 2) := by decide +kernel
theorem dX5_add_63 : decode cX5_add 63 = .ok (.i2l, 1) := by decide +kernel
theorem dX5_add_64 : decode cX5_add 64 = .ok (.lload_n 1, 1) := by decide +kernel
theorem dX5_add_65 : decode cX5_add 65 = .ok (.lmul, 1) := by decide +kernel
theorem dX5_add_66 : decode cX5_add 66 = .ok (.lload_n 3, 1) := by decide +kernel
theorem dX5_add_67 : decode cX5_add 67 = .ok (.lmul, 1) := by decide +kernel
theorem dX5_add_68 : decode cX5_add 68 = .ok (.ladd, 1) := by decide +kernel
theorem dX5_add_69 : decode cX5_add 69 = .ok (.putfield 19, 3) := by decide +kernel
theorem dX5_add_72 : decode cX5_add 72 = .ok (.aload_n 0, 1) := by decide +kernel
theorem dX5_add_73 : decode cX5_add 73 = .ok (.dup, 1) := by decide +kernel
theorem dX5_add_74 : decode cX5_add 74 = .ok (.getfield 25, 3) := by decide +kernel
theorem dX5_add_77 : decode cX5_add 77 = .ok (.iload 5, 2) := by decide +kernel
theorem dX5_add_79 : decode cX5_add 79 = .ok (.i2l, 1) := by decide +kernel
theorem dX5_add_80 : decode cX5_add 80 = .ok (.lload_n 3, 1) := by decide +kernel
theorem dX5_add_81 : decode cX5_add 81 = .ok (.lmul, 1) := by decide +kernel
theorem dX5_add_82 : decode cX5_add 82 = .ok (.lload_n 3, 1) := by decide +kernel
theorem dX5_add_83 : decode cX5_add 83 = .ok (.lmul, 1) := by decide +kernel
theorem dX5_add_84 : decode cX5_add 84 = .ok (.ladd, 1) := by decide +kernel
theorem dX5_add_85 : decode cX5_add 85 = .ok (.putfield 25, 3) := by decide +kernel
theorem dX5_add_88 : decode cX5_add 88 = .ok (.return_, 1) := by decide +kernel
theorem dX5_turnBack_0 : decode cX5_turnBack 0 = .ok (.aload_n 0, 1) := by decide +kernel
theorem dX5_turnBack_1 : decode cX5_turnBack 1 = .ok (.aload_n 0, 1) := by decide +kernel
theorem dX5_turnBack_2 : decode cX5_turnBack 2 = .ok (.getfield 22, 3) := by decide +kernel
theorem dX5_turnBack_5 : decode cX5_turnBack 5 = .ok (.aload_n 0, 1) := by decide +kernel
theorem dX5_turnBack_6 : decode cX5_turnBack 6 = .ok (.getfield 25, 3) := by decide +kernel
theorem dX5_turnBack_9 : decode cX5_turnBack 9 = .ok (.lmul, 1) := by decide +kernel
theorem dX5_turnBack_10 : decode cX5_turnBack 10 = .ok (.aload_n 0, 1) := by decide +kernel
theorem dX5_turnBack_11 : decode cX5_turnBack 11 = .ok (.getfield 19, 3) := by decide +kernel
theorem dX5_turnBack_14 : decode cX5_turnBack 14 = .ok (.aload_n 0, 1) := by decide +kernel
theorem dX5_turnBack_15 : decode cX5_turnBack 15 = .ok (.getfield 19, 3) := by decide +kernel
theorem dX5_turnBack_18 : decode cX5_turnBack 18 = .ok (.lmul, 1) := by decide +kernel
theorem dX5_turnBack_19 : decode cX5_turnBack 19 = .ok (.lsub, 1) := by decide +kernel
theorem dX5_turnBack_20 : decode cX5_turnBack 20 = .ok (.putfield 28, 3) := by decide +kernel
theorem dX5_turnBack_23 : decode cX5_turnBack 23 = .ok (.aload_n 0, 1) := by decide +kernel
theorem dX5_turnBack_24 : decode cX5_turnBack 24 = .ok (.aload_n 0, 1) := by decide +kernel
theorem dX5_turnBack_25 : decode cX5_turnBack 25 = .ok (.getfield 16, 3) := by decide +kernel
theorem dX5_turnBack_28 : decode cX5_turnBack 28 = .ok (.aload_n 0, 1) := by decide +kernel
theorem dX5_turnBack_29 : decode cX5_turnBack 29 = .ok (.getfield 19, 3) := by decide +kernel
theorem dX5_turnBack_32 : decode cX5_turnBack 32 = .ok (.lmul, 1) := by decide +kernel
theorem dX5_turnBack_33 : decode cX5_turnBack 33 = .ok (.aload_n 0, 1) := by decide +kernel
theorem dX5_turnBack_34 : decode cX5_turnBack 34 = .ok (.getfield 13, 3) := by decide +kernel
theorem dX5_turnBack_37 : decode cX5_turnBack 37 = .ok (.aload_n 0, 1) := by decide +kernel
