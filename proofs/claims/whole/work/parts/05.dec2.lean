theorem dX10_lateAt_30 : decode cX10_lateAt 30 = .ok (.iload 7, 2) := by decide +kernel
theorem dX10_lateAt_32 : decode cX10_lateAt 32 = .ok (.laload, 1) := by decide +kernel
theorem dX10_lateAt_33 : decode cX10_lateAt 33 = .ok (.lload_n 3, 1) := by decide +kernel
theorem dX10_lateAt_34 : decode cX10_lateAt 34 = .ok (.lcmp, 1) := by decide +kernel
theorem dX10_lateAt_35 : decode cX10_lateAt 35 = .ok (.ifCond .ne 27, 3) := by decide +kernel
theorem dX10_lateAt_38 : decode cX10_lateAt 38 = .ok (.aload_n 0, 1) := by decide +kernel
theorem dX10_lateAt_39 : decode cX10_lateAt 39 = .ok (.getfield 48, 3) := by decide +kernel
theorem dX10_lateAt_42 : decode cX10_lateAt 42 = .ok (.iload 7, 2) := by decide +kernel
theorem dX10_lateAt_44 : decode cX10_lateAt 44 = .ok (.iaload, 1) := by decide +kernel
theorem dX10_lateAt_45 : decode cX10_lateAt 45 = .ok (.iload_n 2, 1) := by decide +kernel
theorem dX10_lateAt_46 : decode cX10_lateAt 46 = .ok (.if_icmp .gt 16, 3) := by decide +kernel
theorem dX10_lateAt_49 : decode cX10_lateAt 49 = .ok (.lload 5, 2) := by decide +kernel
theorem dX10_lateAt_51 : decode cX10_lateAt 51 = .ok (.aload_n 0, 1) := by decide +kernel
theorem dX10_lateAt_52 : decode cX10_lateAt 52 = .ok (.getfield 51, 3) := by decide +kernel
theorem dX10_lateAt_55 : decode cX10_lateAt 55 = .ok (.iload 7, 2) := by decide +kernel
theorem dX10_lateAt_57 : decode cX10_lateAt 57 = .ok (.laload, 1) := by decide +kernel
theorem dX10_lateAt_58 : decode cX10_lateAt 58 = .ok (.ladd, 1) := by decide +kernel
theorem dX10_lateAt_59 : decode cX10_lateAt 59 = .ok (.goto 5, 3) := by decide +kernel
theorem dX10_lateAt_62 : decode cX10_lateAt 62 = .ok (.lload 5, 2) := by decide +kernel
theorem dX10_lateAt_64 : decode cX10_lateAt 64 = .ok (.lstore 5, 2) := by decide +kernel
theorem dX10_lateAt_66 : decode cX10_lateAt 66 = .ok (.iinc 7 1, 3) := by decide +kernel
theorem dX10_lateAt_69 : decode cX10_lateAt 69 = .ok (.goto (-63), 3) := by decide +kernel
theorem dX10_lateAt_72 : decode cX10_lateAt 72 = .ok (.lload 5, 2) := by decide +kernel
theorem dX10_lateAt_74 : decode cX10_lateAt 74 = .ok (.lreturn, 1) := by decide +kernel
theorem dX10_timeAt_0 : decode cX10_timeAt 0 = .ok (.bipush 12, 2) := by decide +kernel
theorem dX10_timeAt_2 : decode cX10_timeAt 2 = .ok (.iload_n 1, 1) := by decide +kernel
theorem dX10_timeAt_3 : decode cX10_timeAt 3 = .ok (.imul, 1) := by decide +kernel
theorem dX10_timeAt_4 : decode cX10_timeAt 4 = .ok (.iload 4, 2) := by decide +kernel
theorem dX10_timeAt_6 : decode cX10_timeAt 6 = .ok (.iadd, 1) := by decide +kernel
theorem dX10_timeAt_7 : decode cX10_timeAt 7 = .ok (.istore 6, 2) := by decide +kernel
theorem dX10_timeAt_9 : decode cX10_timeAt 9 = .ok (.ldc2_w 149, 3) := by decide +kernel
theorem dX10_timeAt_12 : decode cX10_timeAt 12 = .ok (.lload_n 2, 1) := by decide +kernel
theorem dX10_timeAt_13 : decode cX10_timeAt 13 = .ok (.lmul, 1) := by decide +kernel
theorem dX10_timeAt_14 : decode cX10_timeAt 14 = .ok (.iload 5, 2) := by decide +kernel
theorem dX10_timeAt_16 : decode cX10_timeAt 16 = .ok (.ifCond .eq 13, 3) := by decide +kernel
theorem dX10_timeAt_19 : decode cX10_timeAt 19 = .ok (.aload_n 0, 1) := by decide +kernel
theorem dX10_timeAt_20 : decode cX10_timeAt 20 = .ok (.getfield 23, 3) := by decide +kernel
theorem dX10_timeAt_23 : decode cX10_timeAt 23 = .ok (.iload 6, 2) := by decide +kernel
theorem dX10_timeAt_25 : decode cX10_timeAt 25 = .ok (.laload, 1) := by decide +kernel
theorem dX10_timeAt_26 : decode cX10_timeAt 26 = .ok (.goto 10, 3) := by decide +kernel
theorem dX10_timeAt_29 : decode cX10_timeAt 29 = .ok (.aload_n 0, 1) := by decide +kernel
theorem dX10_timeAt_30 : decode cX10_timeAt 30 = .ok (.getfield 19, 3) := by decide +kernel
theorem dX10_timeAt_33 : decode cX10_timeAt 33 = .ok (.iload 6, 2) := by decide +kernel
theorem dX10_timeAt_35 : decode cX10_timeAt 35 = .ok (.laload, 1) := by decide +kernel
theorem dX10_timeAt_36 : decode cX10_timeAt 36 = .ok (.ladd, 1) := by decide +kernel
theorem dX10_timeAt_37 : decode cX10_timeAt 37 = .ok (.ldc2_w 151, 3) := by decide +kernel
theorem dX10_timeAt_40 : decode cX10_timeAt 40 = .ok (.aload_n 0, 1) := by decide +kernel
theorem dX10_timeAt_41 : decode cX10_timeAt 41 = .ok (.aload_n 0, 1) := by decide +kernel
theorem dX10_timeAt_42 : decode cX10_timeAt 42 = .ok (.getfield 16, 3) := by decide +kernel
theorem dX10_timeAt_45 : decode cX10_timeAt 45 = .ok (.iload 6, 2) := by decide +kernel
theorem dX10_timeAt_47 : decode cX10_timeAt 47 = .ok (.iaload, 1) := by decide +kernel
theorem dX10_timeAt_48 : decode cX10_timeAt 48 = .ok (.lload_n 2, 1) := by decide +kernel
theorem dX10_timeAt_49 : decode cX10_timeAt 49 = .ok (.invokevirtual 153, 3) := by decide +kernel
theorem dX10_timeAt_52 : decode cX10_timeAt 52 = .ok (.i2l, 1) := by decide +kernel
theorem dX10_timeAt_53 : decode cX10_timeAt 53 = .ok (.lmul, 1) := by decide +kernel
theorem dX10_timeAt_54 : decode cX10_timeAt 54 = .ok (.lsub, 1) := by decide +kernel
theorem dX10_timeAt_55 : decode cX10_timeAt 55 = .ok (.aload_n 0, 1) := by decide +kernel
theorem dX10_timeAt_56 : decode cX10_timeAt 56 = .ok (.iload_n 1, 1) := by decide +kernel
theorem dX10_timeAt_57 : decode cX10_timeAt 57 = .ok (.iload 4, 2) := by decide +kernel
theorem dX10_timeAt_59 : decode cX10_timeAt 59 = .ok (.lload_n 2, 1) := by decide +kernel
theorem dX10_timeAt_60 : decode cX10_timeAt 60 = .ok (.invokevirtual 157, 3) := by decide +kernel
theorem dX10_timeAt_63 : decode cX10_timeAt 63 = .ok (.ladd, 1) := by decide +kernel
theorem dX10_timeAt_64 : decode cX10_timeAt 64 = .ok (.lreturn, 1) := by decide +kernel
theorem dX10_take_0 : decode cX10_take 0 = .ok (.aload_n 0, 1) := by decide +kernel
theorem dX10_take_1 : decode cX10_take 1 = .ok (.iload_n 1, 1) := by decide +kernel
theorem dX10_take_2 : decode cX10_take 2 = .ok (.lload_n 2, 1) := by decide +kernel
theorem dX10_take_3 : decode cX10_take 3 = .ok (.invokevirtual 161, 3) := by decide +kernel
theorem dX10_take_6 : decode cX10_take 6 = .ok (.ifCond .ne 5, 3) := by decide +kernel
theorem dX10_take_9 : decode cX10_take 9 = .ok (.iconst 0, 1) := by decide +kernel
theorem dX10_take_10 : decode cX10_take 10 = .ok (.ireturn, 1) := by decide +kernel
theorem dX10_take_11 : decode cX10_take 11 = .ok (.iconst 0, 1) := by decide +kernel
theorem dX10_take_12 : decode cX10_take 12 = .ok (.istore 4, 2) := by decide +kernel
theorem dX10_take_14 : decode cX10_take 14 = .ok (.iload 4, 2) := by decide +kernel
theorem dX10_take_16 : decode cX10_take 16 = .ok (.aload_n 0, 1) := by decide +kernel
theorem dX10_take_17 : decode cX10_take 17 = .ok (.getfield 13, 3) := by decide +kernel
theorem dX10_take_20 : decode cX10_take 20 = .ok (.iload_n 1, 1) := by decide +kernel
theorem dX10_take_21 : decode cX10_take 21 = .ok (.iaload, 1) := by decide +kernel
theorem dX10_take_22 : decode cX10_take 22 = .ok (.if_icmp .ge 41, 3) := by decide +kernel
theorem dX10_take_25 : decode cX10_take 25 = .ok (.aload_n 0, 1) := by decide +kernel
theorem dX10_take_26 : decode cX10_take 26 = .ok (.getfield 78, 3) := by decide +kernel
theorem dX10_take_29 : decode cX10_take 29 = .ok (.iload 4, 2) := by decide +kernel
theorem dX10_take_31 : decode cX10_take 31 = .ok (.aload_n 0, 1) := by decide +kernel
theorem dX10_take_32 : decode cX10_take 32 = .ok (.iload_n 1, 1) := by decide +kernel
theorem dX10_take_33 : decode cX10_take 33 = .ok (.lload_n 2, 1) := by decide +kernel
theorem dX10_take_34 : decode cX10_take 34 = .ok (.iload 4, 2) := by decide +kernel
theorem dX10_take_36 : decode cX10_take 36 = .ok (.iconst 0, 1) := by decide +kernel
theorem dX10_take_37 : decode cX10_take 37 = .ok (.invokevirtual 165, 3) := by decide +kernel
theorem dX10_take_40 : decode cX10_take 40 = .ok (.lastore, 1) := by decide +kernel
theorem dX10_take_41 : decode cX10_take 41 = .ok (.aload_n 0, 1) := by decide +kernel
theorem dX10_take_42 : decode cX10_take 42 = .ok (.getfield 81, 3) := by decide +kernel
theorem dX10_take_45 : decode cX10_take 45 = .ok (.iload 4, 2) := by decide +kernel
theorem dX10_take_47 : decode cX10_take 47 = .ok (.aload_n 0, 1) := by decide +kernel
theorem dX10_take_48 : decode cX10_take 48 = .ok (.iload_n 1, 1) := by decide +kernel
theorem dX10_take_49 : decode cX10_take 49 = .ok (.lload_n 2, 1) := by decide +kernel
theorem dX10_take_50 : decode cX10_take 50 = .ok (.iload 4, 2) := by decide +kernel
theorem dX10_take_52 : decode cX10_take 52 = .ok (.iconst 1, 1) := by decide +kernel
theorem dX10_take_53 : decode cX10_take 53 = .ok (.invokevirtual 165, 3) := by decide +kernel
theorem dX10_take_56 : decode cX10_take 56 = .ok (.lastore, 1) := by decide +kernel
theorem dX10_take_57 : decode cX10_take 57 = .ok (.iinc 4 1, 3) := by decide +kernel
theorem dX10_take_60 : decode cX10_take 60 = .ok (.goto (-46), 3) := by decide +kernel
theorem dX10_take_63 : decode cX10_take 63 = .ok (.iconst 1, 1) := by decide +kernel
theorem dX10_take_64 : decode cX10_take 64 = .ok (.ireturn, 1) := by decide +kernel
theorem dX10_isLeg_0 : decode cX10_isLeg 0 = .ok (.aload_n 0, 1) := by decide +kernel
theorem dX10_isLeg_1 : decode cX10_isLeg 1 = .ok (.getfield 78, 3) := by decide +kernel
theorem dX10_isLeg_4 : decode cX10_isLeg 4 = .ok (.iload_n 2, 1) := by decide +kernel
theorem dX10_isLeg_5 : decode cX10_isLeg 5 = .ok (.laload, 1) := by decide +kernel
theorem dX10_isLeg_6 : decode cX10_isLeg 6 = .ok (.aload_n 0, 1) := by decide +kernel
theorem dX10_isLeg_7 : decode cX10_isLeg 7 = .ok (.getfield 81, 3) := by decide +kernel
theorem dX10_isLeg_10 : decode cX10_isLeg 10 = .ok (.iload_n 1, 1) := by decide +kernel
theorem dX10_isLeg_11 : decode cX10_isLeg 11 = .ok (.laload, 1) := by decide +kernel
theorem dX10_isLeg_12 : decode cX10_isLeg 12 = .ok (.lcmp, 1) := by decide +kernel
theorem dX10_isLeg_13 : decode cX10_isLeg 13 = .ok (.ifCond .lt 7, 3) := by decide +kernel
theorem dX10_isLeg_16 : decode cX10_isLeg 16 = .ok (.iconst 1, 1) := by decide +kernel
theorem dX10_isLeg_17 : decode cX10_isLeg 17 = .ok (.goto 4, 3) := by decide +kernel
theorem dX10_isLeg_20 : decode cX10_isLeg 20 = .ok (.iconst 0, 1) := by decide +kernel
theorem dX10_isLeg_21 : decode cX10_isLeg 21 = .ok (.ireturn, 1) := by decide +kernel
theorem dX10_ready_0 : decode cX10_ready 0 = .ok (.iload_n 2, 1) := by decide +kernel
theorem dX10_ready_1 : decode cX10_ready 1 = .ok (.iload_n 3, 1) := by decide +kernel
theorem dX10_ready_2 : decode cX10_ready 2 = .ok (.if_icmp .ne 6, 3) := by decide +kernel
theorem dX10_ready_5 : decode cX10_ready 5 = .ok (.lload 4, 2) := by decide +kernel
theorem dX10_ready_7 : decode cX10_ready 7 = .ok (.lreturn, 1) := by decide +kernel
theorem dX10_ready_8 : decode cX10_ready 8 = .ok (.aload_n 0, 1) := by decide +kernel
theorem dX10_ready_9 : decode cX10_ready 9 = .ok (.getfield 60, 3) := by decide +kernel
theorem dX10_ready_12 : decode cX10_ready 12 = .ok (.bipush 100, 2) := by decide +kernel
theorem dX10_ready_14 : decode cX10_ready 14 = .ok (.iload_n 1, 1) := by decide +kernel
theorem dX10_ready_15 : decode cX10_ready 15 = .ok (.imul, 1) := by decide +kernel
theorem dX10_ready_16 : decode cX10_ready 16 = .ok (.iload_n 2, 1) := by decide +kernel
theorem dX10_ready_17 : decode cX10_ready 17 = .ok (.iadd, 1) := by decide +kernel
theorem dX10_ready_18 : decode cX10_ready 18 = .ok (.laload, 1) := by decide +kernel
theorem dX10_ready_19 : decode cX10_ready 19 = .ok (.lstore 6, 2) := by decide +kernel
theorem dX10_ready_21 : decode cX10_ready 21 = .ok (.lload 6, 2) := by decide +kernel
theorem dX10_ready_23 : decode cX10_ready 23 = .ok (.ldc2_w 169, 3) := by decide +kernel
theorem dX10_ready_26 : decode cX10_ready 26 = .ok (.lcmp, 1) := by decide +kernel
theorem dX10_ready_27 : decode cX10_ready 27 = .ok (.ifCond .ne 9, 3) := by decide +kernel
theorem dX10_ready_30 : decode cX10_ready 30 = .ok (.ldc2_w 169, 3) := by decide +kernel
theorem dX10_ready_33 : decode cX10_ready 33 = .ok (.goto 13, 3) := by decide +kernel
theorem dX10_ready_36 : decode cX10_ready 36 = .ok (.lload 6, 2) := by decide +kernel
theorem dX10_ready_38 : decode cX10_ready 38 = .ok (.aload_n 0, 1) := by decide +kernel
theorem dX10_ready_39 : decode cX10_ready 39 = .ok (.getfield 57, 3) := by decide +kernel
theorem dX10_ready_42 : decode cX10_ready 42 = .ok (.iload_n 2, 1) := by decide +kernel
theorem dX10_ready_43 : decode cX10_ready 43 = .ok (.iaload, 1) := by decide +kernel
theorem dX10_ready_44 : decode cX10_ready 44 = .ok (.i2l, 1) := by decide +kernel
theorem dX10_ready_45 : decode cX10_ready 45 = .ok (.ladd, 1) := by decide +kernel
theorem dX10_ready_46 : decode cX10_ready 46 = .ok (.lreturn, 1) := by decide +kernel
theorem dX10_round_0 : decode cX10_round 0 = .ok (.iconst 0, 1) := by decide +kernel
theorem dX10_round_1 : decode cX10_round 1 = .ok (.istore 5, 2) := by decide +kernel
theorem dX10_round_3 : decode cX10_round 3 = .ok (.iload 5, 2) := by decide +kernel
theorem dX10_round_5 : decode cX10_round 5 = .ok (.bipush 100, 2) := by decide +kernel
theorem dX10_round_7 : decode cX10_round 7 = .ok (.if_icmp .ge 35, 3) := by decide +kernel
theorem dX10_round_10 : decode cX10_round 10 = .ok (.aload_n 0, 1) := by decide +kernel
theorem dX10_round_11 : decode cX10_round 11 = .ok (.getfield 60, 3) := by decide +kernel
theorem dX10_round_14 : decode cX10_round 14 = .ok (.bipush 100, 2) := by decide +kernel
theorem dX10_round_16 : decode cX10_round 16 = .ok (.iload_n 1, 1) := by decide +kernel
theorem dX10_round_17 : decode cX10_round 17 = .ok (.imul, 1) := by decide +kernel
theorem dX10_round_18 : decode cX10_round 18 = .ok (.iload 5, 2) := by decide +kernel
theorem dX10_round_20 : decode cX10_round 20 = .ok (.iadd, 1) := by decide +kernel
theorem dX10_round_21 : decode cX10_round 21 = .ok (.aload_n 0, 1) := by decide +kernel
theorem dX10_round_22 : decode cX10_round 22 = .ok (.getfield 60, 3) := by decide +kernel
theorem dX10_round_25 : decode cX10_round 25 = .ok (.bipush 100, 2) := by decide +kernel
theorem dX10_round_27 : decode cX10_round 27 = .ok (.iload_n 1, 1) := by decide +kernel
theorem dX10_round_28 : decode cX10_round 28 = .ok (.iconst 1, 1) := by decide +kernel
theorem dX10_round_29 : decode cX10_round 29 = .ok (.isub, 1) := by decide +kernel
theorem dX10_round_30 : decode cX10_round 30 = .ok (.imul, 1) := by decide +kernel
theorem dX10_round_31 : decode cX10_round 31 = .ok (.iload 5, 2) := by decide +kernel
theorem dX10_round_33 : decode cX10_round 33 = .ok (.iadd, 1) := by decide +kernel
theorem dX10_round_34 : decode cX10_round 34 = .ok (.laload, 1) := by decide +kernel
theorem dX10_round_35 : decode cX10_round 35 = .ok (.lastore, 1) := by decide +kernel
theorem dX10_round_36 : decode cX10_round 36 = .ok (.iinc 5 1, 3) := by decide +kernel
theorem dX10_round_39 : decode cX10_round 39 = .ok (.goto (-36), 3) := by decide +kernel
theorem dX10_round_42 : decode cX10_round 42 = .ok (.iconst 0, 1) := by decide +kernel
theorem dX10_round_43 : decode cX10_round 43 = .ok (.istore 5, 2) := by decide +kernel
theorem dX10_round_45 : decode cX10_round 45 = .ok (.iload 5, 2) := by decide +kernel
theorem dX10_round_47 : decode cX10_round 47 = .ok (.aload_n 0, 1) := by decide +kernel
theorem dX10_round_48 : decode cX10_round 48 = .ok (.getfield 96, 3) := by decide +kernel
theorem dX10_round_51 : decode cX10_round 51 = .ok (.if_icmp .ge 222, 3) := by decide +kernel
theorem dX10_round_54 : decode cX10_round 54 = .ok (.lload_n 3, 1) := by decide +kernel
theorem dX10_round_55 : decode cX10_round 55 = .ok (.ldc2_w 149, 3) := by decide +kernel
theorem dX10_round_58 : decode cX10_round 58 = .ok (.ldiv, 1) := by decide +kernel
theorem dX10_round_59 : decode cX10_round 59 = .ok (.ldc2_w 171, 3) := by decide +kernel
theorem dX10_round_62 : decode cX10_round 62 = .ok (.lsub, 1) := by decide +kernel
theorem dX10_round_63 : decode cX10_round 63 = .ok (.lstore 6, 2) := by decide +kernel
theorem dX10_round_65 : decode cX10_round 65 = .ok (.lload 6, 2) := by decide +kernel
theorem dX10_round_67 : decode cX10_round 67 = .ok (.lload_n 3, 1) := by decide +kernel
theorem dX10_round_68 : decode cX10_round 68 = .ok (.ldc2_w 149, 3) := by decide +kernel
theorem dX10_round_71 : decode cX10_round 71 = .ok (.ldiv, 1) := by decide +kernel
theorem dX10_round_72 : decode cX10_round 72 = .ok (.ldc2_w 173, 3) := by decide +kernel
theorem dX10_round_75 : decode cX10_round 75 = .ok (.ladd, 1) := by decide +kernel
theorem dX10_round_76 : decode cX10_round 76 = .ok (.lcmp, 1) := by decide +kernel
theorem dX10_round_77 : decode cX10_round 77 = .ok (.ifCond .gt 190, 3) := by decide +kernel
theorem dX10_round_80 : decode cX10_round 80 = .ok (.aload_n 0, 1) := by decide +kernel
theorem dX10_round_81 : decode cX10_round 81 = .ok (.iload 5, 2) := by decide +kernel
theorem dX10_round_83 : decode cX10_round 83 = .ok (.lload 6, 2) := by decide +kernel
theorem dX10_round_85 : decode cX10_round 85 = .ok (.invokevirtual 175, 3) := by decide +kernel
theorem dX10_round_88 : decode cX10_round 88 = .ok (.istore 8, 2) := by decide +kernel
theorem dX10_round_90 : decode cX10_round 90 = .ok (.iconst 0, 1) := by decide +kernel
theorem dX10_round_91 : decode cX10_round 91 = .ok (.istore 9, 2) := by decide +kernel
theorem dX10_round_93 : decode cX10_round 93 = .ok (.iload 9, 2) := by decide +kernel
theorem dX10_round_95 : decode cX10_round 95 = .ok (.aload_n 0, 1) := by decide +kernel
theorem dX10_round_96 : decode cX10_round 96 = .ok (.getfield 13, 3) := by decide +kernel
theorem dX10_round_99 : decode cX10_round 99 = .ok (.iload 5, 2) := by decide +kernel
theorem dX10_round_101 : decode cX10_round 101 = .ok (.iaload, 1) := by decide +kernel
theorem dX10_round_102 : decode cX10_round 102 = .ok (.if_icmp .ge 156, 3) := by decide +kernel
theorem dX10_round_105 : decode cX10_round 105 = .ok (.iload 8, 2) := by decide +kernel
theorem dX10_round_107 : decode cX10_round 107 = .ok (.ifCond .eq 151, 3) := by decide +kernel
theorem dX10_round_110 : decode cX10_round 110 = .ok (.aload_n 0, 1) := by decide +kernel
theorem dX10_round_111 : decode cX10_round 111 = .ok (.getfield 81, 3) := by decide +kernel
theorem dX10_round_114 : decode cX10_round 114 = .ok (.iload 9, 2) := by decide +kernel
theorem dX10_round_116 : decode cX10_round 116 = .ok (.laload, 1) := by decide +kernel
theorem dX10_round_117 : decode cX10_round 117 = .ok (.aload_n 0, 1) := by decide +kernel
theorem dX10_round_118 : decode cX10_round 118 = .ok (.iload_n 1, 1) := by decide +kernel
theorem dX10_round_119 : decode cX10_round 119 = .ok (.iconst 1, 1) := by decide +kernel
theorem dX10_round_120 : decode cX10_round 120 = .ok (.isub, 1) := by decide +kernel
theorem dX10_round_121 : decode cX10_round 121 = .ok (.aload_n 0, 1) := by decide +kernel
theorem dX10_round_122 : decode cX10_round 122 = .ok (.getfield 16, 3) := by decide +kernel
theorem dX10_round_125 : decode cX10_round 125 = .ok (.bipush 12, 2) := by decide +kernel
theorem dX10_round_127 : decode cX10_round 127 = .ok (.iload 5, 2) := by decide +kernel
theorem dX10_round_129 : decode cX10_round 129 = .ok (.imul, 1) := by decide +kernel
theorem dX10_round_130 : decode cX10_round 130 = .ok (.iload 9, 2) := by decide +kernel
theorem dX10_round_132 : decode cX10_round 132 = .ok (.iadd, 1) := by decide +kernel
theorem dX10_round_133 : decode cX10_round 133 = .ok (.iaload, 1) := by decide +kernel
theorem dX10_round_134 : decode cX10_round 134 = .ok (.iload_n 2, 1) := by decide +kernel
theorem dX10_round_135 : decode cX10_round 135 = .ok (.lload_n 3, 1) := by decide +kernel
theorem dX10_round_136 : decode cX10_round 136 = .ok (.invokevirtual 178, 3) := by decide +kernel
theorem dX10_round_139 : decode cX10_round 139 = .ok (.lcmp, 1) := by decide +kernel
theorem dX10_round_140 : decode cX10_round 140 = .ok (.ifCond .lt 7, 3) := by decide +kernel
theorem dX10_round_143 : decode cX10_round 143 = .ok (.iconst 1, 1) := by decide +kernel
theorem dX10_round_144 : decode cX10_round 144 = .ok (.goto 4, 3) := by decide +kernel
theorem dX10_round_147 : decode cX10_round 147 = .ok (.iconst 0, 1) := by decide +kernel
theorem dX10_round_148 : decode cX10_round 148 = .ok (.istore 10, 2) := by decide +kernel
theorem dX10_round_150 : decode cX10_round 150 = .ok (.iload 9, 2) := by decide +kernel
theorem dX10_round_152 : decode cX10_round 152 = .ok (.iconst 1, 1) := by decide +kernel
theorem dX10_round_153 : decode cX10_round 153 = .ok (.iadd, 1) := by decide +kernel
theorem dX10_round_154 : decode cX10_round 154 = .ok (.istore 11, 2) := by decide +kernel
theorem dX10_round_156 : decode cX10_round 156 = .ok (.iload 11, 2) := by decide +kernel
theorem dX10_round_158 : decode cX10_round 158 = .ok (.aload_n 0, 1) := by decide +kernel
theorem dX10_round_159 : decode cX10_round 159 = .ok (.getfield 13, 3) := by decide +kernel
theorem dX10_round_162 : decode cX10_round 162 = .ok (.iload 5, 2) := by decide +kernel
theorem dX10_round_164 : decode cX10_round 164 = .ok (.iaload, 1) := by decide +kernel
theorem dX10_round_165 : decode cX10_round 165 = .ok (.if_icmp .ge 87, 3) := by decide +kernel
theorem dX10_round_168 : decode cX10_round 168 = .ok (.iload 10, 2) := by decide +kernel
theorem dX10_round_170 : decode cX10_round 170 = .ok (.ifCond .eq 82, 3) := by decide +kernel
theorem dX10_round_173 : decode cX10_round 173 = .ok (.bipush 100, 2) := by decide +kernel
theorem dX10_round_175 : decode cX10_round 175 = .ok (.iload_n 1, 1) := by decide +kernel
theorem dX10_round_176 : decode cX10_round 176 = .ok (.imul, 1) := by decide +kernel
theorem dX10_round_177 : decode cX10_round 177 = .ok (.aload_n 0, 1) := by decide +kernel
theorem dX10_round_178 : decode cX10_round 178 = .ok (.getfield 16, 3) := by decide +kernel
theorem dX10_round_181 : decode cX10_round 181 = .ok (.bipush 12, 2) := by decide +kernel
theorem dX10_round_183 : decode cX10_round 183 = .ok (.iload 5, 2) := by decide +kernel
theorem dX10_round_185 : decode cX10_round 185 = .ok (.imul, 1) := by decide +kernel
theorem dX10_round_186 : decode cX10_round 186 = .ok (.iload 11, 2) := by decide +kernel
theorem dX10_round_188 : decode cX10_round 188 = .ok (.iadd, 1) := by decide +kernel
theorem dX10_round_189 : decode cX10_round 189 = .ok (.iaload, 1) := by decide +kernel
theorem dX10_round_190 : decode cX10_round 190 = .ok (.iadd, 1) := by decide +kernel
theorem dX10_round_191 : decode cX10_round 191 = .ok (.istore 12, 2) := by decide +kernel
theorem dX10_round_193 : decode cX10_round 193 = .ok (.aload_n 0, 1) := by decide +kernel
theorem dX10_round_194 : decode cX10_round 194 = .ok (.getfield 60, 3) := by decide +kernel
theorem dX10_round_197 : decode cX10_round 197 = .ok (.iload 12, 2) := by decide +kernel
theorem dX10_round_199 : decode cX10_round 199 = .ok (.aload_n 0, 1) := by decide +kernel
theorem dX10_round_200 : decode cX10_round 200 = .ok (.iload 9, 2) := by decide +kernel
theorem dX10_round_202 : decode cX10_round 202 = .ok (.iload 11, 2) := by decide +kernel
theorem dX10_round_204 : decode cX10_round 204 = .ok (.invokevirtual 182, 3) := by decide +kernel
theorem dX10_round_207 : decode cX10_round 207 = .ok (.ifCond .eq 31, 3) := by decide +kernel
theorem dX10_round_210 : decode cX10_round 210 = .ok (.aload_n 0, 1) := by decide +kernel
theorem dX10_round_211 : decode cX10_round 211 = .ok (.getfield 78, 3) := by decide +kernel
theorem dX10_round_214 : decode cX10_round 214 = .ok (.iload 11, 2) := by decide +kernel
theorem dX10_round_216 : decode cX10_round 216 = .ok (.laload, 1) := by decide +kernel
theorem dX10_round_217 : decode cX10_round 217 = .ok (.aload_n 0, 1) := by decide +kernel
theorem dX10_round_218 : decode cX10_round 218 = .ok (.getfield 60, 3) := by decide +kernel
theorem dX10_round_221 : decode cX10_round 221 = .ok (.iload 12, 2) := by decide +kernel
theorem dX10_round_223 : decode cX10_round 223 = .ok (.laload, 1) := by decide +kernel
theorem dX10_round_224 : decode cX10_round 224 = .ok (.lcmp, 1) := by decide +kernel
theorem dX10_round_225 : decode cX10_round 225 = .ok (.ifCond .ge 13, 3) := by decide +kernel
theorem dX10_round_228 : decode cX10_round 228 = .ok (.aload_n 0, 1) := by decide +kernel
theorem dX10_round_229 : decode cX10_round 229 = .ok (.getfield 78, 3) := by decide +kernel
theorem dX10_round_232 : decode cX10_round 232 = .ok (.iload 11, 2) := by decide +kernel
theorem dX10_round_234 : decode cX10_round 234 = .ok (.laload, 1) := by decide +kernel
theorem dX10_round_235 : decode cX10_round 235 = .ok (.goto 10, 3) := by decide +kernel
theorem dX10_round_238 : decode cX10_round 238 = .ok (.aload_n 0, 1) := by decide +kernel
theorem dX10_round_239 : decode cX10_round 239 = .ok (.getfield 60, 3) := by decide +kernel
theorem dX10_round_242 : decode cX10_round 242 = .ok (.iload 12, 2) := by decide +kernel
theorem dX10_round_244 : decode cX10_round 244 = .ok (.laload, 1) := by decide +kernel
theorem dX10_round_245 : decode cX10_round 245 = .ok (.lastore, 1) := by decide +kernel
theorem dX10_round_246 : decode cX10_round 246 = .ok (.iinc 11 1, 3) := by decide +kernel
theorem dX10_round_249 : decode cX10_round 249 = .ok (.goto (-93), 3) := by decide +kernel
theorem dX10_round_252 : decode cX10_round 252 = .ok (.iinc 9 1, 3) := by decide +kernel
theorem dX10_round_255 : decode cX10_round 255 = .ok (.goto (-162), 3) := by decide +kernel
theorem dX10_round_258 : decode cX10_round 258 = .ok (.lload 6, 2) := by decide +kernel
theorem dX10_round_260 : decode cX10_round 260 = .ok (.lconst 1, 1) := by decide +kernel
theorem dX10_round_261 : decode cX10_round 261 = .ok (.ladd, 1) := by decide +kernel
theorem dX10_round_262 : decode cX10_round 262 = .ok (.lstore 6, 2) := by decide +kernel
theorem dX10_round_264 : decode cX10_round 264 = .ok (.goto (-199), 3) := by decide +kernel
theorem dX10_round_267 : decode cX10_round 267 = .ok (.iinc 5 1, 3) := by decide +kernel
theorem dX10_round_270 : decode cX10_round 270 = .ok (.goto (-225), 3) := by decide +kernel
theorem dX10_round_273 : decode cX10_round 273 = .ok (.return_, 1) := by decide +kernel
theorem dX10_choose_0 : decode cX10_choose 0 = .ok (.iconst 0, 1) := by decide +kernel
theorem dX10_choose_1 : decode cX10_choose 1 = .ok (.istore 6, 2) := by decide +kernel
theorem dX10_choose_3 : decode cX10_choose 3 = .ok (.iload 6, 2) := by decide +kernel
theorem dX10_choose_5 : decode cX10_choose 5 = .ok (.aload_n 0, 1) := by decide +kernel
theorem dX10_choose_6 : decode cX10_choose 6 = .ok (.getfield 96, 3) := by decide +kernel
theorem dX10_choose_9 : decode cX10_choose 9 = .ok (.if_icmp .ge 235, 3) := by decide +kernel
theorem dX10_choose_12 : decode cX10_choose 12 = .ok (.lload 4, 2) := by decide +kernel
theorem dX10_choose_14 : decode cX10_choose 14 = .ok (.ldc2_w 149, 3) := by decide +kernel
theorem dX10_choose_17 : decode cX10_choose 17 = .ok (.ldiv, 1) := by decide +kernel
theorem dX10_choose_18 : decode cX10_choose 18 = .ok (.ldc2_w 171, 3) := by decide +kernel
theorem dX10_choose_21 : decode cX10_choose 21 = .ok (.lsub, 1) := by decide +kernel
theorem dX10_choose_22 : decode cX10_choose 22 = .ok (.lstore 7, 2) := by decide +kernel
theorem dX10_choose_24 : decode cX10_choose 24 = .ok (.lload 7, 2) := by decide +kernel
theorem dX10_choose_26 : decode cX10_choose 26 = .ok (.lload 4, 2) := by decide +kernel
theorem dX10_choose_28 : decode cX10_choose 28 = .ok (.ldc2_w 149, 3) := by decide +kernel
theorem dX10_choose_31 : decode cX10_choose 31 = .ok (.ldiv, 1) := by decide +kernel
theorem dX10_choose_32 : decode cX10_choose 32 = .ok (.ldc2_w 173, 3) := by decide +kernel
theorem dX10_choose_35 : decode cX10_choose 35 = .ok (.ladd, 1) := by decide +kernel
theorem dX10_choose_36 : decode cX10_choose 36 = .ok (.lcmp, 1) := by decide +kernel
theorem dX10_choose_37 : decode cX10_choose 37 = .ok (.ifCond .gt 201, 3) := by decide +kernel
theorem dX10_choose_40 : decode cX10_choose 40 = .ok (.aload_n 0, 1) := by decide +kernel
theorem dX10_choose_41 : decode cX10_choose 41 = .ok (.iload 6, 2) := by decide +kernel
theorem dX10_choose_43 : decode cX10_choose 43 = .ok (.lload 7, 2) := by decide +kernel
theorem dX10_choose_45 : decode cX10_choose 45 = .ok (.invokevirtual 175, 3) := by decide +kernel
theorem dX10_choose_48 : decode cX10_choose 48 = .ok (.istore 9, 2) := by decide +kernel
theorem dX10_choose_50 : decode cX10_choose 50 = .ok (.iconst 1, 1) := by decide +kernel
theorem dX10_choose_51 : decode cX10_choose 51 = .ok (.istore 10, 2) := by decide +kernel
theorem dX10_choose_53 : decode cX10_choose 53 = .ok (.iload 10, 2) := by decide +kernel
theorem dX10_choose_55 : decode cX10_choose 55 = .ok (.aload_n 0, 1) := by decide +kernel
theorem dX10_choose_56 : decode cX10_choose 56 = .ok (.getfield 13, 3) := by decide +kernel
theorem dX10_choose_59 : decode cX10_choose 59 = .ok (.iload 6, 2) := by decide +kernel
theorem dX10_choose_61 : decode cX10_choose 61 = .ok (.iaload, 1) := by decide +kernel
theorem dX10_choose_62 : decode cX10_choose 62 = .ok (.if_icmp .ge 167, 3) := by decide +kernel
theorem dX10_choose_65 : decode cX10_choose 65 = .ok (.iload 9, 2) := by decide +kernel
theorem dX10_choose_67 : decode cX10_choose 67 = .ok (.ifCond .eq 162, 3) := by decide +kernel
theorem dX10_choose_70 : decode cX10_choose 70 = .ok (.aload_n 0, 1) := by decide +kernel
theorem dX10_choose_71 : decode cX10_choose 71 = .ok (.getfield 16, 3) := by decide +kernel
theorem dX10_choose_74 : decode cX10_choose 74 = .ok (.bipush 12, 2) := by decide +kernel
theorem dX10_choose_76 : decode cX10_choose 76 = .ok (.iload 6, 2) := by decide +kernel
theorem dX10_choose_78 : decode cX10_choose 78 = .ok (.imul, 1) := by decide +kernel
theorem dX10_choose_79 : decode cX10_choose 79 = .ok (.iload 10, 2) := by decide +kernel
theorem dX10_choose_81 : decode cX10_choose 81 = .ok (.iadd, 1) := by decide +kernel
theorem dX10_choose_82 : decode cX10_choose 82 = .ok (.iaload, 1) := by decide +kernel
theorem dX10_choose_83 : decode cX10_choose 83 = .ok (.iload_n 2, 1) := by decide +kernel
theorem dX10_choose_84 : decode cX10_choose 84 = .ok (.if_icmp .ne 29, 3) := by decide +kernel
theorem dX10_choose_87 : decode cX10_choose 87 = .ok (.aload_n 0, 1) := by decide +kernel
theorem dX10_choose_88 : decode cX10_choose 88 = .ok (.getfield 78, 3) := by decide +kernel
theorem dX10_choose_91 : decode cX10_choose 91 = .ok (.iload 10, 2) := by decide +kernel
theorem dX10_choose_93 : decode cX10_choose 93 = .ok (.laload, 1) := by decide +kernel
theorem dX10_choose_94 : decode cX10_choose 94 = .ok (.aload_n 0, 1) := by decide +kernel
theorem dX10_choose_95 : decode cX10_choose 95 = .ok (.getfield 60, 3) := by decide +kernel
theorem dX10_choose_98 : decode cX10_choose 98 = .ok (.bipush 100, 2) := by decide +kernel
theorem dX10_choose_100 : decode cX10_choose 100 = .ok (.iload_n 1, 1) := by decide +kernel
theorem dX10_choose_101 : decode cX10_choose 101 = .ok (.imul, 1) := by decide +kernel
theorem dX10_choose_102 : decode cX10_choose 102 = .ok (.iload_n 2, 1) := by decide +kernel
theorem dX10_choose_103 : decode cX10_choose 103 = .ok (.iadd, 1) := by decide +kernel
theorem dX10_choose_104 : decode cX10_choose 104 = .ok (.laload, 1) := by decide +kernel
theorem dX10_choose_105 : decode cX10_choose 105 = .ok (.lcmp, 1) := by decide +kernel
theorem dX10_choose_106 : decode cX10_choose 106 = .ok (.ifCond .ne 7, 3) := by decide +kernel
theorem dX10_choose_109 : decode cX10_choose 109 = .ok (.iconst 1, 1) := by decide +kernel
theorem dX10_choose_110 : decode cX10_choose 110 = .ok (.goto 4, 3) := by decide +kernel
theorem dX10_choose_113 : decode cX10_choose 113 = .ok (.iconst 0, 1) := by decide +kernel
theorem dX10_choose_114 : decode cX10_choose 114 = .ok (.istore 11, 2) := by decide +kernel
theorem dX10_choose_116 : decode cX10_choose 116 = .ok (.iconst 0, 1) := by decide +kernel
theorem dX10_choose_117 : decode cX10_choose 117 = .ok (.istore 12, 2) := by decide +kernel
theorem dX10_choose_119 : decode cX10_choose 119 = .ok (.iload 12, 2) := by decide +kernel
theorem dX10_choose_121 : decode cX10_choose 121 = .ok (.iload 10, 2) := by decide +kernel
theorem dX10_choose_123 : decode cX10_choose 123 = .ok (.if_icmp .ge 100, 3) := by decide +kernel
theorem dX10_choose_126 : decode cX10_choose 126 = .ok (.iload 11, 2) := by decide +kernel
theorem dX10_choose_128 : decode cX10_choose 128 = .ok (.ifCond .eq 95, 3) := by decide +kernel
theorem dX10_choose_131 : decode cX10_choose 131 = .ok (.aload_n 0, 1) := by decide +kernel
theorem dX10_choose_132 : decode cX10_choose 132 = .ok (.iload 12, 2) := by decide +kernel
theorem dX10_choose_134 : decode cX10_choose 134 = .ok (.iload 10, 2) := by decide +kernel
theorem dX10_choose_136 : decode cX10_choose 136 = .ok (.invokevirtual 182, 3) := by decide +kernel
theorem dX10_choose_139 : decode cX10_choose 139 = .ok (.ifCond .eq 78, 3) := by decide +kernel
theorem dX10_choose_142 : decode cX10_choose 142 = .ok (.aload_n 0, 1) := by decide +kernel
theorem dX10_choose_143 : decode cX10_choose 143 = .ok (.getfield 81, 3) := by decide +kernel
theorem dX10_choose_146 : decode cX10_choose 146 = .ok (.iload 12, 2) := by decide +kernel
theorem dX10_choose_148 : decode cX10_choose 148 = .ok (.laload, 1) := by decide +kernel
theorem dX10_choose_149 : decode cX10_choose 149 = .ok (.aload_n 0, 1) := by decide +kernel
theorem dX10_choose_150 : decode cX10_choose 150 = .ok (.iload_n 1, 1) := by decide +kernel
theorem dX10_choose_151 : decode cX10_choose 151 = .ok (.iconst 1, 1) := by decide +kernel
theorem dX10_choose_152 : decode cX10_choose 152 = .ok (.isub, 1) := by decide +kernel
theorem dX10_choose_153 : decode cX10_choose 153 = .ok (.aload_n 0, 1) := by decide +kernel
theorem dX10_choose_154 : decode cX10_choose 154 = .ok (.getfield 16, 3) := by decide +kernel
theorem dX10_choose_157 : decode cX10_choose 157 = .ok (.bipush 12, 2) := by decide +kernel
theorem dX10_choose_159 : decode cX10_choose 159 = .ok (.iload 6, 2) := by decide +kernel
theorem dX10_choose_161 : decode cX10_choose 161 = .ok (.imul, 1) := by decide +kernel
theorem dX10_choose_162 : decode cX10_choose 162 = .ok (.iload 12, 2) := by decide +kernel
theorem dX10_choose_164 : decode cX10_choose 164 = .ok (.iadd, 1) := by decide +kernel
theorem dX10_choose_165 : decode cX10_choose 165 = .ok (.iaload, 1) := by decide +kernel
theorem dX10_choose_166 : decode cX10_choose 166 = .ok (.iload_n 3, 1) := by decide +kernel
theorem dX10_choose_167 : decode cX10_choose 167 = .ok (.lload 4, 2) := by decide +kernel
theorem dX10_choose_169 : decode cX10_choose 169 = .ok (.invokevirtual 178, 3) := by decide +kernel
theorem dX10_choose_172 : decode cX10_choose 172 = .ok (.lcmp, 1) := by decide +kernel
theorem dX10_choose_173 : decode cX10_choose 173 = .ok (.ifCond .lt 44, 3) := by decide +kernel
theorem dX10_choose_176 : decode cX10_choose 176 = .ok (.aload_n 0, 1) := by decide +kernel
theorem dX10_choose_177 : decode cX10_choose 177 = .ok (.getfield 63, 3) := by decide +kernel
theorem dX10_choose_180 : decode cX10_choose 180 = .ok (.iload_n 1, 1) := by decide +kernel
theorem dX10_choose_181 : decode cX10_choose 181 = .ok (.iconst 1, 1) := by decide +kernel
theorem dX10_choose_182 : decode cX10_choose 182 = .ok (.isub, 1) := by decide +kernel
theorem dX10_choose_183 : decode cX10_choose 183 = .ok (.iload 6, 2) := by decide +kernel
theorem dX10_choose_185 : decode cX10_choose 185 = .ok (.iastore, 1) := by decide +kernel
theorem dX10_choose_186 : decode cX10_choose 186 = .ok (.aload_n 0, 1) := by decide +kernel
theorem dX10_choose_187 : decode cX10_choose 187 = .ok (.getfield 66, 3) := by decide +kernel
theorem dX10_choose_190 : decode cX10_choose 190 = .ok (.iload_n 1, 1) := by decide +kernel
theorem dX10_choose_191 : decode cX10_choose 191 = .ok (.iconst 1, 1) := by decide +kernel
theorem dX10_choose_192 : decode cX10_choose 192 = .ok (.isub, 1) := by decide +kernel
theorem dX10_choose_193 : decode cX10_choose 193 = .ok (.lload 7, 2) := by decide +kernel
theorem dX10_choose_195 : decode cX10_choose 195 = .ok (.lastore, 1) := by decide +kernel
theorem dX10_choose_196 : decode cX10_choose 196 = .ok (.aload_n 0, 1) := by decide +kernel
theorem dX10_choose_197 : decode cX10_choose 197 = .ok (.getfield 69, 3) := by decide +kernel
theorem dX10_choose_200 : decode cX10_choose 200 = .ok (.iload_n 1, 1) := by decide +kernel
theorem dX10_choose_201 : decode cX10_choose 201 = .ok (.iconst 1, 1) := by decide +kernel
theorem dX10_choose_202 : decode cX10_choose 202 = .ok (.isub, 1) := by decide +kernel
theorem dX10_choose_203 : decode cX10_choose 203 = .ok (.iload 12, 2) := by decide +kernel
theorem dX10_choose_205 : decode cX10_choose 205 = .ok (.iastore, 1) := by decide +kernel
theorem dX10_choose_206 : decode cX10_choose 206 = .ok (.aload_n 0, 1) := by decide +kernel
theorem dX10_choose_207 : decode cX10_choose 207 = .ok (.getfield 72, 3) := by decide +kernel
theorem dX10_choose_210 : decode cX10_choose 210 = .ok (.iload_n 1, 1) := by decide +kernel
theorem dX10_choose_211 : decode cX10_choose 211 = .ok (.iconst 1, 1) := by decide +kernel
theorem dX10_choose_212 : decode cX10_choose 212 = .ok (.isub, 1) := by decide +kernel
theorem dX10_choose_213 : decode cX10_choose 213 = .ok (.iload 10, 2) := by decide +kernel
theorem dX10_choose_215 : decode cX10_choose 215 = .ok (.iastore, 1) := by decide +kernel
theorem dX10_choose_216 : decode cX10_choose 216 = .ok (.return_, 1) := by decide +kernel
theorem dX10_choose_217 : decode cX10_choose 217 = .ok (.iinc 12 1, 3) := by decide +kernel
theorem dX10_choose_220 : decode cX10_choose 220 = .ok (.goto (-101), 3) := by decide +kernel
theorem dX10_choose_223 : decode cX10_choose 223 = .ok (.iinc 10 1, 3) := by decide +kernel
theorem dX10_choose_226 : decode cX10_choose 226 = .ok (.goto (-173), 3) := by decide +kernel
theorem dX10_choose_229 : decode cX10_choose 229 = .ok (.lload 7, 2) := by decide +kernel
theorem dX10_choose_231 : decode cX10_choose 231 = .ok (.lconst 1, 1) := by decide +kernel
theorem dX10_choose_232 : decode cX10_choose 232 = .ok (.ladd, 1) := by decide +kernel
theorem dX10_choose_233 : decode cX10_choose 233 = .ok (.lstore 7, 2) := by decide +kernel
theorem dX10_choose_235 : decode cX10_choose 235 = .ok (.goto (-211), 3) := by decide +kernel
theorem dX10_choose_238 : decode cX10_choose 238 = .ok (.iinc 6 1, 3) := by decide +kernel
theorem dX10_choose_241 : decode cX10_choose 241 = .ok (.goto (-238), 3) := by decide +kernel
theorem dX10_choose_244 : decode cX10_choose 244 = .ok (.return_, 1) := by decide +kernel
theorem dX10_earliest_0 : decode cX10_earliest 0 = .ok (.aload_n 0, 1) := by decide +kernel
theorem dX10_earliest_1 : decode cX10_earliest 1 = .ok (.iload_n 1, 1) := by decide +kernel
theorem dX10_earliest_2 : decode cX10_earliest 2 = .ok (.invokestatic 119, 3) := by decide +kernel
theorem dX10_earliest_5 : decode cX10_earliest 5 = .ok (.ifCond .eq 10, 3) := by decide +kernel
theorem dX10_earliest_8 : decode cX10_earliest 8 = .ok (.iload_n 2, 1) := by decide +kernel
theorem dX10_earliest_9 : decode cX10_earliest 9 = .ok (.invokestatic 119, 3) := by decide +kernel
theorem dX10_earliest_12 : decode cX10_earliest 12 = .ok (.ifCond .ne 7, 3) := by decide +kernel
theorem dX10_earliest_15 : decode cX10_earliest 15 = .ok (.iconst 1, 1) := by decide +kernel
theorem dX10_earliest_16 : decode cX10_earliest 16 = .ok (.goto 4, 3) := by decide +kernel
theorem dX10_earliest_19 : decode cX10_earliest 19 = .ok (.iconst 0, 1) := by decide +kernel
theorem dX10_earliest_20 : decode cX10_earliest 20 = .ok (.lload_n 3, 1) := by decide +kernel
theorem dX10_earliest_21 : decode cX10_earliest 21 = .ok (.lconst 0, 1) := by decide +kernel
theorem dX10_earliest_22 : decode cX10_earliest 22 = .ok (.ldc2_w 186, 3) := by decide +kernel
theorem dX10_earliest_25 : decode cX10_earliest 25 = .ok (.invokestatic 105, 3) := by decide +kernel
theorem dX10_earliest_28 : decode cX10_earliest 28 = .ok (.ifCond .ne 7, 3) := by decide +kernel
theorem dX10_earliest_31 : decode cX10_earliest 31 = .ok (.iconst 1, 1) := by decide +kernel
theorem dX10_earliest_32 : decode cX10_earliest 32 = .ok (.goto 4, 3) := by decide +kernel
theorem dX10_earliest_35 : decode cX10_earliest 35 = .ok (.iconst 0, 1) := by decide +kernel
theorem dX10_earliest_36 : decode cX10_earliest 36 = .ok (.iconst 0, 1) := by decide +kernel
theorem dX10_earliest_37 : decode cX10_earliest 37 = .ok (.invokevirtual 111, 3) := by decide +kernel
theorem dX10_earliest_40 : decode cX10_earliest 40 = .ok (.ifCond .eq 5, 3) := by decide +kernel
theorem dX10_earliest_43 : decode cX10_earliest 43 = .ok (.lconst 0, 1) := by decide +kernel
theorem dX10_earliest_44 : decode cX10_earliest 44 = .ok (.lreturn, 1) := by decide +kernel
theorem dX10_earliest_45 : decode cX10_earliest 45 = .ok (.iconst 0, 1) := by decide +kernel
theorem dX10_earliest_46 : decode cX10_earliest 46 = .ok (.istore 5, 2) := by decide +kernel
theorem dX10_earliest_48 : decode cX10_earliest 48 = .ok (.iload 5, 2) := by decide +kernel
theorem dX10_earliest_50 : decode cX10_earliest 50 = .ok (.bipush 100, 2) := by decide +kernel
theorem dX10_earliest_52 : decode cX10_earliest 52 = .ok (.if_icmp .ge 29, 3) := by decide +kernel
theorem dX10_earliest_55 : decode cX10_earliest 55 = .ok (.aload_n 0, 1) := by decide +kernel
theorem dX10_earliest_56 : decode cX10_earliest 56 = .ok (.getfield 60, 3) := by decide +kernel
theorem dX10_earliest_59 : decode cX10_earliest 59 = .ok (.iload 5, 2) := by decide +kernel
theorem dX10_earliest_61 : decode cX10_earliest 61 = .ok (.iload 5, 2) := by decide +kernel
theorem dX10_earliest_63 : decode cX10_earliest 63 = .ok (.iload_n 1, 1) := by decide +kernel
theorem dX10_earliest_64 : decode cX10_earliest 64 = .ok (.if_icmp .ne 7, 3) := by decide +kernel
theorem dX10_earliest_67 : decode cX10_earliest 67 = .ok (.lload_n 3, 1) := by decide +kernel
theorem dX10_earliest_68 : decode cX10_earliest 68 = .ok (.goto 6, 3) := by decide +kernel
theorem dX10_earliest_71 : decode cX10_earliest 71 = .ok (.ldc2_w 169, 3) := by decide +kernel
theorem dX10_earliest_74 : decode cX10_earliest 74 = .ok (.lastore, 1) := by decide +kernel
theorem dX10_earliest_75 : decode cX10_earliest 75 = .ok (.iinc 5 1, 3) := by decide +kernel
theorem dX10_earliest_78 : decode cX10_earliest 78 = .ok (.goto (-30), 3) := by decide +kernel
theorem dX10_earliest_81 : decode cX10_earliest 81 = .ok (.iconst 1, 1) := by decide +kernel
theorem dX10_earliest_82 : decode cX10_earliest 82 = .ok (.istore 5, 2) := by decide +kernel
theorem dX10_earliest_84 : decode cX10_earliest 84 = .ok (.iload 5, 2) := by decide +kernel
theorem dX10_earliest_86 : decode cX10_earliest 86 = .ok (.bipush 6, 2) := by decide +kernel
theorem dX10_earliest_88 : decode cX10_earliest 88 = .ok (.if_icmp .gt 17, 3) := by decide +kernel
theorem dX10_earliest_91 : decode cX10_earliest 91 = .ok (.aload_n 0, 1) := by decide +kernel
theorem dX10_earliest_92 : decode cX10_earliest 92 = .ok (.iload 5, 2) := by decide +kernel
theorem dX10_earliest_94 : decode cX10_earliest 94 = .ok (.iload_n 1, 1) := by decide +kernel
theorem dX10_earliest_95 : decode cX10_earliest 95 = .ok (.lload_n 3, 1) := by decide +kernel
theorem dX10_earliest_96 : decode cX10_earliest 96 = .ok (.invokevirtual 188, 3) := by decide +kernel
theorem dX10_earliest_99 : decode cX10_earliest 99 = .ok (.iinc 5 1, 3) := by decide +kernel
theorem dX10_earliest_102 : decode cX10_earliest 102 = .ok (.goto (-18), 3) := by decide +kernel
theorem dX10_earliest_105 : decode cX10_earliest 105 = .ok (.aload_n 0, 1) := by decide +kernel
theorem dX10_earliest_106 : decode cX10_earliest 106 = .ok (.getfield 60, 3) := by decide +kernel
theorem dX10_earliest_109 : decode cX10_earliest 109 = .ok (.sipush 600, 3) := by decide +kernel
theorem dX10_earliest_112 : decode cX10_earliest 112 = .ok (.iload_n 2, 1) := by decide +kernel
theorem dX10_earliest_113 : decode cX10_earliest 113 = .ok (.iadd, 1) := by decide +kernel
theorem dX10_earliest_114 : decode cX10_earliest 114 = .ok (.laload, 1) := by decide +kernel
theorem dX10_earliest_115 : decode cX10_earliest 115 = .ok (.lstore 5, 2) := by decide +kernel
theorem dX10_earliest_117 : decode cX10_earliest 117 = .ok (.aload_n 0, 1) := by decide +kernel
theorem dX10_earliest_118 : decode cX10_earliest 118 = .ok (.iconst 0, 1) := by decide +kernel
theorem dX10_earliest_119 : decode cX10_earliest 119 = .ok (.putfield 192, 3) := by decide +kernel
theorem dX10_earliest_122 : decode cX10_earliest 122 = .ok (.lload 5, 2) := by decide +kernel
theorem dX10_earliest_124 : decode cX10_earliest 124 = .ok (.ldc2_w 169, 3) := by decide +kernel
theorem dX10_earliest_127 : decode cX10_earliest 127 = .ok (.lcmp, 1) := by decide +kernel
theorem dX10_earliest_128 : decode cX10_earliest 128 = .ok (.ifCond .ne 7, 3) := by decide +kernel
theorem dX10_earliest_131 : decode cX10_earliest 131 = .ok (.ldc2_w 195, 3) := by decide +kernel
theorem dX10_earliest_134 : decode cX10_earliest 134 = .ok (.lreturn, 1) := by decide +kernel
theorem dX10_earliest_135 : decode cX10_earliest 135 = .ok (.aload_n 0, 1) := by decide +kernel
theorem dX10_earliest_136 : decode cX10_earliest 136 = .ok (.getfield 60, 3) := by decide +kernel
theorem dX10_earliest_139 : decode cX10_earliest 139 = .ok (.bipush 100, 2) := by decide +kernel
theorem dX10_earliest_141 : decode cX10_earliest 141 = .ok (.aload_n 0, 1) := by decide +kernel
theorem dX10_earliest_142 : decode cX10_earliest 142 = .ok (.getfield 192, 3) := by decide +kernel
theorem dX10_earliest_145 : decode cX10_earliest 145 = .ok (.imul, 1) := by decide +kernel
theorem dX10_earliest_146 : decode cX10_earliest 146 = .ok (.iload_n 2, 1) := by decide +kernel
theorem dX10_earliest_147 : decode cX10_earliest 147 = .ok (.iadd, 1) := by decide +kernel
theorem dX10_earliest_148 : decode cX10_earliest 148 = .ok (.laload, 1) := by decide +kernel
theorem dX10_earliest_149 : decode cX10_earliest 149 = .ok (.lload 5, 2) := by decide +kernel
theorem dX10_earliest_151 : decode cX10_earliest 151 = .ok (.lcmp, 1) := by decide +kernel
theorem dX10_earliest_152 : decode cX10_earliest 152 = .ok (.ifCond .eq 16, 3) := by decide +kernel
theorem dX10_earliest_155 : decode cX10_earliest 155 = .ok (.aload_n 0, 1) := by decide +kernel
theorem dX10_earliest_156 : decode cX10_earliest 156 = .ok (.dup, 1) := by decide +kernel
theorem dX10_earliest_157 : decode cX10_earliest 157 = .ok (.getfield 192, 3) := by decide +kernel
theorem dX10_earliest_160 : decode cX10_earliest 160 = .ok (.iconst 1, 1) := by decide +kernel
theorem dX10_earliest_161 : decode cX10_earliest 161 = .ok (.iadd, 1) := by decide +kernel
theorem dX10_earliest_162 : decode cX10_earliest 162 = .ok (.putfield 192, 3) := by decide +kernel
theorem dX10_earliest_165 : decode cX10_earliest 165 = .ok (.goto (-30), 3) := by decide +kernel
theorem dX10_earliest_168 : decode cX10_earliest 168 = .ok (.iload_n 2, 1) := by decide +kernel
theorem dX10_earliest_169 : decode cX10_earliest 169 = .ok (.istore 7, 2) := by decide +kernel
theorem dX10_earliest_171 : decode cX10_earliest 171 = .ok (.aload_n 0, 1) := by decide +kernel
theorem dX10_earliest_172 : decode cX10_earliest 172 = .ok (.getfield 192, 3) := by decide +kernel
theorem dX10_earliest_175 : decode cX10_earliest 175 = .ok (.istore 8, 2) := by decide +kernel
theorem dX10_earliest_177 : decode cX10_earliest 177 = .ok (.iload 8, 2) := by decide +kernel
theorem dX10_earliest_179 : decode cX10_earliest 179 = .ok (.ifCond .le 48, 3) := by decide +kernel
theorem dX10_earliest_182 : decode cX10_earliest 182 = .ok (.aload_n 0, 1) := by decide +kernel
theorem dX10_earliest_183 : decode cX10_earliest 183 = .ok (.iload 8, 2) := by decide +kernel
theorem dX10_earliest_185 : decode cX10_earliest 185 = .ok (.iload 7, 2) := by decide +kernel
theorem dX10_earliest_187 : decode cX10_earliest 187 = .ok (.iload_n 1, 1) := by decide +kernel
theorem dX10_earliest_188 : decode cX10_earliest 188 = .ok (.lload_n 3, 1) := by decide +kernel
theorem dX10_earliest_189 : decode cX10_earliest 189 = .ok (.invokevirtual 197, 3) := by decide +kernel
theorem dX10_earliest_192 : decode cX10_earliest 192 = .ok (.aload_n 0, 1) := by decide +kernel
theorem dX10_earliest_193 : decode cX10_earliest 193 = .ok (.getfield 16, 3) := by decide +kernel
theorem dX10_earliest_196 : decode cX10_earliest 196 = .ok (.bipush 12, 2) := by decide +kernel
theorem dX10_earliest_198 : decode cX10_earliest 198 = .ok (.aload_n 0, 1) := by decide +kernel
theorem dX10_earliest_199 : decode cX10_earliest 199 = .ok (.getfield 63, 3) := by decide +kernel
theorem dX10_earliest_202 : decode cX10_earliest 202 = .ok (.iload 8, 2) := by decide +kernel
theorem dX10_earliest_204 : decode cX10_earliest 204 = .ok (.iconst 1, 1) := by decide +kernel
theorem dX10_earliest_205 : decode cX10_earliest 205 = .ok (.isub, 1) := by decide +kernel
theorem dX10_earliest_206 : decode cX10_earliest 206 = .ok (.iaload, 1) := by decide +kernel
theorem dX10_earliest_207 : decode cX10_earliest 207 = .ok (.imul, 1) := by decide +kernel
theorem dX10_earliest_208 : decode cX10_earliest 208 = .ok (.aload_n 0, 1) := by decide +kernel
theorem dX10_earliest_209 : decode cX10_earliest 209 = .ok (.getfield 69, 3) := by decide +kernel
theorem dX10_earliest_212 : decode cX10_earliest 212 = .ok (.iload 8, 2) := by decide +kernel
theorem dX10_earliest_214 : decode cX10_earliest 214 = .ok (.iconst 1, 1) := by decide +kernel
theorem dX10_earliest_215 : decode cX10_earliest 215 = .ok (.isub, 1) := by decide +kernel
theorem dX10_earliest_216 : decode cX10_earliest 216 = .ok (.iaload, 1) := by decide +kernel
theorem dX10_earliest_217 : decode cX10_earliest 217 = .ok (.iadd, 1) := by decide +kernel
theorem dX10_earliest_218 : decode cX10_earliest 218 = .ok (.iaload, 1) := by decide +kernel
theorem dX10_earliest_219 : decode cX10_earliest 219 = .ok (.istore 7, 2) := by decide +kernel
theorem dX10_earliest_221 : decode cX10_earliest 221 = .ok (.iinc 8 (-1), 3) := by decide +kernel
theorem dX10_earliest_224 : decode cX10_earliest 224 = .ok (.goto (-47), 3) := by decide +kernel
theorem dX10_earliest_227 : decode cX10_earliest 227 = .ok (.aload_n 0, 1) := by decide +kernel
theorem dX10_earliest_228 : decode cX10_earliest 228 = .ok (.invokevirtual 201, 3) := by decide +kernel
theorem dX10_earliest_231 : decode cX10_earliest 231 = .ok (.lload 5, 2) := by decide +kernel
theorem dX10_earliest_233 : decode cX10_earliest 233 = .ok (.lreturn, 1) := by decide +kernel
theorem dX10_step_0 : decode cX10_step 0 = .ok (.aload_n 0, 1) := by decide +kernel
theorem dX10_step_1 : decode cX10_step 1 = .ok (.iload_n 2, 1) := by decide +kernel
theorem dX10_step_2 : decode cX10_step 2 = .ok (.i2l, 1) := by decide +kernel
theorem dX10_step_3 : decode cX10_step 3 = .ok (.lconst 0, 1) := by decide +kernel
theorem dX10_step_4 : decode cX10_step 4 = .ok (.ldc2_w 204, 3) := by decide +kernel
theorem dX10_step_7 : decode cX10_step 7 = .ok (.invokestatic 105, 3) := by decide +kernel
theorem dX10_step_10 : decode cX10_step 10 = .ok (.ifCond .ne 7, 3) := by decide +kernel
theorem dX10_step_13 : decode cX10_step 13 = .ok (.iconst 1, 1) := by decide +kernel
theorem dX10_step_14 : decode cX10_step 14 = .ok (.goto 4, 3) := by decide +kernel
theorem dX10_step_17 : decode cX10_step 17 = .ok (.iconst 0, 1) := by decide +kernel
theorem dX10_step_18 : decode cX10_step 18 = .ok (.iconst 0, 1) := by decide +kernel
theorem dX10_step_19 : decode cX10_step 19 = .ok (.iconst 0, 1) := by decide +kernel
theorem dX10_step_20 : decode cX10_step 20 = .ok (.invokevirtual 111, 3) := by decide +kernel
theorem dX10_step_23 : decode cX10_step 23 = .ok (.ifCond .eq 5, 3) := by decide +kernel
theorem dX10_step_26 : decode cX10_step 26 = .ok (.iconst 0, 1) := by decide +kernel
theorem dX10_step_27 : decode cX10_step 27 = .ok (.ireturn, 1) := by decide +kernel
theorem dX10_step_28 : decode cX10_step 28 = .ok (.iload_n 1, 1) := by decide +kernel
theorem dX10_step_29 : decode cX10_step 29 = .ok (.i2l, 1) := by decide +kernel
theorem dX10_step_30 : decode cX10_step 30 = .ok (.lconst 0, 1) := by decide +kernel
theorem dX10_step_31 : decode cX10_step 31 = .ok (.aload_n 0, 1) := by decide +kernel
theorem dX10_step_32 : decode cX10_step 32 = .ok (.getfield 192, 3) := by decide +kernel
theorem dX10_step_35 : decode cX10_step 35 = .ok (.iconst 1, 1) := by decide +kernel
theorem dX10_step_36 : decode cX10_step 36 = .ok (.isub, 1) := by decide +kernel
theorem dX10_step_37 : decode cX10_step 37 = .ok (.i2l, 1) := by decide +kernel
theorem dX10_step_38 : decode cX10_step 38 = .ok (.invokestatic 105, 3) := by decide +kernel
theorem dX10_step_41 : decode cX10_step 41 = .ok (.ifCond .ne 5, 3) := by decide +kernel
theorem dX10_step_44 : decode cX10_step 44 = .ok (.iconst (-1), 1) := by decide +kernel
theorem dX10_step_45 : decode cX10_step 45 = .ok (.ireturn, 1) := by decide +kernel
theorem dX10_step_46 : decode cX10_step 46 = .ok (.iload_n 2, 1) := by decide +kernel
theorem dX10_step_47 : decode cX10_step 47 = .ok (.iconst 4, 1) := by decide +kernel
theorem dX10_step_48 : decode cX10_step 48 = .ok (.if_icmp .ge 52, 3) := by decide +kernel
theorem dX10_step_51 : decode cX10_step 51 = .ok (.iload_n 2, 1) := by decide +kernel
theorem dX10_step_52 : decode cX10_step 52 = .ok (.ifCond .ne 12, 3) := by decide +kernel
theorem dX10_step_55 : decode cX10_step 55 = .ok (.aload_n 0, 1) := by decide +kernel
theorem dX10_step_56 : decode cX10_step 56 = .ok (.getfield 63, 3) := by decide +kernel
theorem dX10_step_59 : decode cX10_step 59 = .ok (.iload_n 1, 1) := by decide +kernel
theorem dX10_step_60 : decode cX10_step 60 = .ok (.iaload, 1) := by decide +kernel
theorem dX10_step_61 : decode cX10_step 61 = .ok (.goto 38, 3) := by decide +kernel
theorem dX10_step_64 : decode cX10_step 64 = .ok (.iload_n 2, 1) := by decide +kernel
theorem dX10_step_65 : decode cX10_step 65 = .ok (.iconst 1, 1) := by decide +kernel
theorem dX10_step_66 : decode cX10_step 66 = .ok (.if_icmp .ne 13, 3) := by decide +kernel
theorem dX10_step_69 : decode cX10_step 69 = .ok (.aload_n 0, 1) := by decide +kernel
theorem dX10_step_70 : decode cX10_step 70 = .ok (.getfield 66, 3) := by decide +kernel
theorem dX10_step_73 : decode cX10_step 73 = .ok (.iload_n 1, 1) := by decide +kernel
theorem dX10_step_74 : decode cX10_step 74 = .ok (.laload, 1) := by decide +kernel
theorem dX10_step_75 : decode cX10_step 75 = .ok (.l2i, 1) := by decide +kernel
theorem dX10_step_76 : decode cX10_step 76 = .ok (.goto 23, 3) := by decide +kernel
theorem dX10_step_79 : decode cX10_step 79 = .ok (.iload_n 2, 1) := by decide +kernel
theorem dX10_step_80 : decode cX10_step 80 = .ok (.iconst 2, 1) := by decide +kernel
theorem dX10_step_81 : decode cX10_step 81 = .ok (.if_icmp .ne 12, 3) := by decide +kernel
theorem dX10_step_84 : decode cX10_step 84 = .ok (.aload_n 0, 1) := by decide +kernel
theorem dX10_step_85 : decode cX10_step 85 = .ok (.getfield 69, 3) := by decide +kernel
theorem dX10_step_88 : decode cX10_step 88 = .ok (.iload_n 1, 1) := by decide +kernel
theorem dX10_step_89 : decode cX10_step 89 = .ok (.iaload, 1) := by decide +kernel
theorem dX10_step_90 : decode cX10_step 90 = .ok (.goto 9, 3) := by decide +kernel
theorem dX10_step_93 : decode cX10_step 93 = .ok (.aload_n 0, 1) := by decide +kernel
theorem dX10_step_94 : decode cX10_step 94 = .ok (.getfield 72, 3) := by decide +kernel
theorem dX10_step_97 : decode cX10_step 97 = .ok (.iload_n 1, 1) := by decide +kernel
theorem dX10_step_98 : decode cX10_step 98 = .ok (.iaload, 1) := by decide +kernel
theorem dX10_step_99 : decode cX10_step 99 = .ok (.ireturn, 1) := by decide +kernel
theorem dX10_step_100 : decode cX10_step 100 = .ok (.aload_n 0, 1) := by decide +kernel
theorem dX10_step_101 : decode cX10_step 101 = .ok (.getfield 84, 3) := by decide +kernel
theorem dX10_step_104 : decode cX10_step 104 = .ok (.iconst 2, 1) := by decide +kernel
theorem dX10_step_105 : decode cX10_step 105 = .ok (.iload_n 1, 1) := by decide +kernel
theorem dX10_step_106 : decode cX10_step 106 = .ok (.imul, 1) := by decide +kernel
theorem dX10_step_107 : decode cX10_step 107 = .ok (.iload_n 2, 1) := by decide +kernel
theorem dX10_step_108 : decode cX10_step 108 = .ok (.iadd, 1) := by decide +kernel
theorem dX10_step_109 : decode cX10_step 109 = .ok (.iconst 4, 1) := by decide +kernel
theorem dX10_step_110 : decode cX10_step 110 = .ok (.isub, 1) := by decide +kernel
theorem dX10_step_111 : decode cX10_step 111 = .ok (.iaload, 1) := by decide +kernel
theorem dX10_step_112 : decode cX10_step 112 = .ok (.ireturn, 1) := by decide +kernel
theorem dX10_keepTimes_0 : decode cX10_keepTimes 0 = .ok (.iconst 0, 1) := by decide +kernel
theorem dX10_keepTimes_1 : decode cX10_keepTimes 1 = .ok (.istore_n 1, 1) := by decide +kernel
theorem dX10_keepTimes_2 : decode cX10_keepTimes 2 = .ok (.iload_n 1, 1) := by decide +kernel
theorem dX10_keepTimes_3 : decode cX10_keepTimes 3 = .ok (.aload_n 0, 1) := by decide +kernel
theorem dX10_keepTimes_4 : decode cX10_keepTimes 4 = .ok (.getfield 192, 3) := by decide +kernel
theorem dX10_keepTimes_7 : decode cX10_keepTimes 7 = .ok (.if_icmp .ge 75, 3) := by decide +kernel
theorem dX10_keepTimes_10 : decode cX10_keepTimes 10 = .ok (.aload_n 0, 1) := by decide +kernel
theorem dX10_keepTimes_11 : decode cX10_keepTimes 11 = .ok (.getfield 84, 3) := by decide +kernel
theorem dX10_keepTimes_14 : decode cX10_keepTimes 14 = .ok (.iconst 2, 1) := by decide +kernel
theorem dX10_keepTimes_15 : decode cX10_keepTimes 15 = .ok (.iload_n 1, 1) := by decide +kernel
theorem dX10_keepTimes_16 : decode cX10_keepTimes 16 = .ok (.imul, 1) := by decide +kernel
theorem dX10_keepTimes_17 : decode cX10_keepTimes 17 = .ok (.aload_n 0, 1) := by decide +kernel
theorem dX10_keepTimes_18 : decode cX10_keepTimes 18 = .ok (.aload_n 0, 1) := by decide +kernel
theorem dX10_keepTimes_19 : decode cX10_keepTimes 19 = .ok (.getfield 63, 3) := by decide +kernel
theorem dX10_keepTimes_22 : decode cX10_keepTimes 22 = .ok (.iload_n 1, 1) := by decide +kernel
theorem dX10_keepTimes_23 : decode cX10_keepTimes 23 = .ok (.iaload, 1) := by decide +kernel
theorem dX10_keepTimes_24 : decode cX10_keepTimes 24 = .ok (.aload_n 0, 1) := by decide +kernel
theorem dX10_keepTimes_25 : decode cX10_keepTimes 25 = .ok (.getfield 66, 3) := by decide +kernel
theorem dX10_keepTimes_28 : decode cX10_keepTimes 28 = .ok (.iload_n 1, 1) := by decide +kernel
theorem dX10_keepTimes_29 : decode cX10_keepTimes 29 = .ok (.laload, 1) := by decide +kernel
theorem dX10_keepTimes_30 : decode cX10_keepTimes 30 = .ok (.aload_n 0, 1) := by decide +kernel
theorem dX10_keepTimes_31 : decode cX10_keepTimes 31 = .ok (.getfield 69, 3) := by decide +kernel
theorem dX10_keepTimes_34 : decode cX10_keepTimes 34 = .ok (.iload_n 1, 1) := by decide +kernel
theorem dX10_keepTimes_35 : decode cX10_keepTimes 35 = .ok (.iaload, 1) := by decide +kernel
theorem dX10_keepTimes_36 : decode cX10_keepTimes 36 = .ok (.iconst 1, 1) := by decide +kernel
theorem dX10_keepTimes_37 : decode cX10_keepTimes 37 = .ok (.invokevirtual 165, 3) := by decide +kernel
theorem dX10_keepTimes_40 : decode cX10_keepTimes 40 = .ok (.l2i, 1) := by decide +kernel
theorem dX10_keepTimes_41 : decode cX10_keepTimes 41 = .ok (.iastore, 1) := by decide +kernel
theorem dX10_keepTimes_42 : decode cX10_keepTimes 42 = .ok (.aload_n 0, 1) := by decide +kernel
theorem dX10_keepTimes_43 : decode cX10_keepTimes 43 = .ok (.getfield 84, 3) := by decide +kernel
theorem dX10_keepTimes_46 : decode cX10_keepTimes 46 = .ok (.iconst 2, 1) := by decide +kernel
theorem dX10_keepTimes_47 : decode cX10_keepTimes 47 = .ok (.iload_n 1, 1) := by decide +kernel
theorem dX10_keepTimes_48 : decode cX10_keepTimes 48 = .ok (.imul, 1) := by decide +kernel
theorem dX10_keepTimes_49 : decode cX10_keepTimes 49 = .ok (.iconst 1, 1) := by decide +kernel
theorem dX10_keepTimes_50 : decode cX10_keepTimes 50 = .ok (.iadd, 1) := by decide +kernel
theorem dX10_keepTimes_51 : decode cX10_keepTimes 51 = .ok (.aload_n 0, 1) := by decide +kernel
theorem dX10_keepTimes_52 : decode cX10_keepTimes 52 = .ok (.aload_n 0, 1) := by decide +kernel
theorem dX10_keepTimes_53 : decode cX10_keepTimes 53 = .ok (.getfield 63, 3) := by decide +kernel
theorem dX10_keepTimes_56 : decode cX10_keepTimes 56 = .ok (.iload_n 1, 1) := by decide +kernel
theorem dX10_keepTimes_57 : decode cX10_keepTimes 57 = .ok (.iaload, 1) := by decide +kernel
theorem dX10_keepTimes_58 : decode cX10_keepTimes 58 = .ok (.aload_n 0, 1) := by decide +kernel
theorem dX10_keepTimes_59 : decode cX10_keepTimes 59 = .ok (.getfield 66, 3) := by decide +kernel
theorem dX10_keepTimes_62 : decode cX10_keepTimes 62 = .ok (.iload_n 1, 1) := by decide +kernel
theorem dX10_keepTimes_63 : decode cX10_keepTimes 63 = .ok (.laload, 1) := by decide +kernel
theorem dX10_keepTimes_64 : decode cX10_keepTimes 64 = .ok (.aload_n 0, 1) := by decide +kernel
theorem dX10_keepTimes_65 : decode cX10_keepTimes 65 = .ok (.getfield 72, 3) := by decide +kernel
theorem dX10_keepTimes_68 : decode cX10_keepTimes 68 = .ok (.iload_n 1, 1) := by decide +kernel
theorem dX10_keepTimes_69 : decode cX10_keepTimes 69 = .ok (.iaload, 1) := by decide +kernel
theorem dX10_keepTimes_70 : decode cX10_keepTimes 70 = .ok (.iconst 0, 1) := by decide +kernel
theorem dX10_keepTimes_71 : decode cX10_keepTimes 71 = .ok (.invokevirtual 165, 3) := by decide +kernel
theorem dX10_keepTimes_74 : decode cX10_keepTimes 74 = .ok (.l2i, 1) := by decide +kernel
theorem dX10_keepTimes_75 : decode cX10_keepTimes 75 = .ok (.iastore, 1) := by decide +kernel
theorem dX10_keepTimes_76 : decode cX10_keepTimes 76 = .ok (.iinc 1 1, 3) := by decide +kernel
theorem dX10_keepTimes_79 : decode cX10_keepTimes 79 = .ok (.goto (-77), 3) := by decide +kernel
theorem dX10_keepTimes_82 : decode cX10_keepTimes 82 = .ok (.return_, 1) := by decide +kernel
theorem dX10_days_0 : decode cX10_days 0 = .ok (.aload_n 0, 1) := by decide +kernel
theorem dX10_days_1 : decode cX10_days 1 = .ok (.iload_n 1, 1) := by decide +kernel
theorem dX10_days_2 : decode cX10_days 2 = .ok (.i2l, 1) := by decide +kernel
theorem dX10_days_3 : decode cX10_days 3 = .ok (.lconst 1, 1) := by decide +kernel
theorem dX10_days_4 : decode cX10_days 4 = .ok (.ldc2_w 206, 3) := by decide +kernel
theorem dX10_days_7 : decode cX10_days 7 = .ok (.invokestatic 105, 3) := by decide +kernel
theorem dX10_days_10 : decode cX10_days 10 = .ok (.ifCond .ne 7, 3) := by decide +kernel
theorem dX10_days_13 : decode cX10_days 13 = .ok (.iconst 1, 1) := by decide +kernel
theorem dX10_days_14 : decode cX10_days 14 = .ok (.goto 4, 3) := by decide +kernel
theorem dX10_days_17 : decode cX10_days 17 = .ok (.iconst 0, 1) := by decide +kernel
theorem dX10_days_18 : decode cX10_days 18 = .ok (.iconst 0, 1) := by decide +kernel
theorem dX10_days_19 : decode cX10_days 19 = .ok (.iconst 0, 1) := by decide +kernel
theorem dX10_days_20 : decode cX10_days 20 = .ok (.invokevirtual 111, 3) := by decide +kernel
theorem dX10_days_23 : decode cX10_days 23 = .ok (.ifCond .eq 5, 3) := by decide +kernel
theorem dX10_days_26 : decode cX10_days 26 = .ok (.iconst 0, 1) := by decide +kernel
theorem dX10_days_27 : decode cX10_days 27 = .ok (.ireturn, 1) := by decide +kernel
theorem dX10_days_28 : decode cX10_days 28 = .ok (.iload_n 2, 1) := by decide +kernel
theorem dX10_days_29 : decode cX10_days 29 = .ok (.iconst 4, 1) := by decide +kernel
theorem dX10_days_30 : decode cX10_days 30 = .ok (.irem, 1) := by decide +kernel
theorem dX10_days_31 : decode cX10_days 31 = .ok (.ifCond .ne 10, 3) := by decide +kernel
theorem dX10_days_34 : decode cX10_days 34 = .ok (.iload_n 2, 1) := by decide +kernel
theorem dX10_days_35 : decode cX10_days 35 = .ok (.bipush 100, 2) := by decide +kernel
theorem dX10_days_37 : decode cX10_days 37 = .ok (.irem, 1) := by decide +kernel
theorem dX10_days_38 : decode cX10_days 38 = .ok (.ifCond .ne 11, 3) := by decide +kernel
theorem dX10_days_41 : decode cX10_days 41 = .ok (.iload_n 2, 1) := by decide +kernel
theorem dX10_days_42 : decode cX10_days 42 = .ok (.sipush 400, 3) := by decide +kernel
theorem dX10_days_45 : decode cX10_days 45 = .ok (.irem, 1) := by decide +kernel
theorem dX10_days_46 : decode cX10_days 46 = .ok (.ifCond .ne 7, 3) := by decide +kernel
theorem dX10_days_49 : decode cX10_days 49 = .ok (.iconst 1, 1) := by decide +kernel
theorem dX10_days_50 : decode cX10_days 50 = .ok (.goto 4, 3) := by decide +kernel
theorem dX10_days_53 : decode cX10_days 53 = .ok (.iconst 0, 1) := by decide +kernel
theorem dX10_days_54 : decode cX10_days 54 = .ok (.istore_n 3, 1) := by decide +kernel
theorem dX10_days_55 : decode cX10_days 55 = .ok (.iload_n 1, 1) := by decide +kernel
theorem dX10_days_56 : decode cX10_days 56 = .ok (.iconst 2, 1) := by decide +kernel
theorem dX10_days_57 : decode cX10_days 57 = .ok (.if_icmp .ne 17, 3) := by decide +kernel
theorem dX10_days_60 : decode cX10_days 60 = .ok (.iload_n 3, 1) := by decide +kernel
theorem dX10_days_61 : decode cX10_days 61 = .ok (.ifCond .eq 8, 3) := by decide +kernel
theorem dX10_days_64 : decode cX10_days 64 = .ok (.bipush 29, 2) := by decide +kernel
theorem dX10_days_66 : decode cX10_days 66 = .ok (.goto 38, 3) := by decide +kernel
theorem dX10_days_69 : decode cX10_days 69 = .ok (.bipush 28, 2) := by decide +kernel
theorem dX10_days_71 : decode cX10_days 71 = .ok (.goto 33, 3) := by decide +kernel
theorem dX10_days_74 : decode cX10_days 74 = .ok (.iload_n 1, 1) := by decide +kernel
theorem dX10_days_75 : decode cX10_days 75 = .ok (.iconst 4, 1) := by decide +kernel
theorem dX10_days_76 : decode cX10_days 76 = .ok (.if_icmp .eq 21, 3) := by decide +kernel
theorem dX10_days_79 : decode cX10_days 79 = .ok (.iload_n 1, 1) := by decide +kernel
theorem dX10_days_80 : decode cX10_days 80 = .ok (.bipush 6, 2) := by decide +kernel
theorem dX10_days_82 : decode cX10_days 82 = .ok (.if_icmp .eq 15, 3) := by decide +kernel
theorem dX10_days_85 : decode cX10_days 85 = .ok (.iload_n 1, 1) := by decide +kernel
theorem dX10_days_86 : decode cX10_days 86 = .ok (.bipush 9, 2) := by decide +kernel
theorem dX10_days_88 : decode cX10_days 88 = .ok (.if_icmp .eq 9, 3) := by decide +kernel
theorem dX10_days_91 : decode cX10_days 91 = .ok (.iload_n 1, 1) := by decide +kernel
theorem dX10_days_92 : decode cX10_days 92 = .ok (.bipush 11, 2) := by decide +kernel
theorem dX10_days_94 : decode cX10_days 94 = .ok (.if_icmp .ne 8, 3) := by decide +kernel
theorem dX10_days_97 : decode cX10_days 97 = .ok (.bipush 30, 2) := by decide +kernel
theorem dX10_days_99 : decode cX10_days 99 = .ok (.goto 5, 3) := by decide +kernel
theorem dX10_days_102 : decode cX10_days 102 = .ok (.bipush 31, 2) := by decide +kernel
theorem dX10_days_104 : decode cX10_days 104 = .ok (.ireturn, 1) := by decide +kernel
theorem dX10_order_0 : decode cX10_order 0 = .ok (.iconst 0, 1) := by decide +kernel
theorem dX10_order_1 : decode cX10_order 1 = .ok (.istore_n 2, 1) := by decide +kernel
theorem dX10_order_2 : decode cX10_order 2 = .ok (.iload_n 2, 1) := by decide +kernel
theorem dX10_order_3 : decode cX10_order 3 = .ok (.bipush 6, 2) := by decide +kernel
theorem dX10_order_5 : decode cX10_order 5 = .ok (.if_icmp .ge 35, 3) := by decide +kernel
theorem dX10_order_8 : decode cX10_order 8 = .ok (.aload_n 0, 1) := by decide +kernel
theorem dX10_order_9 : decode cX10_order 9 = .ok (.iload_n 2, 1) := by decide +kernel
theorem dX10_order_10 : decode cX10_order 10 = .ok (.laload, 1) := by decide +kernel
theorem dX10_order_11 : decode cX10_order 11 = .ok (.aload_n 1, 1) := by decide +kernel
theorem dX10_order_12 : decode cX10_order 12 = .ok (.iload_n 2, 1) := by decide +kernel
theorem dX10_order_13 : decode cX10_order 13 = .ok (.laload, 1) := by decide +kernel
theorem dX10_order_14 : decode cX10_order 14 = .ok (.lcmp, 1) := by decide +kernel
theorem dX10_order_15 : decode cX10_order 15 = .ok (.ifCond .eq 19, 3) := by decide +kernel
theorem dX10_order_18 : decode cX10_order 18 = .ok (.aload_n 0, 1) := by decide +kernel
theorem dX10_order_19 : decode cX10_order 19 = .ok (.iload_n 2, 1) := by decide +kernel
theorem dX10_order_20 : decode cX10_order 20 = .ok (.laload, 1) := by decide +kernel
theorem dX10_order_21 : decode cX10_order 21 = .ok (.aload_n 1, 1) := by decide +kernel
theorem dX10_order_22 : decode cX10_order 22 = .ok (.iload_n 2, 1) := by decide +kernel
theorem dX10_order_23 : decode cX10_order 23 = .ok (.laload, 1) := by decide +kernel
theorem dX10_order_24 : decode cX10_order 24 = .ok (.lcmp, 1) := by decide +kernel
theorem dX10_order_25 : decode cX10_order 25 = .ok (.ifCond .ge 7, 3) := by decide +kernel
theorem dX10_order_28 : decode cX10_order 28 = .ok (.iconst (-1), 1) := by decide +kernel
theorem dX10_order_29 : decode cX10_order 29 = .ok (.goto 4, 3) := by decide +kernel
theorem dX10_order_32 : decode cX10_order 32 = .ok (.iconst 1, 1) := by decide +kernel
theorem dX10_order_33 : decode cX10_order 33 = .ok (.ireturn, 1) := by decide +kernel
theorem dX10_order_34 : decode cX10_order 34 = .ok (.iinc 2 1, 3) := by decide +kernel
theorem dX10_order_37 : decode cX10_order 37 = .ok (.goto (-35), 3) := by decide +kernel
theorem dX10_order_40 : decode cX10_order 40 = .ok (.iconst 0, 1) := by decide +kernel
theorem dX10_order_41 : decode cX10_order 41 = .ok (.ireturn, 1) := by decide +kernel
theorem dX10_goOn_0 : decode cX10_goOn 0 = .ok (.iconst 0, 1) := by decide +kernel
theorem dX10_goOn_1 : decode cX10_goOn 1 = .ok (.istore 6, 2) := by decide +kernel
theorem dX10_goOn_3 : decode cX10_goOn 3 = .ok (.iconst 0, 1) := by decide +kernel
theorem dX10_goOn_4 : decode cX10_goOn 4 = .ok (.istore 7, 2) := by decide +kernel
theorem dX10_goOn_6 : decode cX10_goOn 6 = .ok (.iload 7, 2) := by decide +kernel
theorem dX10_goOn_8 : decode cX10_goOn 8 = .ok (.aload_n 0, 1) := by decide +kernel
theorem dX10_goOn_9 : decode cX10_goOn 9 = .ok (.getfield 96, 3) := by decide +kernel
theorem dX10_goOn_12 : decode cX10_goOn 12 = .ok (.if_icmp .ge 331, 3) := by decide +kernel
theorem dX10_goOn_15 : decode cX10_goOn 15 = .ok (.lload_n 3, 1) := by decide +kernel
theorem dX10_goOn_16 : decode cX10_goOn 16 = .ok (.ldc2_w 149, 3) := by decide +kernel
theorem dX10_goOn_19 : decode cX10_goOn 19 = .ok (.ldiv, 1) := by decide +kernel
theorem dX10_goOn_20 : decode cX10_goOn 20 = .ok (.ldc2_w 171, 3) := by decide +kernel
theorem dX10_goOn_23 : decode cX10_goOn 23 = .ok (.lsub, 1) := by decide +kernel
theorem dX10_goOn_24 : decode cX10_goOn 24 = .ok (.lstore 8, 2) := by decide +kernel
theorem dX10_goOn_26 : decode cX10_goOn 26 = .ok (.lload 8, 2) := by decide +kernel
theorem dX10_goOn_28 : decode cX10_goOn 28 = .ok (.lload_n 3, 1) := by decide +kernel
theorem dX10_goOn_29 : decode cX10_goOn 29 = .ok (.ldc2_w 149, 3) := by decide +kernel
theorem dX10_goOn_32 : decode cX10_goOn 32 = .ok (.ldiv, 1) := by decide +kernel
theorem dX10_goOn_33 : decode cX10_goOn 33 = .ok (.ldc2_w 173, 3) := by decide +kernel
theorem dX10_goOn_36 : decode cX10_goOn 36 = .ok (.ladd, 1) := by decide +kernel
theorem dX10_goOn_37 : decode cX10_goOn 37 = .ok (.lcmp, 1) := by decide +kernel
theorem dX10_goOn_38 : decode cX10_goOn 38 = .ok (.ifCond .gt 299, 3) := by decide +kernel
theorem dX10_goOn_41 : decode cX10_goOn 41 = .ok (.aload_n 0, 1) := by decide +kernel
theorem dX10_goOn_42 : decode cX10_goOn 42 = .ok (.iload 7, 2) := by decide +kernel
theorem dX10_goOn_44 : decode cX10_goOn 44 = .ok (.lload 8, 2) := by decide +kernel
theorem dX10_goOn_46 : decode cX10_goOn 46 = .ok (.invokevirtual 175, 3) := by decide +kernel
theorem dX10_goOn_49 : decode cX10_goOn 49 = .ok (.istore 10, 2) := by decide +kernel
theorem dX10_goOn_51 : decode cX10_goOn 51 = .ok (.iconst 0, 1) := by decide +kernel
theorem dX10_goOn_52 : decode cX10_goOn 52 = .ok (.istore 11, 2) := by decide +kernel
theorem dX10_goOn_54 : decode cX10_goOn 54 = .ok (.iload 11, 2) := by decide +kernel
theorem dX10_goOn_56 : decode cX10_goOn 56 = .ok (.aload_n 0, 1) := by decide +kernel
theorem dX10_goOn_57 : decode cX10_goOn 57 = .ok (.getfield 13, 3) := by decide +kernel
theorem dX10_goOn_60 : decode cX10_goOn 60 = .ok (.iload 7, 2) := by decide +kernel
theorem dX10_goOn_62 : decode cX10_goOn 62 = .ok (.iaload, 1) := by decide +kernel
theorem dX10_goOn_63 : decode cX10_goOn 63 = .ok (.if_icmp .ge 265, 3) := by decide +kernel
theorem dX10_goOn_66 : decode cX10_goOn 66 = .ok (.iload 10, 2) := by decide +kernel
theorem dX10_goOn_68 : decode cX10_goOn 68 = .ok (.ifCond .eq 260, 3) := by decide +kernel
theorem dX10_goOn_71 : decode cX10_goOn 71 = .ok (.aload_n 0, 1) := by decide +kernel
theorem dX10_goOn_72 : decode cX10_goOn 72 = .ok (.getfield 16, 3) := by decide +kernel
theorem dX10_goOn_75 : decode cX10_goOn 75 = .ok (.bipush 12, 2) := by decide +kernel
theorem dX10_goOn_77 : decode cX10_goOn 77 = .ok (.iload 7, 2) := by decide +kernel
theorem dX10_goOn_79 : decode cX10_goOn 79 = .ok (.imul, 1) := by decide +kernel
theorem dX10_goOn_80 : decode cX10_goOn 80 = .ok (.iload 11, 2) := by decide +kernel
theorem dX10_goOn_82 : decode cX10_goOn 82 = .ok (.iadd, 1) := by decide +kernel
theorem dX10_goOn_83 : decode cX10_goOn 83 = .ok (.iaload, 1) := by decide +kernel
theorem dX10_goOn_84 : decode cX10_goOn 84 = .ok (.iload_n 1, 1) := by decide +kernel
theorem dX10_goOn_85 : decode cX10_goOn 85 = .ok (.if_icmp .ne 19, 3) := by decide +kernel
theorem dX10_goOn_88 : decode cX10_goOn 88 = .ok (.aload_n 0, 1) := by decide +kernel
theorem dX10_goOn_89 : decode cX10_goOn 89 = .ok (.getfield 81, 3) := by decide +kernel
theorem dX10_goOn_92 : decode cX10_goOn 92 = .ok (.iload 11, 2) := by decide +kernel
theorem dX10_goOn_94 : decode cX10_goOn 94 = .ok (.laload, 1) := by decide +kernel
theorem dX10_goOn_95 : decode cX10_goOn 95 = .ok (.lload_n 3, 1) := by decide +kernel
theorem dX10_goOn_96 : decode cX10_goOn 96 = .ok (.lcmp, 1) := by decide +kernel
theorem dX10_goOn_97 : decode cX10_goOn 97 = .ok (.ifCond .lt 7, 3) := by decide +kernel
theorem dX10_goOn_100 : decode cX10_goOn 100 = .ok (.iconst 1, 1) := by decide +kernel
theorem dX10_goOn_101 : decode cX10_goOn 101 = .ok (.goto 4, 3) := by decide +kernel
theorem dX10_goOn_104 : decode cX10_goOn 104 = .ok (.iconst 0, 1) := by decide +kernel
theorem dX10_goOn_105 : decode cX10_goOn 105 = .ok (.istore 12, 2) := by decide +kernel
theorem dX10_goOn_107 : decode cX10_goOn 107 = .ok (.iload 11, 2) := by decide +kernel
theorem dX10_goOn_109 : decode cX10_goOn 109 = .ok (.iconst 1, 1) := by decide +kernel
theorem dX10_goOn_110 : decode cX10_goOn 110 = .ok (.iadd, 1) := by decide +kernel
theorem dX10_goOn_111 : decode cX10_goOn 111 = .ok (.istore 13, 2) := by decide +kernel
theorem dX10_goOn_113 : decode cX10_goOn 113 = .ok (.iload 13, 2) := by decide +kernel
theorem dX10_goOn_115 : decode cX10_goOn 115 = .ok (.aload_n 0, 1) := by decide +kernel
theorem dX10_goOn_116 : decode cX10_goOn 116 = .ok (.getfield 13, 3) := by decide +kernel
theorem dX10_goOn_119 : decode cX10_goOn 119 = .ok (.iload 7, 2) := by decide +kernel
theorem dX10_goOn_121 : decode cX10_goOn 121 = .ok (.iaload, 1) := by decide +kernel
theorem dX10_goOn_122 : decode cX10_goOn 122 = .ok (.if_icmp .ge 200, 3) := by decide +kernel
theorem dX10_goOn_125 : decode cX10_goOn 125 = .ok (.iload 12, 2) := by decide +kernel
theorem dX10_goOn_127 : decode cX10_goOn 127 = .ok (.ifCond .eq 195, 3) := by decide +kernel
theorem dX10_goOn_130 : decode cX10_goOn 130 = .ok (.aload_n 0, 1) := by decide +kernel
theorem dX10_goOn_131 : decode cX10_goOn 131 = .ok (.getfield 16, 3) := by decide +kernel
theorem dX10_goOn_134 : decode cX10_goOn 134 = .ok (.bipush 12, 2) := by decide +kernel
theorem dX10_goOn_136 : decode cX10_goOn 136 = .ok (.iload 7, 2) := by decide +kernel
theorem dX10_goOn_138 : decode cX10_goOn 138 = .ok (.imul, 1) := by decide +kernel
theorem dX10_goOn_139 : decode cX10_goOn 139 = .ok (.iload 13, 2) := by decide +kernel
theorem dX10_goOn_141 : decode cX10_goOn 141 = .ok (.iadd, 1) := by decide +kernel
theorem dX10_goOn_142 : decode cX10_goOn 142 = .ok (.iaload, 1) := by decide +kernel
theorem dX10_goOn_143 : decode cX10_goOn 143 = .ok (.iload_n 2, 1) := by decide +kernel
theorem dX10_goOn_144 : decode cX10_goOn 144 = .ok (.if_icmp .ne 172, 3) := by decide +kernel
theorem dX10_goOn_147 : decode cX10_goOn 147 = .ok (.aload_n 0, 1) := by decide +kernel
theorem dX10_goOn_148 : decode cX10_goOn 148 = .ok (.iload 11, 2) := by decide +kernel
theorem dX10_goOn_150 : decode cX10_goOn 150 = .ok (.iload 13, 2) := by decide +kernel
theorem dX10_goOn_152 : decode cX10_goOn 152 = .ok (.invokevirtual 182, 3) := by decide +kernel
theorem dX10_goOn_155 : decode cX10_goOn 155 = .ok (.ifCond .eq 161, 3) := by decide +kernel
theorem dX10_goOn_158 : decode cX10_goOn 158 = .ok (.aload_n 0, 1) := by decide +kernel
theorem dX10_goOn_159 : decode cX10_goOn 159 = .ok (.getfield 93, 3) := by decide +kernel
theorem dX10_goOn_162 : decode cX10_goOn 162 = .ok (.iconst 0, 1) := by decide +kernel
theorem dX10_goOn_163 : decode cX10_goOn 163 = .ok (.aload_n 0, 1) := by decide +kernel
theorem dX10_goOn_164 : decode cX10_goOn 164 = .ok (.getfield 81, 3) := by decide +kernel
theorem dX10_goOn_167 : decode cX10_goOn 167 = .ok (.iload 11, 2) := by decide +kernel
theorem dX10_goOn_169 : decode cX10_goOn 169 = .ok (.laload, 1) := by decide +kernel
theorem dX10_goOn_170 : decode cX10_goOn 170 = .ok (.lastore, 1) := by decide +kernel
theorem dX10_goOn_171 : decode cX10_goOn 171 = .ok (.aload_n 0, 1) := by decide +kernel
theorem dX10_goOn_172 : decode cX10_goOn 172 = .ok (.getfield 93, 3) := by decide +kernel
theorem dX10_goOn_175 : decode cX10_goOn 175 = .ok (.iconst 1, 1) := by decide +kernel
theorem dX10_goOn_176 : decode cX10_goOn 176 = .ok (.aload_n 0, 1) := by decide +kernel
theorem dX10_goOn_177 : decode cX10_goOn 177 = .ok (.getfield 78, 3) := by decide +kernel
theorem dX10_goOn_180 : decode cX10_goOn 180 = .ok (.iload 13, 2) := by decide +kernel
theorem dX10_goOn_182 : decode cX10_goOn 182 = .ok (.laload, 1) := by decide +kernel
theorem dX10_goOn_183 : decode cX10_goOn 183 = .ok (.lastore, 1) := by decide +kernel
theorem dX10_goOn_184 : decode cX10_goOn 184 = .ok (.aload_n 0, 1) := by decide +kernel
theorem dX10_goOn_185 : decode cX10_goOn 185 = .ok (.getfield 93, 3) := by decide +kernel
theorem dX10_goOn_188 : decode cX10_goOn 188 = .ok (.iconst 2, 1) := by decide +kernel
theorem dX10_goOn_189 : decode cX10_goOn 189 = .ok (.iload 7, 2) := by decide +kernel
theorem dX10_goOn_191 : decode cX10_goOn 191 = .ok (.i2l, 1) := by decide +kernel
theorem dX10_goOn_192 : decode cX10_goOn 192 = .ok (.lastore, 1) := by decide +kernel
theorem dX10_goOn_193 : decode cX10_goOn 193 = .ok (.aload_n 0, 1) := by decide +kernel
theorem dX10_goOn_194 : decode cX10_goOn 194 = .ok (.getfield 93, 3) := by decide +kernel
theorem dX10_goOn_197 : decode cX10_goOn 197 = .ok (.iconst 3, 1) := by decide +kernel
theorem dX10_goOn_198 : decode cX10_goOn 198 = .ok (.lload 8, 2) := by decide +kernel
theorem dX10_goOn_200 : decode cX10_goOn 200 = .ok (.lastore, 1) := by decide +kernel
theorem dX10_goOn_201 : decode cX10_goOn 201 = .ok (.aload_n 0, 1) := by decide +kernel
theorem dX10_goOn_202 : decode cX10_goOn 202 = .ok (.getfield 93, 3) := by decide +kernel
theorem dX10_goOn_205 : decode cX10_goOn 205 = .ok (.iconst 4, 1) := by decide +kernel
theorem dX10_goOn_206 : decode cX10_goOn 206 = .ok (.iload 11, 2) := by decide +kernel
theorem dX10_goOn_208 : decode cX10_goOn 208 = .ok (.i2l, 1) := by decide +kernel
theorem dX10_goOn_209 : decode cX10_goOn 209 = .ok (.lastore, 1) := by decide +kernel
theorem dX10_goOn_210 : decode cX10_goOn 210 = .ok (.aload_n 0, 1) := by decide +kernel
theorem dX10_goOn_211 : decode cX10_goOn 211 = .ok (.getfield 93, 3) := by decide +kernel
theorem dX10_goOn_214 : decode cX10_goOn 214 = .ok (.iconst 5, 1) := by decide +kernel
theorem dX10_goOn_215 : decode cX10_goOn 215 = .ok (.iload 13, 2) := by decide +kernel
theorem dX10_goOn_217 : decode cX10_goOn 217 = .ok (.i2l, 1) := by decide +kernel
theorem dX10_goOn_218 : decode cX10_goOn 218 = .ok (.lastore, 1) := by decide +kernel
theorem dX10_goOn_219 : decode cX10_goOn 219 = .ok (.iload 5, 2) := by decide +kernel
theorem dX10_goOn_221 : decode cX10_goOn 221 = .ok (.ifCond .ne 17, 3) := by decide +kernel
theorem dX10_goOn_224 : decode cX10_goOn 224 = .ok (.aload_n 0, 1) := by decide +kernel
theorem dX10_goOn_225 : decode cX10_goOn 225 = .ok (.getfield 93, 3) := by decide +kernel
theorem dX10_goOn_228 : decode cX10_goOn 228 = .ok (.aload_n 0, 1) := by decide +kernel
theorem dX10_goOn_229 : decode cX10_goOn 229 = .ok (.getfield 87, 3) := by decide +kernel
theorem dX10_goOn_232 : decode cX10_goOn 232 = .ok (.invokestatic 208, 3) := by decide +kernel
theorem dX10_goOn_235 : decode cX10_goOn 235 = .ok (.ifCond .le 26, 3) := by decide +kernel
theorem dX10_goOn_238 : decode cX10_goOn 238 = .ok (.iload 6, 2) := by decide +kernel
theorem dX10_goOn_240 : decode cX10_goOn 240 = .ok (.ifCond .eq 17, 3) := by decide +kernel
theorem dX10_goOn_243 : decode cX10_goOn 243 = .ok (.aload_n 0, 1) := by decide +kernel
theorem dX10_goOn_244 : decode cX10_goOn 244 = .ok (.getfield 93, 3) := by decide +kernel
theorem dX10_goOn_247 : decode cX10_goOn 247 = .ok (.aload_n 0, 1) := by decide +kernel
theorem dX10_goOn_248 : decode cX10_goOn 248 = .ok (.getfield 90, 3) := by decide +kernel
theorem dX10_goOn_251 : decode cX10_goOn 251 = .ok (.invokestatic 208, 3) := by decide +kernel
theorem dX10_goOn_254 : decode cX10_goOn 254 = .ok (.ifCond .ge 7, 3) := by decide +kernel
theorem dX10_goOn_257 : decode cX10_goOn 257 = .ok (.iconst 1, 1) := by decide +kernel
theorem dX10_goOn_258 : decode cX10_goOn 258 = .ok (.goto 4, 3) := by decide +kernel
theorem dX10_goOn_261 : decode cX10_goOn 261 = .ok (.iconst 0, 1) := by decide +kernel
theorem dX10_goOn_262 : decode cX10_goOn 262 = .ok (.istore 14, 2) := by decide +kernel
theorem dX10_goOn_264 : decode cX10_goOn 264 = .ok (.iconst 0, 1) := by decide +kernel
theorem dX10_goOn_265 : decode cX10_goOn 265 = .ok (.istore 15, 2) := by decide +kernel
theorem dX10_goOn_267 : decode cX10_goOn 267 = .ok (.iload 15, 2) := by decide +kernel
theorem dX10_goOn_269 : decode cX10_goOn 269 = .ok (.bipush 6, 2) := by decide +kernel
theorem dX10_goOn_271 : decode cX10_goOn 271 = .ok (.if_icmp .ge 28, 3) := by decide +kernel
theorem dX10_goOn_274 : decode cX10_goOn 274 = .ok (.iload 14, 2) := by decide +kernel
theorem dX10_goOn_276 : decode cX10_goOn 276 = .ok (.ifCond .eq 23, 3) := by decide +kernel
theorem dX10_goOn_279 : decode cX10_goOn 279 = .ok (.aload_n 0, 1) := by decide +kernel
theorem dX10_goOn_280 : decode cX10_goOn 280 = .ok (.getfield 90, 3) := by decide +kernel
theorem dX10_goOn_283 : decode cX10_goOn 283 = .ok (.iload 15, 2) := by decide +kernel
theorem dX10_goOn_285 : decode cX10_goOn 285 = .ok (.aload_n 0, 1) := by decide +kernel
theorem dX10_goOn_286 : decode cX10_goOn 286 = .ok (.getfield 93, 3) := by decide +kernel
theorem dX10_goOn_289 : decode cX10_goOn 289 = .ok (.iload 15, 2) := by decide +kernel
theorem dX10_goOn_291 : decode cX10_goOn 291 = .ok (.laload, 1) := by decide +kernel
theorem dX10_goOn_292 : decode cX10_goOn 292 = .ok (.lastore, 1) := by decide +kernel
theorem dX10_goOn_293 : decode cX10_goOn 293 = .ok (.iinc 15 1, 3) := by decide +kernel
theorem dX10_goOn_296 : decode cX10_goOn 296 = .ok (.goto (-29), 3) := by decide +kernel
theorem dX10_goOn_299 : decode cX10_goOn 299 = .ok (.iload 6, 2) := by decide +kernel
theorem dX10_goOn_301 : decode cX10_goOn 301 = .ok (.ifCond .ne 8, 3) := by decide +kernel
theorem dX10_goOn_304 : decode cX10_goOn 304 = .ok (.iload 14, 2) := by decide +kernel
theorem dX10_goOn_306 : decode cX10_goOn 306 = .ok (.ifCond .eq 7, 3) := by decide +kernel
theorem dX10_goOn_309 : decode cX10_goOn 309 = .ok (.iconst 1, 1) := by decide +kernel
theorem dX10_goOn_310 : decode cX10_goOn 310 = .ok (.goto 4, 3) := by decide +kernel
theorem dX10_goOn_313 : decode cX10_goOn 313 = .ok (.iconst 0, 1) := by decide +kernel
theorem dX10_goOn_314 : decode cX10_goOn 314 = .ok (.istore 6, 2) := by decide +kernel
theorem dX10_goOn_316 : decode cX10_goOn 316 = .ok (.iinc 13 1, 3) := by decide +kernel
theorem dX10_goOn_319 : decode cX10_goOn 319 = .ok (.goto (-206), 3) := by decide +kernel
theorem dX10_goOn_322 : decode cX10_goOn 322 = .ok (.iinc 11 1, 3) := by decide +kernel
theorem dX10_goOn_325 : decode cX10_goOn 325 = .ok (.goto (-271), 3) := by decide +kernel
theorem dX10_goOn_328 : decode cX10_goOn 328 = .ok (.lload 8, 2) := by decide +kernel
theorem dX10_goOn_330 : decode cX10_goOn 330 = .ok (.lconst 1, 1) := by decide +kernel
theorem dX10_goOn_331 : decode cX10_goOn 331 = .ok (.ladd, 1) := by decide +kernel
theorem dX10_goOn_332 : decode cX10_goOn 332 = .ok (.lstore 8, 2) := by decide +kernel
theorem dX10_goOn_334 : decode cX10_goOn 334 = .ok (.goto (-308), 3) := by decide +kernel
theorem dX10_goOn_337 : decode cX10_goOn 337 = .ok (.iinc 7 1, 3) := by decide +kernel
theorem dX10_goOn_340 : decode cX10_goOn 340 = .ok (.goto (-334), 3) := by decide +kernel
theorem dX10_goOn_343 : decode cX10_goOn 343 = .ok (.iconst 0, 1) := by decide +kernel
theorem dX10_goOn_344 : decode cX10_goOn 344 = .ok (.istore 7, 2) := by decide +kernel
theorem dX10_goOn_346 : decode cX10_goOn 346 = .ok (.iload 7, 2) := by decide +kernel
theorem dX10_goOn_348 : decode cX10_goOn 348 = .ok (.bipush 6, 2) := by decide +kernel
theorem dX10_goOn_350 : decode cX10_goOn 350 = .ok (.if_icmp .ge 23, 3) := by decide +kernel
theorem dX10_goOn_353 : decode cX10_goOn 353 = .ok (.aload_n 0, 1) := by decide +kernel
theorem dX10_goOn_354 : decode cX10_goOn 354 = .ok (.getfield 87, 3) := by decide +kernel
theorem dX10_goOn_357 : decode cX10_goOn 357 = .ok (.iload 7, 2) := by decide +kernel
theorem dX10_goOn_359 : decode cX10_goOn 359 = .ok (.aload_n 0, 1) := by decide +kernel
theorem dX10_goOn_360 : decode cX10_goOn 360 = .ok (.getfield 90, 3) := by decide +kernel
theorem dX10_goOn_363 : decode cX10_goOn 363 = .ok (.iload 7, 2) := by decide +kernel
theorem dX10_goOn_365 : decode cX10_goOn 365 = .ok (.laload, 1) := by decide +kernel
theorem dX10_goOn_366 : decode cX10_goOn 366 = .ok (.lastore, 1) := by decide +kernel
theorem dX10_goOn_367 : decode cX10_goOn 367 = .ok (.iinc 7 1, 3) := by decide +kernel
theorem dX10_goOn_370 : decode cX10_goOn 370 = .ok (.goto (-24), 3) := by decide +kernel
theorem dX10_goOn_373 : decode cX10_goOn 373 = .ok (.iload 6, 2) := by decide +kernel
theorem dX10_goOn_375 : decode cX10_goOn 375 = .ok (.ireturn, 1) := by decide +kernel
theorem dX10_next_0 : decode cX10_next 0 = .ok (.aload_n 0, 1) := by decide +kernel
theorem dX10_next_1 : decode cX10_next 1 = .ok (.iload_n 1, 1) := by decide +kernel
theorem dX10_next_2 : decode cX10_next 2 = .ok (.invokestatic 119, 3) := by decide +kernel
theorem dX10_next_5 : decode cX10_next 5 = .ok (.ifCond .eq 10, 3) := by decide +kernel
theorem dX10_next_8 : decode cX10_next 8 = .ok (.iload_n 2, 1) := by decide +kernel
theorem dX10_next_9 : decode cX10_next 9 = .ok (.invokestatic 119, 3) := by decide +kernel
theorem dX10_next_12 : decode cX10_next 12 = .ok (.ifCond .ne 7, 3) := by decide +kernel
theorem dX10_next_15 : decode cX10_next 15 = .ok (.iconst 1, 1) := by decide +kernel
theorem dX10_next_16 : decode cX10_next 16 = .ok (.goto 4, 3) := by decide +kernel
theorem dX10_next_19 : decode cX10_next 19 = .ok (.iconst 0, 1) := by decide +kernel
theorem dX10_next_20 : decode cX10_next 20 = .ok (.lload_n 3, 1) := by decide +kernel
theorem dX10_next_21 : decode cX10_next 21 = .ok (.lconst 0, 1) := by decide +kernel
theorem dX10_next_22 : decode cX10_next 22 = .ok (.ldc2_w 186, 3) := by decide +kernel
theorem dX10_next_25 : decode cX10_next 25 = .ok (.invokestatic 105, 3) := by decide +kernel
theorem dX10_next_28 : decode cX10_next 28 = .ok (.ifCond .eq 16, 3) := by decide +kernel
theorem dX10_next_31 : decode cX10_next 31 = .ok (.iload 5, 2) := by decide +kernel
theorem dX10_next_33 : decode cX10_next 33 = .ok (.i2l, 1) := by decide +kernel
theorem dX10_next_34 : decode cX10_next 34 = .ok (.lconst 0, 1) := by decide +kernel
theorem dX10_next_35 : decode cX10_next 35 = .ok (.ldc2_w 212, 3) := by decide +kernel
theorem dX10_next_38 : decode cX10_next 38 = .ok (.invokestatic 105, 3) := by decide +kernel
theorem dX10_next_41 : decode cX10_next 41 = .ok (.ifCond .ne 7, 3) := by decide +kernel
theorem dX10_next_44 : decode cX10_next 44 = .ok (.iconst 1, 1) := by decide +kernel
theorem dX10_next_45 : decode cX10_next 45 = .ok (.goto 4, 3) := by decide +kernel
theorem dX10_next_48 : decode cX10_next 48 = .ok (.iconst 0, 1) := by decide +kernel
theorem dX10_next_49 : decode cX10_next 49 = .ok (.iconst 0, 1) := by decide +kernel
theorem dX10_next_50 : decode cX10_next 50 = .ok (.invokevirtual 111, 3) := by decide +kernel
theorem dX10_next_53 : decode cX10_next 53 = .ok (.ifCond .eq 5, 3) := by decide +kernel
theorem dX10_next_56 : decode cX10_next 56 = .ok (.iconst 0, 1) := by decide +kernel
theorem dX10_next_57 : decode cX10_next 57 = .ok (.ireturn, 1) := by decide +kernel
theorem dX10_next_58 : decode cX10_next 58 = .ok (.iconst 0, 1) := by decide +kernel
theorem dX10_next_59 : decode cX10_next 59 = .ok (.istore 6, 2) := by decide +kernel
theorem dX10_next_61 : decode cX10_next 61 = .ok (.iload 6, 2) := by decide +kernel
theorem dX10_next_63 : decode cX10_next 63 = .ok (.iload 5, 2) := by decide +kernel
theorem dX10_next_65 : decode cX10_next 65 = .ok (.if_icmp .gt 31, 3) := by decide +kernel
theorem dX10_next_68 : decode cX10_next 68 = .ok (.aload_n 0, 1) := by decide +kernel
theorem dX10_next_69 : decode cX10_next 69 = .ok (.iload_n 1, 1) := by decide +kernel
theorem dX10_next_70 : decode cX10_next 70 = .ok (.iload_n 2, 1) := by decide +kernel
theorem dX10_next_71 : decode cX10_next 71 = .ok (.lload_n 3, 1) := by decide +kernel
theorem dX10_next_72 : decode cX10_next 72 = .ok (.iload 6, 2) := by decide +kernel
theorem dX10_next_74 : decode cX10_next 74 = .ok (.ifCond .ne 7, 3) := by decide +kernel
theorem dX10_next_77 : decode cX10_next 77 = .ok (.iconst 1, 1) := by decide +kernel
theorem dX10_next_78 : decode cX10_next 78 = .ok (.goto 4, 3) := by decide +kernel
theorem dX10_next_81 : decode cX10_next 81 = .ok (.iconst 0, 1) := by decide +kernel
theorem dX10_next_82 : decode cX10_next 82 = .ok (.invokevirtual 214, 3) := by decide +kernel
theorem dX10_next_85 : decode cX10_next 85 = .ok (.ifCond .ne 5, 3) := by decide +kernel
theorem dX10_next_88 : decode cX10_next 88 = .ok (.iconst (-1), 1) := by decide +kernel
theorem dX10_next_89 : decode cX10_next 89 = .ok (.ireturn, 1) := by decide +kernel
theorem dX10_next_90 : decode cX10_next 90 = .ok (.iinc 6 1, 3) := by decide +kernel
theorem dX10_next_93 : decode cX10_next 93 = .ok (.goto (-32), 3) := by decide +kernel
theorem dX10_next_96 : decode cX10_next 96 = .ok (.aload_n 0, 1) := by decide +kernel
theorem dX10_next_97 : decode cX10_next 97 = .ok (.getfield 87, 3) := by decide +kernel
theorem dX10_next_100 : decode cX10_next 100 = .ok (.iconst 0, 1) := by decide +kernel
theorem dX10_next_101 : decode cX10_next 101 = .ok (.laload, 1) := by decide +kernel
theorem dX10_next_102 : decode cX10_next 102 = .ok (.l2i, 1) := by decide +kernel
theorem dX10_next_103 : decode cX10_next 103 = .ok (.ireturn, 1) := by decide +kernel
theorem dX10_sign_0 : decode cX10_sign 0 = .ok (.aload_n 0, 1) := by decide +kernel
theorem dX10_sign_1 : decode cX10_sign 1 = .ok (.iload_n 1, 1) := by decide +kernel
theorem dX10_sign_2 : decode cX10_sign 2 = .ok (.i2l, 1) := by decide +kernel
theorem dX10_sign_3 : decode cX10_sign 3 = .ok (.ldc2_w 218, 3) := by decide +kernel
theorem dX10_sign_6 : decode cX10_sign 6 = .ok (.ldc2_w 220, 3) := by decide +kernel
theorem dX10_sign_9 : decode cX10_sign 9 = .ok (.invokestatic 105, 3) := by decide +kernel
theorem dX10_sign_12 : decode cX10_sign 12 = .ok (.ifCond .ne 7, 3) := by decide +kernel
theorem dX10_sign_15 : decode cX10_sign 15 = .ok (.iconst 1, 1) := by decide +kernel
theorem dX10_sign_16 : decode cX10_sign 16 = .ok (.goto 4, 3) := by decide +kernel
theorem dX10_sign_19 : decode cX10_sign 19 = .ok (.iconst 0, 1) := by decide +kernel
theorem dX10_sign_20 : decode cX10_sign 20 = .ok (.aload_n 0, 1) := by decide +kernel
theorem dX10_sign_21 : decode cX10_sign 21 = .ok (.getfield 222, 3) := by decide +kernel
theorem dX10_sign_24 : decode cX10_sign 24 = .ok (.sipush 500, 3) := by decide +kernel
theorem dX10_sign_27 : decode cX10_sign 27 = .ok (.if_icmp .ne 7, 3) := by decide +kernel
theorem dX10_sign_30 : decode cX10_sign 30 = .ok (.iconst 1, 1) := by decide +kernel
theorem dX10_sign_31 : decode cX10_sign 31 = .ok (.goto 4, 3) := by decide +kernel
theorem dX10_sign_34 : decode cX10_sign 34 = .ok (.iconst 0, 1) := by decide +kernel
theorem dX10_sign_35 : decode cX10_sign 35 = .ok (.iconst 0, 1) := by decide +kernel
theorem dX10_sign_36 : decode cX10_sign 36 = .ok (.invokevirtual 111, 3) := by decide +kernel
theorem dX10_sign_39 : decode cX10_sign 39 = .ok (.ifCond .ne 23, 3) := by decide +kernel
theorem dX10_sign_42 : decode cX10_sign 42 = .ok (.aload_n 0, 1) := by decide +kernel
theorem dX10_sign_43 : decode cX10_sign 43 = .ok (.getfield 75, 3) := by decide +kernel
theorem dX10_sign_46 : decode cX10_sign 46 = .ok (.aload_n 0, 1) := by decide +kernel
theorem dX10_sign_47 : decode cX10_sign 47 = .ok (.getfield 222, 3) := by decide +kernel
theorem dX10_sign_50 : decode cX10_sign 50 = .ok (.iload_n 1, 1) := by decide +kernel
theorem dX10_sign_51 : decode cX10_sign 51 = .ok (.iastore, 1) := by decide +kernel
theorem dX10_sign_52 : decode cX10_sign 52 = .ok (.aload_n 0, 1) := by decide +kernel
theorem dX10_sign_53 : decode cX10_sign 53 = .ok (.dup, 1) := by decide +kernel
theorem dX10_sign_54 : decode cX10_sign 54 = .ok (.getfield 222, 3) := by decide +kernel
theorem dX10_sign_57 : decode cX10_sign 57 = .ok (.iconst 1, 1) := by decide +kernel
theorem dX10_sign_58 : decode cX10_sign 58 = .ok (.iadd, 1) := by decide +kernel
theorem dX10_sign_59 : decode cX10_sign 59 = .ok (.putfield 222, 3) := by decide +kernel
theorem dX10_sign_62 : decode cX10_sign 62 = .ok (.return_, 1) := by decide +kernel
theorem dX10_fail_0 : decode cX10_fail 0 = .ok (.aload_n 0, 1) := by decide +kernel
theorem dX10_fail_1 : decode cX10_fail 1 = .ok (.aload_n 0, 1) := by decide +kernel
theorem dX10_fail_2 : decode cX10_fail 2 = .ok (.getfield 225, 3) := by decide +kernel
theorem dX10_fail_5 : decode cX10_fail 5 = .ok (.ifCond .ge 7, 3) := by decide +kernel
theorem dX10_fail_8 : decode cX10_fail 8 = .ok (.iload_n 1, 1) := by decide +kernel
theorem dX10_fail_9 : decode cX10_fail 9 = .ok (.goto 7, 3) := by decide +kernel
theorem dX10_fail_12 : decode cX10_fail 12 = .ok (.aload_n 0, 1) := by decide +kernel
theorem dX10_fail_13 : decode cX10_fail 13 = .ok (.getfield 225, 3) := by decide +kernel
theorem dX10_fail_16 : decode cX10_fail 16 = .ok (.putfield 225, 3) := by decide +kernel
theorem dX10_fail_19 : decode cX10_fail 19 = .ok (.return_, 1) := by decide +kernel
theorem dX10_look_0 : decode cX10_look 0 = .ok (.aload_n 0, 1) := by decide +kernel
theorem dX10_look_1 : decode cX10_look 1 = .ok (.getfield 228, 3) := by decide +kernel
theorem dX10_look_4 : decode cX10_look 4 = .ok (.aload_n 0, 1) := by decide +kernel
theorem dX10_look_5 : decode cX10_look 5 = .ok (.getfield 222, 3) := by decide +kernel
theorem dX10_look_8 : decode cX10_look 8 = .ok (.if_icmp .ge 15, 3) := by decide +kernel
theorem dX10_look_11 : decode cX10_look 11 = .ok (.aload_n 0, 1) := by decide +kernel
theorem dX10_look_12 : decode cX10_look 12 = .ok (.getfield 75, 3) := by decide +kernel
theorem dX10_look_15 : decode cX10_look 15 = .ok (.aload_n 0, 1) := by decide +kernel
theorem dX10_look_16 : decode cX10_look 16 = .ok (.getfield 228, 3) := by decide +kernel
theorem dX10_look_19 : decode cX10_look 19 = .ok (.iaload, 1) := by decide +kernel
theorem dX10_look_20 : decode cX10_look 20 = .ok (.goto 4, 3) := by decide +kernel
theorem dX10_look_23 : decode cX10_look 23 = .ok (.iconst (-1), 1) := by decide +kernel
theorem dX10_look_24 : decode cX10_look 24 = .ok (.ireturn, 1) := by decide +kernel
theorem dX10_number_0 : decode cX10_number 0 = .ok (.aload_n 0, 1) := by decide +kernel
theorem dX10_number_1 : decode cX10_number 1 = .ok (.getfield 228, 3) := by decide +kernel
theorem dX10_number_4 : decode cX10_number 4 = .ok (.istore_n 2, 1) := by decide +kernel
theorem dX10_number_5 : decode cX10_number 5 = .ok (.iconst 0, 1) := by decide +kernel
theorem dX10_number_6 : decode cX10_number 6 = .ok (.istore_n 3, 1) := by decide +kernel
theorem dX10_number_7 : decode cX10_number 7 = .ok (.aload_n 0, 1) := by decide +kernel
theorem dX10_number_8 : decode cX10_number 8 = .ok (.getfield 228, 3) := by decide +kernel
theorem dX10_number_11 : decode cX10_number 11 = .ok (.iload_n 2, 1) := by decide +kernel
theorem dX10_number_12 : decode cX10_number 12 = .ok (.bipush 6, 2) := by decide +kernel
theorem dX10_number_14 : decode cX10_number 14 = .ok (.iadd, 1) := by decide +kernel
theorem dX10_number_15 : decode cX10_number 15 = .ok (.if_icmp .ge 47, 3) := by decide +kernel
theorem dX10_number_18 : decode cX10_number 18 = .ok (.aload_n 0, 1) := by decide +kernel
theorem dX10_number_19 : decode cX10_number 19 = .ok (.invokevirtual 231, 3) := by decide +kernel
theorem dX10_number_22 : decode cX10_number 22 = .ok (.bipush 48, 2) := by decide +kernel
theorem dX10_number_24 : decode cX10_number 24 = .ok (.if_icmp .lt 38, 3) := by decide +kernel
theorem dX10_number_27 : decode cX10_number 27 = .ok (.aload_n 0, 1) := by decide +kernel
theorem dX10_number_28 : decode cX10_number 28 = .ok (.invokevirtual 231, 3) := by decide +kernel
theorem dX10_number_31 : decode cX10_number 31 = .ok (.bipush 57, 2) := by decide +kernel
theorem dX10_number_33 : decode cX10_number 33 = .ok (.if_icmp .gt 29, 3) := by decide +kernel
theorem dX10_number_36 : decode cX10_number 36 = .ok (.bipush 10, 2) := by decide +kernel
theorem dX10_number_38 : decode cX10_number 38 = .ok (.iload_n 3, 1) := by decide +kernel
theorem dX10_number_39 : decode cX10_number 39 = .ok (.imul, 1) := by decide +kernel
theorem dX10_number_40 : decode cX10_number 40 = .ok (.aload_n 0, 1) := by decide +kernel
theorem dX10_number_41 : decode cX10_number 41 = .ok (.invokevirtual 231, 3) := by decide +kernel
theorem dX10_number_44 : decode cX10_number 44 = .ok (.iadd, 1) := by decide +kernel
theorem dX10_number_45 : decode cX10_number 45 = .ok (.bipush 48, 2) := by decide +kernel
theorem dX10_number_47 : decode cX10_number 47 = .ok (.isub, 1) := by decide +kernel
theorem dX10_number_48 : decode cX10_number 48 = .ok (.istore_n 3, 1) := by decide +kernel
theorem dX10_number_49 : decode cX10_number 49 = .ok (.aload_n 0, 1) := by decide +kernel
theorem dX10_number_50 : decode cX10_number 50 = .ok (.dup, 1) := by decide +kernel
theorem dX10_number_51 : decode cX10_number 51 = .ok (.getfield 228, 3) := by decide +kernel
theorem dX10_number_54 : decode cX10_number 54 = .ok (.iconst 1, 1) := by decide +kernel
theorem dX10_number_55 : decode cX10_number 55 = .ok (.iadd, 1) := by decide +kernel
theorem dX10_number_56 : decode cX10_number 56 = .ok (.putfield 228, 3) := by decide +kernel
theorem dX10_number_59 : decode cX10_number 59 = .ok (.goto (-52), 3) := by decide +kernel
theorem dX10_number_62 : decode cX10_number 62 = .ok (.aload_n 0, 1) := by decide +kernel
theorem dX10_number_63 : decode cX10_number 63 = .ok (.getfield 228, 3) := by decide +kernel
theorem dX10_number_66 : decode cX10_number 66 = .ok (.iload_n 2, 1) := by decide +kernel
theorem dX10_number_67 : decode cX10_number 67 = .ok (.if_icmp .ne 14, 3) := by decide +kernel
theorem dX10_number_70 : decode cX10_number 70 = .ok (.aload_n 0, 1) := by decide +kernel
theorem dX10_number_71 : decode cX10_number 71 = .ok (.aload_n 0, 1) := by decide +kernel
theorem dX10_number_72 : decode cX10_number 72 = .ok (.getfield 228, 3) := by decide +kernel
theorem dX10_number_75 : decode cX10_number 75 = .ok (.invokevirtual 235, 3) := by decide +kernel
theorem dX10_number_78 : decode cX10_number 78 = .ok (.goto 13, 3) := by decide +kernel
theorem dX10_number_81 : decode cX10_number 81 = .ok (.iload_n 3, 1) := by decide +kernel
theorem dX10_number_82 : decode cX10_number 82 = .ok (.iload_n 1, 1) := by decide +kernel
theorem dX10_number_83 : decode cX10_number 83 = .ok (.if_icmp .le 8, 3) := by decide +kernel
theorem dX10_number_86 : decode cX10_number 86 = .ok (.aload_n 0, 1) := by decide +kernel
theorem dX10_number_87 : decode cX10_number 87 = .ok (.iload_n 2, 1) := by decide +kernel
theorem dX10_number_88 : decode cX10_number 88 = .ok (.invokevirtual 235, 3) := by decide +kernel
theorem dX10_number_91 : decode cX10_number 91 = .ok (.iload_n 3, 1) := by decide +kernel
theorem dX10_number_92 : decode cX10_number 92 = .ok (.ireturn, 1) := by decide +kernel
theorem dX10_blank_0 : decode cX10_blank 0 = .ok (.aload_n 0, 1) := by decide +kernel
theorem dX10_blank_1 : decode cX10_blank 1 = .ok (.invokevirtual 231, 3) := by decide +kernel
theorem dX10_blank_4 : decode cX10_blank 4 = .ok (.bipush 32, 2) := by decide +kernel
theorem dX10_blank_6 : decode cX10_blank 6 = .ok (.if_icmp .ne 16, 3) := by decide +kernel
theorem dX10_blank_9 : decode cX10_blank 9 = .ok (.aload_n 0, 1) := by decide +kernel
theorem dX10_blank_10 : decode cX10_blank 10 = .ok (.dup, 1) := by decide +kernel
theorem dX10_blank_11 : decode cX10_blank 11 = .ok (.getfield 228, 3) := by decide +kernel
theorem dX10_blank_14 : decode cX10_blank 14 = .ok (.iconst 1, 1) := by decide +kernel
theorem dX10_blank_15 : decode cX10_blank 15 = .ok (.iadd, 1) := by decide +kernel
theorem dX10_blank_16 : decode cX10_blank 16 = .ok (.putfield 228, 3) := by decide +kernel
theorem dX10_blank_19 : decode cX10_blank 19 = .ok (.goto 11, 3) := by decide +kernel
theorem dX10_blank_22 : decode cX10_blank 22 = .ok (.aload_n 0, 1) := by decide +kernel
theorem dX10_blank_23 : decode cX10_blank 23 = .ok (.aload_n 0, 1) := by decide +kernel
theorem dX10_blank_24 : decode cX10_blank 24 = .ok (.getfield 228, 3) := by decide +kernel
theorem dX10_blank_27 : decode cX10_blank 27 = .ok (.invokevirtual 235, 3) := by decide +kernel
theorem dX10_blank_30 : decode cX10_blank 30 = .ok (.return_, 1) := by decide +kernel
theorem dX10_readStop_0 : decode cX10_readStop 0 = .ok (.aload_n 0, 1) := by decide +kernel
theorem dX10_readStop_1 : decode cX10_readStop 1 = .ok (.getfield 228, 3) := by decide +kernel
theorem dX10_readStop_4 : decode cX10_readStop 4 = .ok (.istore_n 2, 1) := by decide +kernel
theorem dX10_readStop_5 : decode cX10_readStop 5 = .ok (.aload_n 0, 1) := by decide +kernel
theorem dX10_readStop_6 : decode cX10_readStop 6 = .ok (.dup, 1) := by decide +kernel
theorem dX10_readStop_7 : decode cX10_readStop 7 = .ok (.getfield 228, 3) := by decide +kernel
theorem dX10_readStop_10 : decode cX10_readStop 10 = .ok (.iconst 1, 1) := by decide +kernel
theorem dX10_readStop_11 : decode cX10_readStop 11 = .ok (.iadd, 1) := by decide +kernel
theorem dX10_readStop_12 : decode cX10_readStop 12 = .ok (.putfield 228, 3) := by decide +kernel
theorem dX10_readStop_15 : decode cX10_readStop 15 = .ok (.iload_n 1, 1) := by decide +kernel
theorem dX10_readStop_16 : decode cX10_readStop 16 = .ok (.ifCond .lt 14, 3) := by decide +kernel
theorem dX10_readStop_19 : decode cX10_readStop 19 = .ok (.aload_n 0, 1) := by decide +kernel
theorem dX10_readStop_20 : decode cX10_readStop 20 = .ok (.getfield 13, 3) := by decide +kernel
theorem dX10_readStop_23 : decode cX10_readStop 23 = .ok (.iload_n 1, 1) := by decide +kernel
theorem dX10_readStop_24 : decode cX10_readStop 24 = .ok (.iaload, 1) := by decide +kernel
theorem dX10_readStop_25 : decode cX10_readStop 25 = .ok (.bipush 12, 2) := by decide +kernel
theorem dX10_readStop_27 : decode cX10_readStop 27 = .ok (.if_icmp .ne 9, 3) := by decide +kernel
theorem dX10_readStop_30 : decode cX10_readStop 30 = .ok (.aload_n 0, 1) := by decide +kernel
theorem dX10_readStop_31 : decode cX10_readStop 31 = .ok (.iload_n 2, 1) := by decide +kernel
theorem dX10_readStop_32 : decode cX10_readStop 32 = .ok (.invokevirtual 235, 3) := by decide +kernel
theorem dX10_readStop_35 : decode cX10_readStop 35 = .ok (.return_, 1) := by decide +kernel
theorem dX10_readStop_36 : decode cX10_readStop 36 = .ok (.aload_n 0, 1) := by decide +kernel
theorem dX10_readStop_37 : decode cX10_readStop 37 = .ok (.bipush 99, 2) := by decide +kernel
theorem dX10_readStop_39 : decode cX10_readStop 39 = .ok (.invokevirtual 239, 3) := by decide +kernel
theorem dX10_readStop_42 : decode cX10_readStop 42 = .ok (.istore_n 3, 1) := by decide +kernel
theorem dX10_readStop_43 : decode cX10_readStop 43 = .ok (.aload_n 0, 1) := by decide +kernel
theorem dX10_readStop_44 : decode cX10_readStop 44 = .ok (.invokevirtual 243, 3) := by decide +kernel
theorem dX10_readStop_47 : decode cX10_readStop 47 = .ok (.aload_n 0, 1) := by decide +kernel
theorem dX10_readStop_48 : decode cX10_readStop 48 = .ok (.getfield 228, 3) := by decide +kernel
theorem dX10_readStop_51 : decode cX10_readStop 51 = .ok (.istore 4, 2) := by decide +kernel
theorem dX10_readStop_53 : decode cX10_readStop 53 = .ok (.aload_n 0, 1) := by decide +kernel
theorem dX10_readStop_54 : decode cX10_readStop 54 = .ok (.ldc 246, 2) := by decide +kernel
theorem dX10_readStop_56 : decode cX10_readStop 56 = .ok (.invokevirtual 239, 3) := by decide +kernel
theorem dX10_readStop_59 : decode cX10_readStop 59 = .ok (.istore 5, 2) := by decide +kernel
theorem dX10_readStop_61 : decode cX10_readStop 61 = .ok (.aload_n 0, 1) := by decide +kernel
theorem dX10_readStop_62 : decode cX10_readStop 62 = .ok (.getfield 13, 3) := by decide +kernel
theorem dX10_readStop_65 : decode cX10_readStop 65 = .ok (.iload_n 1, 1) := by decide +kernel
theorem dX10_readStop_66 : decode cX10_readStop 66 = .ok (.iaload, 1) := by decide +kernel
theorem dX10_readStop_67 : decode cX10_readStop 67 = .ok (.ifCond .le 34, 3) := by decide +kernel
theorem dX10_readStop_70 : decode cX10_readStop 70 = .ok (.iload 5, 2) := by decide +kernel
theorem dX10_readStop_72 : decode cX10_readStop 72 = .ok (.i2l, 1) := by decide +kernel
theorem dX10_readStop_73 : decode cX10_readStop 73 = .ok (.aload_n 0, 1) := by decide +kernel
theorem dX10_readStop_74 : decode cX10_readStop 74 = .ok (.getfield 23, 3) := by decide +kernel
theorem dX10_readStop_77 : decode cX10_readStop 77 = .ok (.bipush 12, 2) := by decide +kernel
theorem dX10_readStop_79 : decode cX10_readStop 79 = .ok (.iload_n 1, 1) := by decide +kernel
theorem dX10_readStop_80 : decode cX10_readStop 80 = .ok (.imul, 1) := by decide +kernel
theorem dX10_readStop_81 : decode cX10_readStop 81 = .ok (.aload_n 0, 1) := by decide +kernel
theorem dX10_readStop_82 : decode cX10_readStop 82 = .ok (.getfield 13, 3) := by decide +kernel
theorem dX10_readStop_85 : decode cX10_readStop 85 = .ok (.iload_n 1, 1) := by decide +kernel
theorem dX10_readStop_86 : decode cX10_readStop 86 = .ok (.iaload, 1) := by decide +kernel
theorem dX10_readStop_87 : decode cX10_readStop 87 = .ok (.iadd, 1) := by decide +kernel
theorem dX10_readStop_88 : decode cX10_readStop 88 = .ok (.iconst 1, 1) := by decide +kernel
theorem dX10_readStop_89 : decode cX10_readStop 89 = .ok (.isub, 1) := by decide +kernel
theorem dX10_readStop_90 : decode cX10_readStop 90 = .ok (.laload, 1) := by decide +kernel
theorem dX10_readStop_91 : decode cX10_readStop 91 = .ok (.lcmp, 1) := by decide +kernel
theorem dX10_readStop_92 : decode cX10_readStop 92 = .ok (.ifCond .ge 9, 3) := by decide +kernel
theorem dX10_readStop_95 : decode cX10_readStop 95 = .ok (.aload_n 0, 1) := by decide +kernel
theorem dX10_readStop_96 : decode cX10_readStop 96 = .ok (.iload 4, 2) := by decide +kernel
theorem dX10_readStop_98 : decode cX10_readStop 98 = .ok (.invokevirtual 235, 3) := by decide +kernel
theorem dX10_readStop_101 : decode cX10_readStop 101 = .ok (.aload_n 0, 1) := by decide +kernel
theorem dX10_readStop_102 : decode cX10_readStop 102 = .ok (.invokevirtual 243, 3) := by decide +kernel
theorem dX10_readStop_105 : decode cX10_readStop 105 = .ok (.aload_n 0, 1) := by decide +kernel
theorem dX10_readStop_106 : decode cX10_readStop 106 = .ok (.getfield 228, 3) := by decide +kernel
theorem dX10_readStop_109 : decode cX10_readStop 109 = .ok (.istore 6, 2) := by decide +kernel
theorem dX10_readStop_111 : decode cX10_readStop 111 = .ok (.aload_n 0, 1) := by decide +kernel
theorem dX10_readStop_112 : decode cX10_readStop 112 = .ok (.ldc 246, 2) := by decide +kernel
theorem dX10_readStop_114 : decode cX10_readStop 114 = .ok (.invokevirtual 239, 3) := by decide +kernel
theorem dX10_readStop_117 : decode cX10_readStop 117 = .ok (.istore 7, 2) := by decide +kernel
theorem dX10_readStop_119 : decode cX10_readStop 119 = .ok (.iload 7, 2) := by decide +kernel
theorem dX10_readStop_121 : decode cX10_readStop 121 = .ok (.iload 5, 2) := by decide +kernel
theorem dX10_readStop_123 : decode cX10_readStop 123 = .ok (.if_icmp .ge 9, 3) := by decide +kernel
theorem dX10_readStop_126 : decode cX10_readStop 126 = .ok (.aload_n 0, 1) := by decide +kernel
theorem dX10_readStop_127 : decode cX10_readStop 127 = .ok (.iload 6, 2) := by decide +kernel
theorem dX10_readStop_129 : decode cX10_readStop 129 = .ok (.invokevirtual 235, 3) := by decide +kernel
theorem dX10_readStop_132 : decode cX10_readStop 132 = .ok (.aload_n 0, 1) := by decide +kernel
theorem dX10_readStop_133 : decode cX10_readStop 133 = .ok (.getfield 225, 3) := by decide +kernel
theorem dX10_readStop_136 : decode cX10_readStop 136 = .ok (.ifCond .ge 15, 3) := by decide +kernel
theorem dX10_readStop_139 : decode cX10_readStop 139 = .ok (.aload_n 0, 1) := by decide +kernel
theorem dX10_readStop_140 : decode cX10_readStop 140 = .ok (.iload_n 1, 1) := by decide +kernel
theorem dX10_readStop_141 : decode cX10_readStop 141 = .ok (.iload_n 3, 1) := by decide +kernel
theorem dX10_readStop_142 : decode cX10_readStop 142 = .ok (.iload 5, 2) := by decide +kernel
theorem dX10_readStop_144 : decode cX10_readStop 144 = .ok (.i2l, 1) := by decide +kernel
theorem dX10_readStop_145 : decode cX10_readStop 145 = .ok (.iload 7, 2) := by decide +kernel
theorem dX10_readStop_147 : decode cX10_readStop 147 = .ok (.i2l, 1) := by decide +kernel
theorem dX10_readStop_148 : decode cX10_readStop 148 = .ok (.invokevirtual 124, 3) := by decide +kernel
theorem dX10_readStop_151 : decode cX10_readStop 151 = .ok (.return_, 1) := by decide +kernel
theorem dX10_read_0 : decode cX10_read 0 = .ok (.aload_n 0, 1) := by decide +kernel
theorem dX10_read_1 : decode cX10_read 1 = .ok (.iconst 0, 1) := by decide +kernel
theorem dX10_read_2 : decode cX10_read 2 = .ok (.putfield 100, 3) := by decide +kernel
theorem dX10_read_5 : decode cX10_read 5 = .ok (.aload_n 0, 1) := by decide +kernel
theorem dX10_read_6 : decode cX10_read 6 = .ok (.getfield 96, 3) := by decide +kernel
theorem dX10_read_9 : decode cX10_read 9 = .ok (.istore_n 1, 1) := by decide +kernel
theorem dX10_read_10 : decode cX10_read 10 = .ok (.iconst (-1), 1) := by decide +kernel
theorem dX10_read_11 : decode cX10_read 11 = .ok (.istore_n 2, 1) := by decide +kernel
theorem dX10_read_12 : decode cX10_read 12 = .ok (.aload_n 0, 1) := by decide +kernel
theorem dX10_read_13 : decode cX10_read 13 = .ok (.iconst 0, 1) := by decide +kernel
theorem dX10_read_14 : decode cX10_read 14 = .ok (.putfield 228, 3) := by decide +kernel
theorem dX10_read_17 : decode cX10_read 17 = .ok (.aload_n 0, 1) := by decide +kernel
theorem dX10_read_18 : decode cX10_read 18 = .ok (.iconst (-1), 1) := by decide +kernel
theorem dX10_read_19 : decode cX10_read 19 = .ok (.putfield 225, 3) := by decide +kernel
theorem dX10_read_22 : decode cX10_read 22 = .ok (.aload_n 0, 1) := by decide +kernel
theorem dX10_read_23 : decode cX10_read 23 = .ok (.getfield 222, 3) := by decide +kernel
theorem dX10_read_26 : decode cX10_read 26 = .ok (.ifCond .le 7, 3) := by decide +kernel
theorem dX10_read_29 : decode cX10_read 29 = .ok (.iconst 1, 1) := by decide +kernel
theorem dX10_read_30 : decode cX10_read 30 = .ok (.goto 4, 3) := by decide +kernel
theorem dX10_read_33 : decode cX10_read 33 = .ok (.iconst 0, 1) := by decide +kernel
theorem dX10_read_34 : decode cX10_read 34 = .ok (.istore_n 3, 1) := by decide +kernel
theorem dX10_read_35 : decode cX10_read 35 = .ok (.iload_n 3, 1) := by decide +kernel
theorem dX10_read_36 : decode cX10_read 36 = .ok (.ifCond .eq 179, 3) := by decide +kernel
theorem dX10_read_39 : decode cX10_read 39 = .ok (.aload_n 0, 1) := by decide +kernel
theorem dX10_read_40 : decode cX10_read 40 = .ok (.invokevirtual 231, 3) := by decide +kernel
theorem dX10_read_43 : decode cX10_read 43 = .ok (.bipush 76, 2) := by decide +kernel
theorem dX10_read_45 : decode cX10_read 45 = .ok (.if_icmp .ne 78, 3) := by decide +kernel
theorem dX10_read_48 : decode cX10_read 48 = .ok (.aload_n 0, 1) := by decide +kernel
theorem dX10_read_49 : decode cX10_read 49 = .ok (.getfield 96, 3) := by decide +kernel
theorem dX10_read_52 : decode cX10_read 52 = .ok (.bipush 40, 2) := by decide +kernel
theorem dX10_read_54 : decode cX10_read 54 = .ok (.if_icmp .ne 11, 3) := by decide +kernel
theorem dX10_read_57 : decode cX10_read 57 = .ok (.aload_n 0, 1) := by decide +kernel
theorem dX10_read_58 : decode cX10_read 58 = .ok (.aload_n 0, 1) := by decide +kernel
theorem dX10_read_59 : decode cX10_read 59 = .ok (.getfield 228, 3) := by decide +kernel
theorem dX10_read_62 : decode cX10_read 62 = .ok (.invokevirtual 235, 3) := by decide +kernel
theorem dX10_read_65 : decode cX10_read 65 = .ok (.aload_n 0, 1) := by decide +kernel
theorem dX10_read_66 : decode cX10_read 66 = .ok (.dup, 1) := by decide +kernel
theorem dX10_read_67 : decode cX10_read 67 = .ok (.getfield 228, 3) := by decide +kernel
theorem dX10_read_70 : decode cX10_read 70 = .ok (.iconst 1, 1) := by decide +kernel
theorem dX10_read_71 : decode cX10_read 71 = .ok (.iadd, 1) := by decide +kernel
theorem dX10_read_72 : decode cX10_read 72 = .ok (.putfield 228, 3) := by decide +kernel
theorem dX10_read_75 : decode cX10_read 75 = .ok (.aload_n 0, 1) := by decide +kernel
theorem dX10_read_76 : decode cX10_read 76 = .ok (.bipush 127, 2) := by decide +kernel
theorem dX10_read_78 : decode cX10_read 78 = .ok (.invokevirtual 239, 3) := by decide +kernel
theorem dX10_read_81 : decode cX10_read 81 = .ok (.istore 4, 2) := by decide +kernel
theorem dX10_read_83 : decode cX10_read 83 = .ok (.aload_n 0, 1) := by decide +kernel
theorem dX10_read_84 : decode cX10_read 84 = .ok (.getfield 225, 3) := by decide +kernel
theorem dX10_read_87 : decode cX10_read 87 = .ok (.ifCond .ge 33, 3) := by decide +kernel
theorem dX10_read_90 : decode cX10_read 90 = .ok (.aload_n 0, 1) := by decide +kernel
theorem dX10_read_91 : decode cX10_read 91 = .ok (.getfield 96, 3) := by decide +kernel
theorem dX10_read_94 : decode cX10_read 94 = .ok (.istore_n 2, 1) := by decide +kernel
theorem dX10_read_95 : decode cX10_read 95 = .ok (.aload_n 0, 1) := by decide +kernel
theorem dX10_read_96 : decode cX10_read 96 = .ok (.getfield 7, 3) := by decide +kernel
theorem dX10_read_99 : decode cX10_read 99 = .ok (.iload_n 2, 1) := by decide +kernel
theorem dX10_read_100 : decode cX10_read 100 = .ok (.iload 4, 2) := by decide +kernel
theorem dX10_read_102 : decode cX10_read 102 = .ok (.iastore, 1) := by decide +kernel
theorem dX10_read_103 : decode cX10_read 103 = .ok (.aload_n 0, 1) := by decide +kernel
theorem dX10_read_104 : decode cX10_read 104 = .ok (.getfield 13, 3) := by decide +kernel
theorem dX10_read_107 : decode cX10_read 107 = .ok (.iload_n 2, 1) := by decide +kernel
theorem dX10_read_108 : decode cX10_read 108 = .ok (.iconst 0, 1) := by decide +kernel
theorem dX10_read_109 : decode cX10_read 109 = .ok (.iastore, 1) := by decide +kernel
theorem dX10_read_110 : decode cX10_read 110 = .ok (.aload_n 0, 1) := by decide +kernel
theorem dX10_read_111 : decode cX10_read 111 = .ok (.dup, 1) := by decide +kernel
theorem dX10_read_112 : decode cX10_read 112 = .ok (.getfield 96, 3) := by decide +kernel
theorem dX10_read_115 : decode cX10_read 115 = .ok (.iconst 1, 1) := by decide +kernel
theorem dX10_read_116 : decode cX10_read 116 = .ok (.iadd, 1) := by decide +kernel
theorem dX10_read_117 : decode cX10_read 117 = .ok (.putfield 96, 3) := by decide +kernel
theorem dX10_read_120 : decode cX10_read 120 = .ok (.goto 28, 3) := by decide +kernel
theorem dX10_read_123 : decode cX10_read 123 = .ok (.aload_n 0, 1) := by decide +kernel
theorem dX10_read_124 : decode cX10_read 124 = .ok (.invokevirtual 231, 3) := by decide +kernel
theorem dX10_read_127 : decode cX10_read 127 = .ok (.bipush 83, 2) := by decide +kernel
theorem dX10_read_129 : decode cX10_read 129 = .ok (.if_icmp .ne 11, 3) := by decide +kernel
theorem dX10_read_132 : decode cX10_read 132 = .ok (.aload_n 0, 1) := by decide +kernel
theorem dX10_read_133 : decode cX10_read 133 = .ok (.iload_n 2, 1) := by decide +kernel
theorem dX10_read_134 : decode cX10_read 134 = .ok (.invokevirtual 247, 3) := by decide +kernel
theorem dX10_read_137 : decode cX10_read 137 = .ok (.goto 11, 3) := by decide +kernel
theorem dX10_read_140 : decode cX10_read 140 = .ok (.aload_n 0, 1) := by decide +kernel
theorem dX10_read_141 : decode cX10_read 141 = .ok (.aload_n 0, 1) := by decide +kernel
theorem dX10_read_142 : decode cX10_read 142 = .ok (.getfield 228, 3) := by decide +kernel
theorem dX10_read_145 : decode cX10_read 145 = .ok (.invokevirtual 235, 3) := by decide +kernel
theorem dX10_read_148 : decode cX10_read 148 = .ok (.aload_n 0, 1) := by decide +kernel
theorem dX10_read_149 : decode cX10_read 149 = .ok (.getfield 225, 3) := by decide +kernel
theorem dX10_read_152 : decode cX10_read 152 = .ok (.ifCond .ge 18, 3) := by decide +kernel
theorem dX10_read_155 : decode cX10_read 155 = .ok (.aload_n 0, 1) := by decide +kernel
theorem dX10_read_156 : decode cX10_read 156 = .ok (.getfield 228, 3) := by decide +kernel
theorem dX10_read_159 : decode cX10_read 159 = .ok (.aload_n 0, 1) := by decide +kernel
theorem dX10_read_160 : decode cX10_read 160 = .ok (.getfield 222, 3) := by decide +kernel
theorem dX10_read_163 : decode cX10_read 163 = .ok (.if_icmp .ge 7, 3) := by decide +kernel
theorem dX10_read_166 : decode cX10_read 166 = .ok (.iconst 1, 1) := by decide +kernel
