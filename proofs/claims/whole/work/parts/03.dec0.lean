theorem dX0_init_0 : decode cX0_init 0 = .ok (.aload_n 0, 1) := by decide +kernel
theorem dX0_init_1 : decode cX0_init 1 = .ok (.invokespecial 1, 3) := by decide +kernel
theorem dX0_init_4 : decode cX0_init 4 = .ok (.aload_n 0, 1) := by decide +kernel
theorem dX0_init_5 : decode cX0_init 5 = .ok (.iload_n 1, 1) := by decide +kernel
theorem dX0_init_6 : decode cX0_init 6 = .ok (.putfield 7, 3) := by decide +kernel
theorem dX0_init_9 : decode cX0_init 9 = .ok (.aload_n 0, 1) := by decide +kernel
theorem dX0_init_10 : decode cX0_init 10 = .ok (.iload_n 2, 1) := by decide +kernel
theorem dX0_init_11 : decode cX0_init 11 = .ok (.putfield 13, 3) := by decide +kernel
theorem dX0_init_14 : decode cX0_init 14 = .ok (.aload_n 0, 1) := by decide +kernel
theorem dX0_init_15 : decode cX0_init 15 = .ok (.aload_n 3, 1) := by decide +kernel
theorem dX0_init_16 : decode cX0_init 16 = .ok (.putfield 17, 3) := by decide +kernel
theorem dX0_init_19 : decode cX0_init 19 = .ok (.return_, 1) := by decide +kernel
theorem dX1_init_0 : decode cX1_init 0 = .ok (.aload_n 0, 1) := by decide +kernel
theorem dX1_init_1 : decode cX1_init 1 = .ok (.invokespecial 1, 3) := by decide +kernel
theorem dX1_init_4 : decode cX1_init 4 = .ok (.aload_n 0, 1) := by decide +kernel
theorem dX1_init_5 : decode cX1_init 5 = .ok (.iload_n 1, 1) := by decide +kernel
theorem dX1_init_6 : decode cX1_init 6 = .ok (.putfield 7, 3) := by decide +kernel
theorem dX1_init_9 : decode cX1_init 9 = .ok (.aload_n 0, 1) := by decide +kernel
theorem dX1_init_10 : decode cX1_init 10 = .ok (.iload_n 2, 1) := by decide +kernel
theorem dX1_init_11 : decode cX1_init 11 = .ok (.putfield 13, 3) := by decide +kernel
theorem dX1_init_14 : decode cX1_init 14 = .ok (.aload_n 0, 1) := by decide +kernel
theorem dX1_init_15 : decode cX1_init 15 = .ok (.iload_n 3, 1) := by decide +kernel
theorem dX1_init_16 : decode cX1_init 16 = .ok (.putfield 16, 3) := by decide +kernel
theorem dX1_init_19 : decode cX1_init 19 = .ok (.aload_n 0, 1) := by decide +kernel
theorem dX1_init_20 : decode cX1_init 20 = .ok (.aload 4, 2) := by decide +kernel
theorem dX1_init_22 : decode cX1_init 22 = .ok (.putfield 19, 3) := by decide +kernel
theorem dX1_init_25 : decode cX1_init 25 = .ok (.return_, 1) := by decide +kernel
theorem dX2_init_0 : decode cX2_init 0 = .ok (.aload_n 0, 1) := by decide +kernel
theorem dX2_init_1 : decode cX2_init 1 = .ok (.invokespecial 3, 3) := by decide +kernel
theorem dX2_init_4 : decode cX2_init 4 = .ok (.aload_n 0, 1) := by decide +kernel
theorem dX2_init_5 : decode cX2_init 5 = .ok (.bipush 101, 2) := by decide +kernel
theorem dX2_init_7 : decode cX2_init 7 = .ok (.newarray .int, 2) := by decide +kernel
theorem dX2_init_9 : decode cX2_init 9 = .ok (.putfield 9, 3) := by decide +kernel
theorem dX2_init_12 : decode cX2_init 12 = .ok (.return_, 1) := by decide +kernel
theorem dX2_clear_0 : decode cX2_clear 0 = .ok (.aload_n 0, 1) := by decide +kernel
theorem dX2_clear_1 : decode cX2_clear 1 = .ok (.iload_n 1, 1) := by decide +kernel
theorem dX2_clear_2 : decode cX2_clear 2 = .ok (.aload_n 0, 1) := by decide +kernel
theorem dX2_clear_3 : decode cX2_clear 3 = .ok (.getfield 9, 3) := by decide +kernel
theorem dX2_clear_6 : decode cX2_clear 6 = .ok (.arraylength, 1) := by decide +kernel
theorem dX2_clear_7 : decode cX2_clear 7 = .ok (.invokestatic 15, 3) := by decide +kernel
theorem dX2_clear_10 : decode cX2_clear 10 = .ok (.putfield 21, 3) := by decide +kernel
theorem dX2_clear_13 : decode cX2_clear 13 = .ok (.aload_n 0, 1) := by decide +kernel
theorem dX2_clear_14 : decode cX2_clear 14 = .ok (.iconst 0, 1) := by decide +kernel
theorem dX2_clear_15 : decode cX2_clear 15 = .ok (.putfield 25, 3) := by decide +kernel
theorem dX2_clear_18 : decode cX2_clear 18 = .ok (.return_, 1) := by decide +kernel
theorem dX2_note_0 : decode cX2_note 0 = .ok (.aload_n 0, 1) := by decide +kernel
theorem dX2_note_1 : decode cX2_note 1 = .ok (.getfield 25, 3) := by decide +kernel
theorem dX2_note_4 : decode cX2_note 4 = .ok (.aload_n 0, 1) := by decide +kernel
theorem dX2_note_5 : decode cX2_note 5 = .ok (.getfield 21, 3) := by decide +kernel
theorem dX2_note_8 : decode cX2_note 8 = .ok (.if_icmp .ge 16, 3) := by decide +kernel
theorem dX2_note_11 : decode cX2_note 11 = .ok (.aload_n 0, 1) := by decide +kernel
theorem dX2_note_12 : decode cX2_note 12 = .ok (.dup, 1) := by decide +kernel
theorem dX2_note_13 : decode cX2_note 13 = .ok (.getfield 25, 3) := by decide +kernel
theorem dX2_note_16 : decode cX2_note 16 = .ok (.iconst 1, 1) := by decide +kernel
theorem dX2_note_17 : decode cX2_note 17 = .ok (.iadd, 1) := by decide +kernel
theorem dX2_note_18 : decode cX2_note 18 = .ok (.putfield 25, 3) := by decide +kernel
theorem dX2_note_21 : decode cX2_note 21 = .ok (.goto 26, 3) := by decide +kernel
theorem dX2_note_24 : decode cX2_note 24 = .ok (.aload_n 0, 1) := by decide +kernel
theorem dX2_note_25 : decode cX2_note 25 = .ok (.getfield 25, 3) := by decide +kernel
theorem dX2_note_28 : decode cX2_note 28 = .ok (.ifCond .eq 18, 3) := by decide +kernel
theorem dX2_note_31 : decode cX2_note 31 = .ok (.iload_n 1, 1) := by decide +kernel
theorem dX2_note_32 : decode cX2_note 32 = .ok (.aload_n 0, 1) := by decide +kernel
theorem dX2_note_33 : decode cX2_note 33 = .ok (.getfield 9, 3) := by decide +kernel
theorem dX2_note_36 : decode cX2_note 36 = .ok (.aload_n 0, 1) := by decide +kernel
theorem dX2_note_37 : decode cX2_note 37 = .ok (.getfield 25, 3) := by decide +kernel
theorem dX2_note_40 : decode cX2_note 40 = .ok (.iconst 1, 1) := by decide +kernel
theorem dX2_note_41 : decode cX2_note 41 = .ok (.isub, 1) := by decide +kernel
theorem dX2_note_42 : decode cX2_note 42 = .ok (.iaload, 1) := by decide +kernel
theorem dX2_note_43 : decode cX2_note 43 = .ok (.if_icmp .lt 4, 3) := by decide +kernel
theorem dX2_note_46 : decode cX2_note 46 = .ok (.return_, 1) := by decide +kernel
theorem dX2_note_47 : decode cX2_note 47 = .ok (.aload_n 0, 1) := by decide +kernel
theorem dX2_note_48 : decode cX2_note 48 = .ok (.getfield 25, 3) := by decide +kernel
theorem dX2_note_51 : decode cX2_note 51 = .ok (.iconst 1, 1) := by decide +kernel
theorem dX2_note_52 : decode cX2_note 52 = .ok (.isub, 1) := by decide +kernel
theorem dX2_note_53 : decode cX2_note 53 = .ok (.istore_n 2, 1) := by decide +kernel
theorem dX2_note_54 : decode cX2_note 54 = .ok (.iload_n 2, 1) := by decide +kernel
theorem dX2_note_55 : decode cX2_note 55 = .ok (.ifCond .le 35, 3) := by decide +kernel
theorem dX2_note_58 : decode cX2_note 58 = .ok (.aload_n 0, 1) := by decide +kernel
theorem dX2_note_59 : decode cX2_note 59 = .ok (.getfield 9, 3) := by decide +kernel
theorem dX2_note_62 : decode cX2_note 62 = .ok (.iload_n 2, 1) := by decide +kernel
theorem dX2_note_63 : decode cX2_note 63 = .ok (.iconst 1, 1) := by decide +kernel
theorem dX2_note_64 : decode cX2_note 64 = .ok (.isub, 1) := by decide +kernel
theorem dX2_note_65 : decode cX2_note 65 = .ok (.iaload, 1) := by decide +kernel
theorem dX2_note_66 : decode cX2_note 66 = .ok (.iload_n 1, 1) := by decide +kernel
theorem dX2_note_67 : decode cX2_note 67 = .ok (.if_icmp .le 23, 3) := by decide +kernel
theorem dX2_note_70 : decode cX2_note 70 = .ok (.aload_n 0, 1) := by decide +kernel
theorem dX2_note_71 : decode cX2_note 71 = .ok (.getfield 9, 3) := by decide +kernel
theorem dX2_note_74 : decode cX2_note 74 = .ok (.iload_n 2, 1) := by decide +kernel
theorem dX2_note_75 : decode cX2_note 75 = .ok (.aload_n 0, 1) := by decide +kernel
theorem dX2_note_76 : decode cX2_note 76 = .ok (.getfield 9, 3) := by decide +kernel
theorem dX2_note_79 : decode cX2_note 79 = .ok (.iload_n 2, 1) := by decide +kernel
theorem dX2_note_80 : decode cX2_note 80 = .ok (.iconst 1, 1) := by decide +kernel
theorem dX2_note_81 : decode cX2_note 81 = .ok (.isub, 1) := by decide +kernel
theorem dX2_note_82 : decode cX2_note 82 = .ok (.iaload, 1) := by decide +kernel
theorem dX2_note_83 : decode cX2_note 83 = .ok (.iastore, 1) := by decide +kernel
theorem dX2_note_84 : decode cX2_note 84 = .ok (.iinc 2 (-1), 3) := by decide +kernel
theorem dX2_note_87 : decode cX2_note 87 = .ok (.goto (-33), 3) := by decide +kernel
theorem dX2_note_90 : decode cX2_note 90 = .ok (.aload_n 0, 1) := by decide +kernel
theorem dX2_note_91 : decode cX2_note 91 = .ok (.getfield 9, 3) := by decide +kernel
theorem dX2_note_94 : decode cX2_note 94 = .ok (.iload_n 2, 1) := by decide +kernel
theorem dX2_note_95 : decode cX2_note 95 = .ok (.iload_n 1, 1) := by decide +kernel
theorem dX2_note_96 : decode cX2_note 96 = .ok (.iastore, 1) := by decide +kernel
theorem dX2_note_97 : decode cX2_note 97 = .ok (.return_, 1) := by decide +kernel
theorem dX3_init_0 : decode cX3_init 0 = .ok (.aload_n 0, 1) := by decide +kernel
theorem dX3_init_1 : decode cX3_init 1 = .ok (.invokespecial 3, 3) := by decide +kernel
theorem dX3_init_4 : decode cX3_init 4 = .ok (.aload_n 0, 1) := by decide +kernel
theorem dX3_init_5 : decode cX3_init 5 = .ok (.bipush 12, 2) := by decide +kernel
theorem dX3_init_7 : decode cX3_init 7 = .ok (.newarray .int, 2) := by decide +kernel
theorem dX3_init_9 : decode cX3_init 9 = .ok (.putfield 9, 3) := by decide +kernel
theorem dX3_init_12 : decode cX3_init 12 = .ok (.aload_n 0, 1) := by decide +kernel
theorem dX3_init_13 : decode cX3_init 13 = .ok (.bipush 12, 2) := by decide +kernel
theorem dX3_init_15 : decode cX3_init 15 = .ok (.newarray .int, 2) := by decide +kernel
theorem dX3_init_17 : decode cX3_init 17 = .ok (.putfield 15, 3) := by decide +kernel
theorem dX3_init_20 : decode cX3_init 20 = .ok (.aload_n 0, 1) := by decide +kernel
theorem dX3_init_21 : decode cX3_init 21 = .ok (.bipush 12, 2) := by decide +kernel
theorem dX3_init_23 : decode cX3_init 23 = .ok (.newarray .int, 2) := by decide +kernel
theorem dX3_init_25 : decode cX3_init 25 = .ok (.putfield 18, 3) := by decide +kernel
theorem dX3_init_28 : decode cX3_init 28 = .ok (.aload_n 0, 1) := by decide +kernel
theorem dX3_init_29 : decode cX3_init 29 = .ok (.bipush 13, 2) := by decide +kernel
theorem dX3_init_31 : decode cX3_init 31 = .ok (.newarray .boolean, 2) := by decide +kernel
theorem dX3_init_33 : decode cX3_init 33 = .ok (.putfield 21, 3) := by decide +kernel
theorem dX3_init_36 : decode cX3_init 36 = .ok (.aload_n 0, 1) := by decide +kernel
theorem dX3_init_37 : decode cX3_init 37 = .ok (.bipush 13, 2) := by decide +kernel
theorem dX3_init_39 : decode cX3_init 39 = .ok (.bipush 12, 2) := by decide +kernel
theorem dX3_init_41 : decode cX3_init 41 = .ok (.multianewarray 25 2, 4) := by decide +kernel
theorem dX3_init_45 : decode cX3_init 45 = .ok (.putfield 27, 3) := by decide +kernel
theorem dX3_init_48 : decode cX3_init 48 = .ok (.aload_n 0, 1) := by decide +kernel
theorem dX3_init_49 : decode cX3_init 49 = .ok (.bipush 13, 2) := by decide +kernel
theorem dX3_init_51 : decode cX3_init 51 = .ok (.bipush 12, 2) := by decide +kernel
theorem dX3_init_53 : decode cX3_init 53 = .ok (.multianewarray 25 2, 4) := by decide +kernel
theorem dX3_init_57 : decode cX3_init 57 = .ok (.putfield 30, 3) := by decide +kernel
theorem dX3_init_60 : decode cX3_init 60 = .ok (.aload_n 0, 1) := by decide +kernel
theorem dX3_init_61 : decode cX3_init 61 = .ok (.bipush 12, 2) := by decide +kernel
theorem dX3_init_63 : decode cX3_init 63 = .ok (.newarray .int, 2) := by decide +kernel
theorem dX3_init_65 : decode cX3_init 65 = .ok (.putfield 33, 3) := by decide +kernel
theorem dX3_init_68 : decode cX3_init 68 = .ok (.aload_n 0, 1) := by decide +kernel
theorem dX3_init_69 : decode cX3_init 69 = .ok (.iload_n 1, 1) := by decide +kernel
theorem dX3_init_70 : decode cX3_init 70 = .ok (.putfield 36, 3) := by decide +kernel
theorem dX3_init_73 : decode cX3_init 73 = .ok (.return_, 1) := by decide +kernel
theorem dX3_hasRoom_0 : decode cX3_hasRoom 0 = .ok (.aload_n 0, 1) := by decide +kernel
theorem dX3_hasRoom_1 : decode cX3_hasRoom 1 = .ok (.getfield 40, 3) := by decide +kernel
theorem dX3_hasRoom_4 : decode cX3_hasRoom 4 = .ok (.bipush 12, 2) := by decide +kernel
theorem dX3_hasRoom_6 : decode cX3_hasRoom 6 = .ok (.if_icmp .ge 7, 3) := by decide +kernel
theorem dX3_hasRoom_9 : decode cX3_hasRoom 9 = .ok (.iconst 1, 1) := by decide +kernel
theorem dX3_hasRoom_10 : decode cX3_hasRoom 10 = .ok (.goto 4, 3) := by decide +kernel
theorem dX3_hasRoom_13 : decode cX3_hasRoom 13 = .ok (.iconst 0, 1) := by decide +kernel
theorem dX3_hasRoom_14 : decode cX3_hasRoom 14 = .ok (.ireturn, 1) := by decide +kernel
theorem dX3_lastLeaving_0 : decode cX3_lastLeaving 0 = .ok (.aload_n 0, 1) := by decide +kernel
theorem dX3_lastLeaving_1 : decode cX3_lastLeaving 1 = .ok (.getfield 40, 3) := by decide +kernel
theorem dX3_lastLeaving_4 : decode cX3_lastLeaving 4 = .ok (.ifCond .ne 7, 3) := by decide +kernel
theorem dX3_lastLeaving_7 : decode cX3_lastLeaving 7 = .ok (.iconst 0, 1) := by decide +kernel
theorem dX3_lastLeaving_8 : decode cX3_lastLeaving 8 = .ok (.goto 14, 3) := by decide +kernel
theorem dX3_lastLeaving_11 : decode cX3_lastLeaving 11 = .ok (.aload_n 0, 1) := by decide +kernel
theorem dX3_lastLeaving_12 : decode cX3_lastLeaving 12 = .ok (.getfield 18, 3) := by decide +kernel
theorem dX3_lastLeaving_15 : decode cX3_lastLeaving 15 = .ok (.aload_n 0, 1) := by decide +kernel
theorem dX3_lastLeaving_16 : decode cX3_lastLeaving 16 = .ok (.getfield 40, 3) := by decide +kernel
theorem dX3_lastLeaving_19 : decode cX3_lastLeaving 19 = .ok (.iconst 1, 1) := by decide +kernel
theorem dX3_lastLeaving_20 : decode cX3_lastLeaving 20 = .ok (.isub, 1) := by decide +kernel
theorem dX3_lastLeaving_21 : decode cX3_lastLeaving 21 = .ok (.iaload, 1) := by decide +kernel
theorem dX3_lastLeaving_22 : decode cX3_lastLeaving 22 = .ok (.ireturn, 1) := by decide +kernel
theorem dX3_addStop_0 : decode cX3_addStop 0 = .ok (.aload_n 0, 1) := by decide +kernel
theorem dX3_addStop_1 : decode cX3_addStop 1 = .ok (.invokevirtual 43, 3) := by decide +kernel
theorem dX3_addStop_4 : decode cX3_addStop 4 = .ok (.ifCond .ne 4, 3) := by decide +kernel
theorem dX3_addStop_7 : decode cX3_addStop 7 = .ok (.return_, 1) := by decide +kernel
theorem dX3_addStop_8 : decode cX3_addStop 8 = .ok (.aload_n 0, 1) := by decide +kernel
theorem dX3_addStop_9 : decode cX3_addStop 9 = .ok (.getfield 9, 3) := by decide +kernel
theorem dX3_addStop_12 : decode cX3_addStop 12 = .ok (.aload_n 0, 1) := by decide +kernel
theorem dX3_addStop_13 : decode cX3_addStop 13 = .ok (.getfield 40, 3) := by decide +kernel
theorem dX3_addStop_16 : decode cX3_addStop 16 = .ok (.iload_n 1, 1) := by decide +kernel
theorem dX3_addStop_17 : decode cX3_addStop 17 = .ok (.iastore, 1) := by decide +kernel
theorem dX3_addStop_18 : decode cX3_addStop 18 = .ok (.aload_n 0, 1) := by decide +kernel
theorem dX3_addStop_19 : decode cX3_addStop 19 = .ok (.getfield 15, 3) := by decide +kernel
theorem dX3_addStop_22 : decode cX3_addStop 22 = .ok (.aload_n 0, 1) := by decide +kernel
theorem dX3_addStop_23 : decode cX3_addStop 23 = .ok (.getfield 40, 3) := by decide +kernel
theorem dX3_addStop_26 : decode cX3_addStop 26 = .ok (.iload_n 2, 1) := by decide +kernel
theorem dX3_addStop_27 : decode cX3_addStop 27 = .ok (.iastore, 1) := by decide +kernel
theorem dX3_addStop_28 : decode cX3_addStop 28 = .ok (.aload_n 0, 1) := by decide +kernel
theorem dX3_addStop_29 : decode cX3_addStop 29 = .ok (.getfield 18, 3) := by decide +kernel
theorem dX3_addStop_32 : decode cX3_addStop 32 = .ok (.aload_n 0, 1) := by decide +kernel
theorem dX3_addStop_33 : decode cX3_addStop 33 = .ok (.getfield 40, 3) := by decide +kernel
theorem dX3_addStop_36 : decode cX3_addStop 36 = .ok (.iload_n 3, 1) := by decide +kernel
theorem dX3_addStop_37 : decode cX3_addStop 37 = .ok (.iastore, 1) := by decide +kernel
theorem dX3_addStop_38 : decode cX3_addStop 38 = .ok (.aload_n 0, 1) := by decide +kernel
theorem dX3_addStop_39 : decode cX3_addStop 39 = .ok (.dup, 1) := by decide +kernel
theorem dX3_addStop_40 : decode cX3_addStop 40 = .ok (.getfield 40, 3) := by decide +kernel
theorem dX3_addStop_43 : decode cX3_addStop 43 = .ok (.iconst 1, 1) := by decide +kernel
theorem dX3_addStop_44 : decode cX3_addStop 44 = .ok (.iadd, 1) := by decide +kernel
theorem dX3_addStop_45 : decode cX3_addStop 45 = .ok (.putfield 40, 3) := by decide +kernel
theorem dX3_addStop_48 : decode cX3_addStop 48 = .ok (.return_, 1) := by decide +kernel
theorem dX3_wordFor_0 : decode cX3_wordFor 0 = .ok (.aload_n 0, 1) := by decide +kernel
theorem dX3_wordFor_1 : decode cX3_wordFor 1 = .ok (.getfield 47, 3) := by decide +kernel
theorem dX3_wordFor_4 : decode cX3_wordFor 4 = .ok (.astore_n 2, 1) := by decide +kernel
theorem dX3_wordFor_5 : decode cX3_wordFor 5 = .ok (.aload_n 2, 1) := by decide +kernel
theorem dX3_wordFor_6 : decode cX3_wordFor 6 = .ok (.ifnull 21, 3) := by decide +kernel
theorem dX3_wordFor_9 : decode cX3_wordFor 9 = .ok (.aload_n 2, 1) := by decide +kernel
theorem dX3_wordFor_10 : decode cX3_wordFor 10 = .ok (.getfield 51, 3) := by decide +kernel
theorem dX3_wordFor_13 : decode cX3_wordFor 13 = .ok (.iload_n 1, 1) := by decide +kernel
theorem dX3_wordFor_14 : decode cX3_wordFor 14 = .ok (.if_icmp .ne 5, 3) := by decide +kernel
theorem dX3_wordFor_17 : decode cX3_wordFor 17 = .ok (.aload_n 2, 1) := by decide +kernel
theorem dX3_wordFor_18 : decode cX3_wordFor 18 = .ok (.areturn, 1) := by decide +kernel
theorem dX3_wordFor_19 : decode cX3_wordFor 19 = .ok (.aload_n 2, 1) := by decide +kernel
theorem dX3_wordFor_20 : decode cX3_wordFor 20 = .ok (.getfield 56, 3) := by decide +kernel
theorem dX3_wordFor_23 : decode cX3_wordFor 23 = .ok (.astore_n 2, 1) := by decide +kernel
theorem dX3_wordFor_24 : decode cX3_wordFor 24 = .ok (.goto (-19), 3) := by decide +kernel
theorem dX3_wordFor_27 : decode cX3_wordFor 27 = .ok (.aconst_null, 1) := by decide +kernel
theorem dX3_wordFor_28 : decode cX3_wordFor 28 = .ok (.areturn, 1) := by decide +kernel
theorem dX3_workOutRuns_0 : decode cX3_workOutRuns 0 = .ok (.iconst 0, 1) := by decide +kernel
theorem dX3_workOutRuns_1 : decode cX3_workOutRuns 1 = .ok (.istore_n 3, 1) := by decide +kernel
theorem dX3_workOutRuns_2 : decode cX3_workOutRuns 2 = .ok (.iload_n 3, 1) := by decide +kernel
theorem dX3_workOutRuns_3 : decode cX3_workOutRuns 3 = .ok (.bipush 13, 2) := by decide +kernel
theorem dX3_workOutRuns_5 : decode cX3_workOutRuns 5 = .ok (.if_icmp .ge 40, 3) := by decide +kernel
theorem dX3_workOutRuns_8 : decode cX3_workOutRuns 8 = .ok (.aload_n 0, 1) := by decide +kernel
theorem dX3_workOutRuns_9 : decode cX3_workOutRuns 9 = .ok (.getfield 21, 3) := by decide +kernel
theorem dX3_workOutRuns_12 : decode cX3_workOutRuns 12 = .ok (.iload_n 3, 1) := by decide +kernel
theorem dX3_workOutRuns_13 : decode cX3_workOutRuns 13 = .ok (.aload_n 0, 1) := by decide +kernel
theorem dX3_workOutRuns_14 : decode cX3_workOutRuns 14 = .ok (.iload_n 1, 1) := by decide +kernel
theorem dX3_workOutRuns_15 : decode cX3_workOutRuns 15 = .ok (.iload_n 3, 1) := by decide +kernel
theorem dX3_workOutRuns_16 : decode cX3_workOutRuns 16 = .ok (.iadd, 1) := by decide +kernel
theorem dX3_workOutRuns_17 : decode cX3_workOutRuns 17 = .ok (.invokevirtual 59, 3) := by decide +kernel
theorem dX3_workOutRuns_20 : decode cX3_workOutRuns 20 = .ok (.bastore, 1) := by decide +kernel
theorem dX3_workOutRuns_21 : decode cX3_workOutRuns 21 = .ok (.aload_n 0, 1) := by decide +kernel
theorem dX3_workOutRuns_22 : decode cX3_workOutRuns 22 = .ok (.getfield 21, 3) := by decide +kernel
theorem dX3_workOutRuns_25 : decode cX3_workOutRuns 25 = .ok (.iload_n 3, 1) := by decide +kernel
theorem dX3_workOutRuns_26 : decode cX3_workOutRuns 26 = .ok (.baload, 1) := by decide +kernel
theorem dX3_workOutRuns_27 : decode cX3_workOutRuns 27 = .ok (.ifCond .eq 12, 3) := by decide +kernel
theorem dX3_workOutRuns_30 : decode cX3_workOutRuns 30 = .ok (.aload_n 0, 1) := by decide +kernel
theorem dX3_workOutRuns_31 : decode cX3_workOutRuns 31 = .ok (.iload_n 3, 1) := by decide +kernel
theorem dX3_workOutRuns_32 : decode cX3_workOutRuns 32 = .ok (.iload_n 1, 1) := by decide +kernel
theorem dX3_workOutRuns_33 : decode cX3_workOutRuns 33 = .ok (.iload_n 3, 1) := by decide +kernel
theorem dX3_workOutRuns_34 : decode cX3_workOutRuns 34 = .ok (.iadd, 1) := by decide +kernel
theorem dX3_workOutRuns_35 : decode cX3_workOutRuns 35 = .ok (.aload_n 2, 1) := by decide +kernel
theorem dX3_workOutRuns_36 : decode cX3_workOutRuns 36 = .ok (.invokevirtual 63, 3) := by decide +kernel
theorem dX3_workOutRuns_39 : decode cX3_workOutRuns 39 = .ok (.iinc 3 1, 3) := by decide +kernel
theorem dX3_workOutRuns_42 : decode cX3_workOutRuns 42 = .ok (.goto (-40), 3) := by decide +kernel
theorem dX3_workOutRuns_45 : decode cX3_workOutRuns 45 = .ok (.return_, 1) := by decide +kernel
theorem dX3_runsOn_0 : decode cX3_runsOn 0 = .ok (.iload_n 1, 1) := by decide +kernel
theorem dX3_runsOn_1 : decode cX3_runsOn 1 = .ok (.ifCond .ge 5, 3) := by decide +kernel
theorem dX3_runsOn_4 : decode cX3_runsOn 4 = .ok (.iconst 0, 1) := by decide +kernel
theorem dX3_runsOn_5 : decode cX3_runsOn 5 = .ok (.ireturn, 1) := by decide +kernel
theorem dX3_runsOn_6 : decode cX3_runsOn 6 = .ok (.aload_n 0, 1) := by decide +kernel
theorem dX3_runsOn_7 : decode cX3_runsOn 7 = .ok (.iload_n 1, 1) := by decide +kernel
theorem dX3_runsOn_8 : decode cX3_runsOn 8 = .ok (.invokevirtual 67, 3) := by decide +kernel
theorem dX3_runsOn_11 : decode cX3_runsOn 11 = .ok (.astore_n 2, 1) := by decide +kernel
theorem dX3_runsOn_12 : decode cX3_runsOn 12 = .ok (.aload_n 2, 1) := by decide +kernel
theorem dX3_runsOn_13 : decode cX3_runsOn 13 = .ok (.ifnull 8, 3) := by decide +kernel
theorem dX3_runsOn_16 : decode cX3_runsOn 16 = .ok (.aload_n 2, 1) := by decide +kernel
theorem dX3_runsOn_17 : decode cX3_runsOn 17 = .ok (.getfield 71, 3) := by decide +kernel
theorem dX3_runsOn_20 : decode cX3_runsOn 20 = .ok (.ireturn, 1) := by decide +kernel
theorem dX3_runsOn_21 : decode cX3_runsOn 21 = .ok (.aload_n 0, 1) := by decide +kernel
theorem dX3_runsOn_22 : decode cX3_runsOn 22 = .ok (.getfield 36, 3) := by decide +kernel
theorem dX3_runsOn_25 : decode cX3_runsOn 25 = .ok (.iload_n 1, 1) := by decide +kernel
theorem dX3_runsOn_26 : decode cX3_runsOn 26 = .ok (.bipush 7, 2) := by decide +kernel
theorem dX3_runsOn_28 : decode cX3_runsOn 28 = .ok (.irem, 1) := by decide +kernel
theorem dX3_runsOn_29 : decode cX3_runsOn 29 = .ok (.ishr, 1) := by decide +kernel
theorem dX3_runsOn_30 : decode cX3_runsOn 30 = .ok (.iconst 1, 1) := by decide +kernel
theorem dX3_runsOn_31 : decode cX3_runsOn 31 = .ok (.iand, 1) := by decide +kernel
theorem dX3_runsOn_32 : decode cX3_runsOn 32 = .ok (.iconst 1, 1) := by decide +kernel
theorem dX3_runsOn_33 : decode cX3_runsOn 33 = .ok (.if_icmp .ne 7, 3) := by decide +kernel
theorem dX3_runsOn_36 : decode cX3_runsOn 36 = .ok (.iconst 1, 1) := by decide +kernel
theorem dX3_runsOn_37 : decode cX3_runsOn 37 = .ok (.goto 4, 3) := by decide +kernel
theorem dX3_runsOn_40 : decode cX3_runsOn 40 = .ok (.iconst 0, 1) := by decide +kernel
theorem dX3_runsOn_41 : decode cX3_runsOn 41 = .ok (.ireturn, 1) := by decide +kernel
theorem dX3_workOutTimes_0 : decode cX3_workOutTimes 0 = .ok (.aload_n 0, 1) := by decide +kernel
theorem dX3_workOutTimes_1 : decode cX3_workOutTimes 1 = .ok (.iload_n 2, 1) := by decide +kernel
theorem dX3_workOutTimes_2 : decode cX3_workOutTimes 2 = .ok (.invokevirtual 74, 3) := by decide +kernel
theorem dX3_workOutTimes_5 : decode cX3_workOutTimes 5 = .ok (.ldc 78, 2) := by decide +kernel
theorem dX3_workOutTimes_7 : decode cX3_workOutTimes 7 = .ok (.iload_n 2, 1) := by decide +kernel
theorem dX3_workOutTimes_8 : decode cX3_workOutTimes 8 = .ok (.imul, 1) := by decide +kernel
theorem dX3_workOutTimes_9 : decode cX3_workOutTimes 9 = .ok (.istore 4, 2) := by decide +kernel
theorem dX3_workOutTimes_11 : decode cX3_workOutTimes 11 = .ok (.iconst 0, 1) := by decide +kernel
theorem dX3_workOutTimes_12 : decode cX3_workOutTimes 12 = .ok (.istore 5, 2) := by decide +kernel
theorem dX3_workOutTimes_14 : decode cX3_workOutTimes 14 = .ok (.iconst 0, 1) := by decide +kernel
theorem dX3_workOutTimes_15 : decode cX3_workOutTimes 15 = .ok (.istore 6, 2) := by decide +kernel
theorem dX3_workOutTimes_17 : decode cX3_workOutTimes 17 = .ok (.iload 6, 2) := by decide +kernel
theorem dX3_workOutTimes_19 : decode cX3_workOutTimes 19 = .ok (.aload_n 0, 1) := by decide +kernel
theorem dX3_workOutTimes_20 : decode cX3_workOutTimes 20 = .ok (.getfield 40, 3) := by decide +kernel
theorem dX3_workOutTimes_23 : decode cX3_workOutTimes 23 = .ok (.if_icmp .ge 84, 3) := by decide +kernel
theorem dX3_workOutTimes_26 : decode cX3_workOutTimes 26 = .ok (.iload 5, 2) := by decide +kernel
theorem dX3_workOutTimes_28 : decode cX3_workOutTimes 28 = .ok (.aload_n 0, 1) := by decide +kernel
theorem dX3_workOutTimes_29 : decode cX3_workOutTimes 29 = .ok (.getfield 33, 3) := by decide +kernel
theorem dX3_workOutTimes_32 : decode cX3_workOutTimes 32 = .ok (.iload 6, 2) := by decide +kernel
theorem dX3_workOutTimes_34 : decode cX3_workOutTimes 34 = .ok (.iaload, 1) := by decide +kernel
theorem dX3_workOutTimes_35 : decode cX3_workOutTimes 35 = .ok (.iadd, 1) := by decide +kernel
theorem dX3_workOutTimes_36 : decode cX3_workOutTimes 36 = .ok (.istore 5, 2) := by decide +kernel
theorem dX3_workOutTimes_38 : decode cX3_workOutTimes 38 = .ok (.iload 4, 2) := by decide +kernel
theorem dX3_workOutTimes_40 : decode cX3_workOutTimes 40 = .ok (.bipush 60, 2) := by decide +kernel
theorem dX3_workOutTimes_42 : decode cX3_workOutTimes 42 = .ok (.aload_n 3, 1) := by decide +kernel
theorem dX3_workOutTimes_43 : decode cX3_workOutTimes 43 = .ok (.aload_n 0, 1) := by decide +kernel
theorem dX3_workOutTimes_44 : decode cX3_workOutTimes 44 = .ok (.getfield 9, 3) := by decide +kernel
theorem dX3_workOutTimes_47 : decode cX3_workOutTimes 47 = .ok (.iload 6, 2) := by decide +kernel
theorem dX3_workOutTimes_49 : decode cX3_workOutTimes 49 = .ok (.iaload, 1) := by decide +kernel
theorem dX3_workOutTimes_50 : decode cX3_workOutTimes 50 = .ok (.aaload, 1) := by decide +kernel
theorem dX3_workOutTimes_51 : decode cX3_workOutTimes 51 = .ok (.iload 4, 2) := by decide +kernel
theorem dX3_workOutTimes_53 : decode cX3_workOutTimes 53 = .ok (.invokevirtual 79, 3) := by decide +kernel
theorem dX3_workOutTimes_56 : decode cX3_workOutTimes 56 = .ok (.imul, 1) := by decide +kernel
theorem dX3_workOutTimes_57 : decode cX3_workOutTimes 57 = .ok (.isub, 1) := by decide +kernel
theorem dX3_workOutTimes_58 : decode cX3_workOutTimes 58 = .ok (.iload 5, 2) := by decide +kernel
theorem dX3_workOutTimes_60 : decode cX3_workOutTimes 60 = .ok (.iadd, 1) := by decide +kernel
theorem dX3_workOutTimes_61 : decode cX3_workOutTimes 61 = .ok (.istore 7, 2) := by decide +kernel
theorem dX3_workOutTimes_63 : decode cX3_workOutTimes 63 = .ok (.aload_n 0, 1) := by decide +kernel
theorem dX3_workOutTimes_64 : decode cX3_workOutTimes 64 = .ok (.getfield 27, 3) := by decide +kernel
theorem dX3_workOutTimes_67 : decode cX3_workOutTimes 67 = .ok (.iload_n 1, 1) := by decide +kernel
theorem dX3_workOutTimes_68 : decode cX3_workOutTimes 68 = .ok (.aaload, 1) := by decide +kernel
theorem dX3_workOutTimes_69 : decode cX3_workOutTimes 69 = .ok (.iload 6, 2) := by decide +kernel
theorem dX3_workOutTimes_71 : decode cX3_workOutTimes 71 = .ok (.aload_n 0, 1) := by decide +kernel
theorem dX3_workOutTimes_72 : decode cX3_workOutTimes 72 = .ok (.getfield 15, 3) := by decide +kernel
theorem dX3_workOutTimes_75 : decode cX3_workOutTimes 75 = .ok (.iload 6, 2) := by decide +kernel
theorem dX3_workOutTimes_77 : decode cX3_workOutTimes 77 = .ok (.iaload, 1) := by decide +kernel
theorem dX3_workOutTimes_78 : decode cX3_workOutTimes 78 = .ok (.iload 7, 2) := by decide +kernel
theorem dX3_workOutTimes_80 : decode cX3_workOutTimes 80 = .ok (.iadd, 1) := by decide +kernel
theorem dX3_workOutTimes_81 : decode cX3_workOutTimes 81 = .ok (.iastore, 1) := by decide +kernel
theorem dX3_workOutTimes_82 : decode cX3_workOutTimes 82 = .ok (.aload_n 0, 1) := by decide +kernel
theorem dX3_workOutTimes_83 : decode cX3_workOutTimes 83 = .ok (.getfield 30, 3) := by decide +kernel
theorem dX3_workOutTimes_86 : decode cX3_workOutTimes 86 = .ok (.iload_n 1, 1) := by decide +kernel
theorem dX3_workOutTimes_87 : decode cX3_workOutTimes 87 = .ok (.aaload, 1) := by decide +kernel
theorem dX3_workOutTimes_88 : decode cX3_workOutTimes 88 = .ok (.iload 6, 2) := by decide +kernel
theorem dX3_workOutTimes_90 : decode cX3_workOutTimes 90 = .ok (.aload_n 0, 1) := by decide +kernel
theorem dX3_workOutTimes_91 : decode cX3_workOutTimes 91 = .ok (.getfield 18, 3) := by decide +kernel
theorem dX3_workOutTimes_94 : decode cX3_workOutTimes 94 = .ok (.iload 6, 2) := by decide +kernel
theorem dX3_workOutTimes_96 : decode cX3_workOutTimes 96 = .ok (.iaload, 1) := by decide +kernel
theorem dX3_workOutTimes_97 : decode cX3_workOutTimes 97 = .ok (.iload 7, 2) := by decide +kernel
theorem dX3_workOutTimes_99 : decode cX3_workOutTimes 99 = .ok (.iadd, 1) := by decide +kernel
theorem dX3_workOutTimes_100 : decode cX3_workOutTimes 100 = .ok (.iastore, 1) := by decide +kernel
theorem dX3_workOutTimes_101 : decode cX3_workOutTimes 101 = .ok (.iinc 6 1, 3) := by decide +kernel
theorem dX3_workOutTimes_104 : decode cX3_workOutTimes 104 = .ok (.goto (-87), 3) := by decide +kernel
theorem dX3_workOutTimes_107 : decode cX3_workOutTimes 107 = .ok (.return_, 1) := by decide +kernel
theorem dX3_gatherLate_0 : decode cX3_gatherLate 0 = .ok (.aload_n 0, 1) := by decide +kernel
theorem dX3_gatherLate_1 : decode cX3_gatherLate 1 = .ok (.getfield 33, 3) := by decide +kernel
theorem dX3_gatherLate_4 : decode cX3_gatherLate 4 = .ok (.iconst 0, 1) := by decide +kernel
theorem dX3_gatherLate_5 : decode cX3_gatherLate 5 = .ok (.invokestatic 85, 3) := by decide +kernel
theorem dX3_gatherLate_8 : decode cX3_gatherLate 8 = .ok (.aload_n 0, 1) := by decide +kernel
theorem dX3_gatherLate_9 : decode cX3_gatherLate 9 = .ok (.getfield 91, 3) := by decide +kernel
theorem dX3_gatherLate_12 : decode cX3_gatherLate 12 = .ok (.astore_n 2, 1) := by decide +kernel
theorem dX3_gatherLate_13 : decode cX3_gatherLate 13 = .ok (.aload_n 2, 1) := by decide +kernel
theorem dX3_gatherLate_14 : decode cX3_gatherLate 14 = .ok (.ifnull 35, 3) := by decide +kernel
theorem dX3_gatherLate_17 : decode cX3_gatherLate 17 = .ok (.aload_n 2, 1) := by decide +kernel
theorem dX3_gatherLate_18 : decode cX3_gatherLate 18 = .ok (.getfield 95, 3) := by decide +kernel
theorem dX3_gatherLate_21 : decode cX3_gatherLate 21 = .ok (.iload_n 1, 1) := by decide +kernel
theorem dX3_gatherLate_22 : decode cX3_gatherLate 22 = .ok (.if_icmp .ne 19, 3) := by decide +kernel
theorem dX3_gatherLate_25 : decode cX3_gatherLate 25 = .ok (.aload_n 0, 1) := by decide +kernel
theorem dX3_gatherLate_26 : decode cX3_gatherLate 26 = .ok (.getfield 33, 3) := by decide +kernel
theorem dX3_gatherLate_29 : decode cX3_gatherLate 29 = .ok (.aload_n 2, 1) := by decide +kernel
theorem dX3_gatherLate_30 : decode cX3_gatherLate 30 = .ok (.getfield 98, 3) := by decide +kernel
theorem dX3_gatherLate_33 : decode cX3_gatherLate 33 = .ok (.dup2, 1) := by decide +kernel
theorem dX3_gatherLate_34 : decode cX3_gatherLate 34 = .ok (.iaload, 1) := by decide +kernel
theorem dX3_gatherLate_35 : decode cX3_gatherLate 35 = .ok (.aload_n 2, 1) := by decide +kernel
theorem dX3_gatherLate_36 : decode cX3_gatherLate 36 = .ok (.getfield 101, 3) := by decide +kernel
theorem dX3_gatherLate_39 : decode cX3_gatherLate 39 = .ok (.iadd, 1) := by decide +kernel
theorem dX3_gatherLate_40 : decode cX3_gatherLate 40 = .ok (.iastore, 1) := by decide +kernel
theorem dX3_gatherLate_41 : decode cX3_gatherLate 41 = .ok (.aload_n 2, 1) := by decide +kernel
theorem dX3_gatherLate_42 : decode cX3_gatherLate 42 = .ok (.getfield 104, 3) := by decide +kernel
theorem dX3_gatherLate_45 : decode cX3_gatherLate 45 = .ok (.astore_n 2, 1) := by decide +kernel
theorem dX3_gatherLate_46 : decode cX3_gatherLate 46 = .ok (.goto (-33), 3) := by decide +kernel
theorem dX3_gatherLate_49 : decode cX3_gatherLate 49 = .ok (.return_, 1) := by decide +kernel
theorem dX4_init_0 : decode cX4_init 0 = .ok (.aload_n 0, 1) := by decide +kernel
theorem dX4_init_1 : decode cX4_init 1 = .ok (.invokespecial 3, 3) := by decide +kernel
theorem dX4_init_4 : decode cX4_init 4 = .ok (.aload_n 0, 1) := by decide +kernel
theorem dX4_init_5 : decode cX4_init 5 = .ok (.new 9, 3) := by decide +kernel
theorem dX4_init_8 : decode cX4_init 8 = .ok (.dup, 1) := by decide +kernel
theorem dX4_init_9 : decode cX4_init 9 = .ok (.invokespecial 11, 3) := by decide +kernel
theorem dX4_init_12 : decode cX4_init 12 = .ok (.putfield 12, 3) := by decide +kernel
theorem dX4_init_15 : decode cX4_init 15 = .ok (.aload_n 0, 1) := by decide +kernel
theorem dX4_init_16 : decode cX4_init 16 = .ok (.bipush 100, 2) := by decide +kernel
theorem dX4_init_18 : decode cX4_init 18 = .ok (.anewarray 18, 3) := by decide +kernel
theorem dX4_init_21 : decode cX4_init 21 = .ok (.putfield 20, 3) := by decide +kernel
theorem dX4_init_24 : decode cX4_init 24 = .ok (.aload_n 0, 1) := by decide +kernel
theorem dX4_init_25 : decode cX4_init 25 = .ok (.bipush 7, 2) := by decide +kernel
theorem dX4_init_27 : decode cX4_init 27 = .ok (.bipush 100, 2) := by decide +kernel
theorem dX4_init_29 : decode cX4_init 29 = .ok (.multianewarray 24 2, 4) := by decide +kernel
theorem dX4_init_33 : decode cX4_init 33 = .ok (.putfield 26, 3) := by decide +kernel
theorem dX4_init_36 : decode cX4_init 36 = .ok (.aload_n 0, 1) := by decide +kernel
theorem dX4_init_37 : decode cX4_init 37 = .ok (.bipush 100, 2) := by decide +kernel
theorem dX4_init_39 : decode cX4_init 39 = .ok (.newarray .int, 2) := by decide +kernel
theorem dX4_init_41 : decode cX4_init 41 = .ok (.putfield 29, 3) := by decide +kernel
theorem dX4_init_44 : decode cX4_init 44 = .ok (.iconst 0, 1) := by decide +kernel
theorem dX4_init_45 : decode cX4_init 45 = .ok (.istore_n 1, 1) := by decide +kernel
theorem dX4_init_46 : decode cX4_init 46 = .ok (.iload_n 1, 1) := by decide +kernel
theorem dX4_init_47 : decode cX4_init 47 = .ok (.bipush 100, 2) := by decide +kernel
theorem dX4_init_49 : decode cX4_init 49 = .ok (.if_icmp .ge 22, 3) := by decide +kernel
theorem dX4_init_52 : decode cX4_init 52 = .ok (.aload_n 0, 1) := by decide +kernel
theorem dX4_init_53 : decode cX4_init 53 = .ok (.getfield 20, 3) := by decide +kernel
theorem dX4_init_56 : decode cX4_init 56 = .ok (.iload_n 1, 1) := by decide +kernel
theorem dX4_init_57 : decode cX4_init 57 = .ok (.new 18, 3) := by decide +kernel
theorem dX4_init_60 : decode cX4_init 60 = .ok (.dup, 1) := by decide +kernel
theorem dX4_init_61 : decode cX4_init 61 = .ok (.invokespecial 33, 3) := by decide +kernel
theorem dX4_init_64 : decode cX4_init 64 = .ok (.aastore, 1) := by decide +kernel
theorem dX4_init_65 : decode cX4_init 65 = .ok (.iinc 1 1, 3) := by decide +kernel
theorem dX4_init_68 : decode cX4_init 68 = .ok (.goto (-22), 3) := by decide +kernel
theorem dX4_init_71 : decode cX4_init 71 = .ok (.return_, 1) := by decide +kernel
theorem dX4_findBest_0 : decode cX4_findBest 0 = .ok (.aload_n 0, 1) := by decide +kernel
theorem dX4_findBest_1 : decode cX4_findBest 1 = .ok (.iload_n 3, 1) := by decide +kernel
theorem dX4_findBest_2 : decode cX4_findBest 2 = .ok (.invokevirtual 34, 3) := by decide +kernel
theorem dX4_findBest_5 : decode cX4_findBest 5 = .ok (.aload_n 0, 1) := by decide +kernel
theorem dX4_findBest_6 : decode cX4_findBest 6 = .ok (.getfield 29, 3) := by decide +kernel
theorem dX4_findBest_9 : decode cX4_findBest 9 = .ok (.ldc 38, 2) := by decide +kernel
theorem dX4_findBest_11 : decode cX4_findBest 11 = .ok (.invokestatic 39, 3) := by decide +kernel
theorem dX4_findBest_14 : decode cX4_findBest 14 = .ok (.aload_n 0, 1) := by decide +kernel
theorem dX4_findBest_15 : decode cX4_findBest 15 = .ok (.getfield 26, 3) := by decide +kernel
theorem dX4_findBest_18 : decode cX4_findBest 18 = .ok (.iconst 0, 1) := by decide +kernel
theorem dX4_findBest_19 : decode cX4_findBest 19 = .ok (.aaload, 1) := by decide +kernel
theorem dX4_findBest_20 : decode cX4_findBest 20 = .ok (.ldc 38, 2) := by decide +kernel
theorem dX4_findBest_22 : decode cX4_findBest 22 = .ok (.invokestatic 39, 3) := by decide +kernel
theorem dX4_findBest_25 : decode cX4_findBest 25 = .ok (.aload_n 0, 1) := by decide +kernel
theorem dX4_findBest_26 : decode cX4_findBest 26 = .ok (.getfield 29, 3) := by decide +kernel
theorem dX4_findBest_29 : decode cX4_findBest 29 = .ok (.iload_n 1, 1) := by decide +kernel
theorem dX4_findBest_30 : decode cX4_findBest 30 = .ok (.iload_n 3, 1) := by decide +kernel
theorem dX4_findBest_31 : decode cX4_findBest 31 = .ok (.iastore, 1) := by decide +kernel
theorem dX4_findBest_32 : decode cX4_findBest 32 = .ok (.aload_n 0, 1) := by decide +kernel
theorem dX4_findBest_33 : decode cX4_findBest 33 = .ok (.getfield 26, 3) := by decide +kernel
theorem dX4_findBest_36 : decode cX4_findBest 36 = .ok (.iconst 0, 1) := by decide +kernel
theorem dX4_findBest_37 : decode cX4_findBest 37 = .ok (.aaload, 1) := by decide +kernel
theorem dX4_findBest_38 : decode cX4_findBest 38 = .ok (.iload_n 1, 1) := by decide +kernel
theorem dX4_findBest_39 : decode cX4_findBest 39 = .ok (.iload_n 3, 1) := by decide +kernel
theorem dX4_findBest_40 : decode cX4_findBest 40 = .ok (.iastore, 1) := by decide +kernel
theorem dX4_findBest_41 : decode cX4_findBest 41 = .ok (.iconst (-1), 1) := by decide +kernel
theorem dX4_findBest_42 : decode cX4_findBest 42 = .ok (.istore 4, 2) := by decide +kernel
theorem dX4_findBest_44 : decode cX4_findBest 44 = .ok (.iconst 1, 1) := by decide +kernel
theorem dX4_findBest_45 : decode cX4_findBest 45 = .ok (.istore 5, 2) := by decide +kernel
theorem dX4_findBest_47 : decode cX4_findBest 47 = .ok (.iconst 1, 1) := by decide +kernel
theorem dX4_findBest_48 : decode cX4_findBest 48 = .ok (.istore 6, 2) := by decide +kernel
theorem dX4_findBest_50 : decode cX4_findBest 50 = .ok (.iload 6, 2) := by decide +kernel
theorem dX4_findBest_52 : decode cX4_findBest 52 = .ok (.bipush 6, 2) := by decide +kernel
theorem dX4_findBest_54 : decode cX4_findBest 54 = .ok (.if_icmp .gt 41, 3) := by decide +kernel
theorem dX4_findBest_57 : decode cX4_findBest 57 = .ok (.iload 5, 2) := by decide +kernel
theorem dX4_findBest_59 : decode cX4_findBest 59 = .ok (.ifCond .eq 36, 3) := by decide +kernel
theorem dX4_findBest_62 : decode cX4_findBest 62 = .ok (.aload_n 0, 1) := by decide +kernel
theorem dX4_findBest_63 : decode cX4_findBest 63 = .ok (.iload 6, 2) := by decide +kernel
theorem dX4_findBest_65 : decode cX4_findBest 65 = .ok (.iload_n 2, 1) := by decide +kernel
theorem dX4_findBest_66 : decode cX4_findBest 66 = .ok (.invokevirtual 45, 3) := by decide +kernel
theorem dX4_findBest_69 : decode cX4_findBest 69 = .ok (.istore 5, 2) := by decide +kernel
theorem dX4_findBest_71 : decode cX4_findBest 71 = .ok (.aload_n 0, 1) := by decide +kernel
theorem dX4_findBest_72 : decode cX4_findBest 72 = .ok (.getfield 26, 3) := by decide +kernel
theorem dX4_findBest_75 : decode cX4_findBest 75 = .ok (.iload 6, 2) := by decide +kernel
theorem dX4_findBest_77 : decode cX4_findBest 77 = .ok (.aaload, 1) := by decide +kernel
theorem dX4_findBest_78 : decode cX4_findBest 78 = .ok (.iload_n 2, 1) := by decide +kernel
theorem dX4_findBest_79 : decode cX4_findBest 79 = .ok (.iaload, 1) := by decide +kernel
theorem dX4_findBest_80 : decode cX4_findBest 80 = .ok (.ldc 38, 2) := by decide +kernel
theorem dX4_findBest_82 : decode cX4_findBest 82 = .ok (.if_icmp .eq 7, 3) := by decide +kernel
theorem dX4_findBest_85 : decode cX4_findBest 85 = .ok (.iload 6, 2) := by decide +kernel
theorem dX4_findBest_87 : decode cX4_findBest 87 = .ok (.istore 4, 2) := by decide +kernel
theorem dX4_findBest_89 : decode cX4_findBest 89 = .ok (.iinc 6 1, 3) := by decide +kernel
theorem dX4_findBest_92 : decode cX4_findBest 92 = .ok (.goto (-42), 3) := by decide +kernel
theorem dX4_findBest_95 : decode cX4_findBest 95 = .ok (.iload 4, 2) := by decide +kernel
theorem dX4_findBest_97 : decode cX4_findBest 97 = .ok (.ireturn, 1) := by decide +kernel
theorem dX4_workOutRuns_0 : decode cX4_workOutRuns 0 = .ok (.aload_n 0, 1) := by decide +kernel
theorem dX4_workOutRuns_1 : decode cX4_workOutRuns 1 = .ok (.iload_n 1, 1) := by decide +kernel
theorem dX4_workOutRuns_2 : decode cX4_workOutRuns 2 = .ok (.ldc 49, 2) := by decide +kernel
theorem dX4_workOutRuns_4 : decode cX4_workOutRuns 4 = .ok (.idiv, 1) := by decide +kernel
theorem dX4_workOutRuns_5 : decode cX4_workOutRuns 5 = .ok (.iconst 3, 1) := by decide +kernel
theorem dX4_workOutRuns_6 : decode cX4_workOutRuns 6 = .ok (.isub, 1) := by decide +kernel
theorem dX4_workOutRuns_7 : decode cX4_workOutRuns 7 = .ok (.putfield 50, 3) := by decide +kernel
theorem dX4_workOutRuns_10 : decode cX4_workOutRuns 10 = .ok (.iconst 0, 1) := by decide +kernel
theorem dX4_workOutRuns_11 : decode cX4_workOutRuns 11 = .ok (.istore_n 2, 1) := by decide +kernel
theorem dX4_workOutRuns_12 : decode cX4_workOutRuns 12 = .ok (.iload_n 2, 1) := by decide +kernel
theorem dX4_workOutRuns_13 : decode cX4_workOutRuns 13 = .ok (.aload_n 0, 1) := by decide +kernel
theorem dX4_workOutRuns_14 : decode cX4_workOutRuns 14 = .ok (.getfield 12, 3) := by decide +kernel
theorem dX4_workOutRuns_17 : decode cX4_workOutRuns 17 = .ok (.invokeinterface 54 1, 5) := by decide +kernel
theorem dX4_workOutRuns_22 : decode cX4_workOutRuns 22 = .ok (.if_icmp .ge 33, 3) := by decide +kernel
theorem dX4_workOutRuns_25 : decode cX4_workOutRuns 25 = .ok (.aload_n 0, 1) := by decide +kernel
theorem dX4_workOutRuns_26 : decode cX4_workOutRuns 26 = .ok (.getfield 12, 3) := by decide +kernel
theorem dX4_workOutRuns_29 : decode cX4_workOutRuns 29 = .ok (.iload_n 2, 1) := by decide +kernel
theorem dX4_workOutRuns_30 : decode cX4_workOutRuns 30 = .ok (.invokeinterface 60 2, 5) := by decide +kernel
theorem dX4_workOutRuns_35 : decode cX4_workOutRuns 35 = .ok (.checkcast 64, 3) := by decide +kernel
theorem dX4_workOutRuns_38 : decode cX4_workOutRuns 38 = .ok (.aload_n 0, 1) := by decide +kernel
theorem dX4_workOutRuns_39 : decode cX4_workOutRuns 39 = .ok (.getfield 50, 3) := by decide +kernel
theorem dX4_workOutRuns_42 : decode cX4_workOutRuns 42 = .ok (.aload_n 0, 1) := by decide +kernel
theorem dX4_workOutRuns_43 : decode cX4_workOutRuns 43 = .ok (.getfield 20, 3) := by decide +kernel
theorem dX4_workOutRuns_46 : decode cX4_workOutRuns 46 = .ok (.invokevirtual 66, 3) := by decide +kernel
theorem dX4_workOutRuns_49 : decode cX4_workOutRuns 49 = .ok (.iinc 2 1, 3) := by decide +kernel
theorem dX4_workOutRuns_52 : decode cX4_workOutRuns 52 = .ok (.goto (-40), 3) := by decide +kernel
theorem dX4_workOutRuns_55 : decode cX4_workOutRuns 55 = .ok (.return_, 1) := by decide +kernel
theorem dX4_spread_0 : decode cX4_spread 0 = .ok (.aload_n 0, 1) := by decide +kernel
theorem dX4_spread_1 : decode cX4_spread 1 = .ok (.getfield 26, 3) := by decide +kernel
theorem dX4_spread_4 : decode cX4_spread 4 = .ok (.iload_n 1, 1) := by decide +kernel
theorem dX4_spread_5 : decode cX4_spread 5 = .ok (.aaload, 1) := by decide +kernel
theorem dX4_spread_6 : decode cX4_spread 6 = .ok (.ldc 38, 2) := by decide +kernel
theorem dX4_spread_8 : decode cX4_spread 8 = .ok (.invokestatic 39, 3) := by decide +kernel
theorem dX4_spread_11 : decode cX4_spread 11 = .ok (.iconst 0, 1) := by decide +kernel
theorem dX4_spread_12 : decode cX4_spread 12 = .ok (.istore_n 3, 1) := by decide +kernel
theorem dX4_spread_13 : decode cX4_spread 13 = .ok (.iconst 0, 1) := by decide +kernel
theorem dX4_spread_14 : decode cX4_spread 14 = .ok (.istore 4, 2) := by decide +kernel
theorem dX4_spread_16 : decode cX4_spread 16 = .ok (.iload 4, 2) := by decide +kernel
theorem dX4_spread_18 : decode cX4_spread 18 = .ok (.aload_n 0, 1) := by decide +kernel
theorem dX4_spread_19 : decode cX4_spread 19 = .ok (.getfield 12, 3) := by decide +kernel
theorem dX4_spread_22 : decode cX4_spread 22 = .ok (.invokeinterface 54 1, 5) := by decide +kernel
theorem dX4_spread_27 : decode cX4_spread 27 = .ok (.if_icmp .ge 67, 3) := by decide +kernel
theorem dX4_spread_30 : decode cX4_spread 30 = .ok (.aload_n 0, 1) := by decide +kernel
theorem dX4_spread_31 : decode cX4_spread 31 = .ok (.getfield 12, 3) := by decide +kernel
theorem dX4_spread_34 : decode cX4_spread 34 = .ok (.iload 4, 2) := by decide +kernel
theorem dX4_spread_36 : decode cX4_spread 36 = .ok (.invokeinterface 60 2, 5) := by decide +kernel
theorem dX4_spread_41 : decode cX4_spread 41 = .ok (.checkcast 64, 3) := by decide +kernel
theorem dX4_spread_44 : decode cX4_spread 44 = .ok (.astore 5, 2) := by decide +kernel
theorem dX4_spread_46 : decode cX4_spread 46 = .ok (.iconst 0, 1) := by decide +kernel
theorem dX4_spread_47 : decode cX4_spread 47 = .ok (.istore 6, 2) := by decide +kernel
theorem dX4_spread_49 : decode cX4_spread 49 = .ok (.iload 6, 2) := by decide +kernel
theorem dX4_spread_51 : decode cX4_spread 51 = .ok (.bipush 13, 2) := by decide +kernel
theorem dX4_spread_53 : decode cX4_spread 53 = .ok (.if_icmp .ge 35, 3) := by decide +kernel
theorem dX4_spread_56 : decode cX4_spread 56 = .ok (.aload 5, 2) := by decide +kernel
theorem dX4_spread_58 : decode cX4_spread 58 = .ok (.getfield 69, 3) := by decide +kernel
theorem dX4_spread_61 : decode cX4_spread 61 = .ok (.iload 6, 2) := by decide +kernel
theorem dX4_spread_63 : decode cX4_spread 63 = .ok (.baload, 1) := by decide +kernel
theorem dX4_spread_64 : decode cX4_spread 64 = .ok (.ifCond .eq 18, 3) := by decide +kernel
theorem dX4_spread_67 : decode cX4_spread 67 = .ok (.aload_n 0, 1) := by decide +kernel
theorem dX4_spread_68 : decode cX4_spread 68 = .ok (.aload 5, 2) := by decide +kernel
theorem dX4_spread_70 : decode cX4_spread 70 = .ok (.iload 6, 2) := by decide +kernel
theorem dX4_spread_72 : decode cX4_spread 72 = .ok (.iload_n 1, 1) := by decide +kernel
theorem dX4_spread_73 : decode cX4_spread 73 = .ok (.iload_n 2, 1) := by decide +kernel
theorem dX4_spread_74 : decode cX4_spread 74 = .ok (.invokevirtual 73, 3) := by decide +kernel
theorem dX4_spread_77 : decode cX4_spread 77 = .ok (.ifCond .eq 5, 3) := by decide +kernel
theorem dX4_spread_80 : decode cX4_spread 80 = .ok (.iconst 1, 1) := by decide +kernel
theorem dX4_spread_81 : decode cX4_spread 81 = .ok (.istore_n 3, 1) := by decide +kernel
theorem dX4_spread_82 : decode cX4_spread 82 = .ok (.iinc 6 1, 3) := by decide +kernel
theorem dX4_spread_85 : decode cX4_spread 85 = .ok (.goto (-36), 3) := by decide +kernel
theorem dX4_spread_88 : decode cX4_spread 88 = .ok (.iinc 4 1, 3) := by decide +kernel
theorem dX4_spread_91 : decode cX4_spread 91 = .ok (.goto (-75), 3) := by decide +kernel
theorem dX4_spread_94 : decode cX4_spread 94 = .ok (.iload_n 3, 1) := by decide +kernel
theorem dX4_spread_95 : decode cX4_spread 95 = .ok (.ireturn, 1) := by decide +kernel
theorem dX4_ride_0 : decode cX4_ride 0 = .ok (.iconst 0, 1) := by decide +kernel
theorem dX4_ride_1 : decode cX4_ride 1 = .ok (.istore 5, 2) := by decide +kernel
theorem dX4_ride_3 : decode cX4_ride 3 = .ok (.ldc 38, 2) := by decide +kernel
theorem dX4_ride_5 : decode cX4_ride 5 = .ok (.istore 6, 2) := by decide +kernel
theorem dX4_ride_7 : decode cX4_ride 7 = .ok (.iconst 0, 1) := by decide +kernel
theorem dX4_ride_8 : decode cX4_ride 8 = .ok (.istore 7, 2) := by decide +kernel
theorem dX4_ride_10 : decode cX4_ride 10 = .ok (.iload 7, 2) := by decide +kernel
theorem dX4_ride_12 : decode cX4_ride 12 = .ok (.aload_n 1, 1) := by decide +kernel
theorem dX4_ride_13 : decode cX4_ride 13 = .ok (.getfield 77, 3) := by decide +kernel
theorem dX4_ride_16 : decode cX4_ride 16 = .ok (.if_icmp .ge 119, 3) := by decide +kernel
theorem dX4_ride_19 : decode cX4_ride 19 = .ok (.aload_n 1, 1) := by decide +kernel
theorem dX4_ride_20 : decode cX4_ride 20 = .ok (.getfield 80, 3) := by decide +kernel
theorem dX4_ride_23 : decode cX4_ride 23 = .ok (.iload 7, 2) := by decide +kernel
theorem dX4_ride_25 : decode cX4_ride 25 = .ok (.iaload, 1) := by decide +kernel
theorem dX4_ride_26 : decode cX4_ride 26 = .ok (.istore 8, 2) := by decide +kernel
theorem dX4_ride_28 : decode cX4_ride 28 = .ok (.aload_n 1, 1) := by decide +kernel
theorem dX4_ride_29 : decode cX4_ride 29 = .ok (.getfield 83, 3) := by decide +kernel
theorem dX4_ride_32 : decode cX4_ride 32 = .ok (.iload_n 2, 1) := by decide +kernel
theorem dX4_ride_33 : decode cX4_ride 33 = .ok (.aaload, 1) := by decide +kernel
theorem dX4_ride_34 : decode cX4_ride 34 = .ok (.iload 7, 2) := by decide +kernel
theorem dX4_ride_36 : decode cX4_ride 36 = .ok (.iaload, 1) := by decide +kernel
theorem dX4_ride_37 : decode cX4_ride 37 = .ok (.istore 9, 2) := by decide +kernel
theorem dX4_ride_39 : decode cX4_ride 39 = .ok (.iload 6, 2) := by decide +kernel
theorem dX4_ride_41 : decode cX4_ride 41 = .ok (.iload 9, 2) := by decide +kernel
theorem dX4_ride_43 : decode cX4_ride 43 = .ok (.if_icmp .gt 50, 3) := by decide +kernel
theorem dX4_ride_46 : decode cX4_ride 46 = .ok (.iload 9, 2) := by decide +kernel
theorem dX4_ride_48 : decode cX4_ride 48 = .ok (.aload_n 0, 1) := by decide +kernel
theorem dX4_ride_49 : decode cX4_ride 49 = .ok (.getfield 29, 3) := by decide +kernel
theorem dX4_ride_52 : decode cX4_ride 52 = .ok (.iload 8, 2) := by decide +kernel
theorem dX4_ride_54 : decode cX4_ride 54 = .ok (.iaload, 1) := by decide +kernel
theorem dX4_ride_55 : decode cX4_ride 55 = .ok (.if_icmp .ge 38, 3) := by decide +kernel
theorem dX4_ride_58 : decode cX4_ride 58 = .ok (.iload 9, 2) := by decide +kernel
theorem dX4_ride_60 : decode cX4_ride 60 = .ok (.aload_n 0, 1) := by decide +kernel
theorem dX4_ride_61 : decode cX4_ride 61 = .ok (.getfield 29, 3) := by decide +kernel
theorem dX4_ride_64 : decode cX4_ride 64 = .ok (.iload 4, 2) := by decide +kernel
theorem dX4_ride_66 : decode cX4_ride 66 = .ok (.iaload, 1) := by decide +kernel
theorem dX4_ride_67 : decode cX4_ride 67 = .ok (.if_icmp .ge 26, 3) := by decide +kernel
theorem dX4_ride_70 : decode cX4_ride 70 = .ok (.aload_n 0, 1) := by decide +kernel
theorem dX4_ride_71 : decode cX4_ride 71 = .ok (.getfield 29, 3) := by decide +kernel
theorem dX4_ride_74 : decode cX4_ride 74 = .ok (.iload 8, 2) := by decide +kernel
theorem dX4_ride_76 : decode cX4_ride 76 = .ok (.iload 9, 2) := by decide +kernel
theorem dX4_ride_78 : decode cX4_ride 78 = .ok (.iastore, 1) := by decide +kernel
theorem dX4_ride_79 : decode cX4_ride 79 = .ok (.aload_n 0, 1) := by decide +kernel
theorem dX4_ride_80 : decode cX4_ride 80 = .ok (.getfield 26, 3) := by decide +kernel
theorem dX4_ride_83 : decode cX4_ride 83 = .ok (.iload_n 3, 1) := by decide +kernel
theorem dX4_ride_84 : decode cX4_ride 84 = .ok (.aaload, 1) := by decide +kernel
theorem dX4_ride_85 : decode cX4_ride 85 = .ok (.iload 8, 2) := by decide +kernel
theorem dX4_ride_87 : decode cX4_ride 87 = .ok (.iload 9, 2) := by decide +kernel
theorem dX4_ride_89 : decode cX4_ride 89 = .ok (.iastore, 1) := by decide +kernel
theorem dX4_ride_90 : decode cX4_ride 90 = .ok (.iconst 1, 1) := by decide +kernel
theorem dX4_ride_91 : decode cX4_ride 91 = .ok (.istore 5, 2) := by decide +kernel
theorem dX4_ride_93 : decode cX4_ride 93 = .ok (.aload_n 1, 1) := by decide +kernel
theorem dX4_ride_94 : decode cX4_ride 94 = .ok (.getfield 84, 3) := by decide +kernel
theorem dX4_ride_97 : decode cX4_ride 97 = .ok (.iload_n 2, 1) := by decide +kernel
theorem dX4_ride_98 : decode cX4_ride 98 = .ok (.aaload, 1) := by decide +kernel
theorem dX4_ride_99 : decode cX4_ride 99 = .ok (.iload 7, 2) := by decide +kernel
theorem dX4_ride_101 : decode cX4_ride 101 = .ok (.iaload, 1) := by decide +kernel
theorem dX4_ride_102 : decode cX4_ride 102 = .ok (.istore 10, 2) := by decide +kernel
theorem dX4_ride_104 : decode cX4_ride 104 = .ok (.iload 10, 2) := by decide +kernel
theorem dX4_ride_106 : decode cX4_ride 106 = .ok (.iload 6, 2) := by decide +kernel
theorem dX4_ride_108 : decode cX4_ride 108 = .ok (.if_icmp .ge 21, 3) := by decide +kernel
theorem dX4_ride_111 : decode cX4_ride 111 = .ok (.aload_n 0, 1) := by decide +kernel
theorem dX4_ride_112 : decode cX4_ride 112 = .ok (.iload 8, 2) := by decide +kernel
theorem dX4_ride_114 : decode cX4_ride 114 = .ok (.iload 10, 2) := by decide +kernel
theorem dX4_ride_116 : decode cX4_ride 116 = .ok (.iload_n 3, 1) := by decide +kernel
theorem dX4_ride_117 : decode cX4_ride 117 = .ok (.iconst 1, 1) := by decide +kernel
theorem dX4_ride_118 : decode cX4_ride 118 = .ok (.isub, 1) := by decide +kernel
theorem dX4_ride_119 : decode cX4_ride 119 = .ok (.invokevirtual 87, 3) := by decide +kernel
theorem dX4_ride_122 : decode cX4_ride 122 = .ok (.ifCond .eq 7, 3) := by decide +kernel
theorem dX4_ride_125 : decode cX4_ride 125 = .ok (.iload 10, 2) := by decide +kernel
theorem dX4_ride_127 : decode cX4_ride 127 = .ok (.istore 6, 2) := by decide +kernel
theorem dX4_ride_129 : decode cX4_ride 129 = .ok (.iinc 7 1, 3) := by decide +kernel
theorem dX4_ride_132 : decode cX4_ride 132 = .ok (.goto (-122), 3) := by decide +kernel
theorem dX4_ride_135 : decode cX4_ride 135 = .ok (.iload 5, 2) := by decide +kernel
theorem dX4_ride_137 : decode cX4_ride 137 = .ok (.ireturn, 1) := by decide +kernel
theorem dX4_canEnter_0 : decode cX4_canEnter 0 = .ok (.aload_n 0, 1) := by decide +kernel
theorem dX4_canEnter_1 : decode cX4_canEnter 1 = .ok (.getfield 26, 3) := by decide +kernel
theorem dX4_canEnter_4 : decode cX4_canEnter 4 = .ok (.iload_n 3, 1) := by decide +kernel
theorem dX4_canEnter_5 : decode cX4_canEnter 5 = .ok (.aaload, 1) := by decide +kernel
theorem dX4_canEnter_6 : decode cX4_canEnter 6 = .ok (.iload_n 1, 1) := by decide +kernel
theorem dX4_canEnter_7 : decode cX4_canEnter 7 = .ok (.iaload, 1) := by decide +kernel
theorem dX4_canEnter_8 : decode cX4_canEnter 8 = .ok (.istore 4, 2) := by decide +kernel
theorem dX4_canEnter_10 : decode cX4_canEnter 10 = .ok (.iload 4, 2) := by decide +kernel
theorem dX4_canEnter_12 : decode cX4_canEnter 12 = .ok (.ldc 38, 2) := by decide +kernel
theorem dX4_canEnter_14 : decode cX4_canEnter 14 = .ok (.if_icmp .ne 5, 3) := by decide +kernel
theorem dX4_canEnter_17 : decode cX4_canEnter 17 = .ok (.iconst 0, 1) := by decide +kernel
theorem dX4_canEnter_18 : decode cX4_canEnter 18 = .ok (.ireturn, 1) := by decide +kernel
theorem dX4_canEnter_19 : decode cX4_canEnter 19 = .ok (.iload_n 2, 1) := by decide +kernel
theorem dX4_canEnter_20 : decode cX4_canEnter 20 = .ok (.iload_n 3, 1) := by decide +kernel
theorem dX4_canEnter_21 : decode cX4_canEnter 21 = .ok (.ifCond .ne 8, 3) := by decide +kernel
theorem dX4_canEnter_24 : decode cX4_canEnter 24 = .ok (.iload 4, 2) := by decide +kernel
theorem dX4_canEnter_26 : decode cX4_canEnter 26 = .ok (.goto 15, 3) := by decide +kernel
theorem dX4_canEnter_29 : decode cX4_canEnter 29 = .ok (.iload 4, 2) := by decide +kernel
theorem dX4_canEnter_31 : decode cX4_canEnter 31 = .ok (.aload_n 0, 1) := by decide +kernel
theorem dX4_canEnter_32 : decode cX4_canEnter 32 = .ok (.getfield 20, 3) := by decide +kernel
theorem dX4_canEnter_35 : decode cX4_canEnter 35 = .ok (.iload_n 1, 1) := by decide +kernel
theorem dX4_canEnter_36 : decode cX4_canEnter 36 = .ok (.aaload, 1) := by decide +kernel
theorem dX4_canEnter_37 : decode cX4_canEnter 37 = .ok (.getfield 91, 3) := by decide +kernel
theorem dX4_canEnter_40 : decode cX4_canEnter 40 = .ok (.iadd, 1) := by decide +kernel
theorem dX4_canEnter_41 : decode cX4_canEnter 41 = .ok (.if_icmp .lt 7, 3) := by decide +kernel
theorem dX4_canEnter_44 : decode cX4_canEnter 44 = .ok (.iconst 1, 1) := by decide +kernel
theorem dX4_canEnter_45 : decode cX4_canEnter 45 = .ok (.goto 4, 3) := by decide +kernel
theorem dX4_canEnter_48 : decode cX4_canEnter 48 = .ok (.iconst 0, 1) := by decide +kernel
theorem dX4_canEnter_49 : decode cX4_canEnter 49 = .ok (.ireturn, 1) := by decide +kernel
theorem dX4_tell_0 : decode cX4_tell 0 = .ok (.aload_n 1, 1) := by decide +kernel
theorem dX4_tell_1 : decode cX4_tell 1 = .ok (.iload_n 3, 1) := by decide +kernel
theorem dX4_tell_2 : decode cX4_tell 2 = .ok (.putfield 94, 3) := by decide +kernel
theorem dX4_tell_5 : decode cX4_tell 5 = .ok (.iload_n 2, 1) := by decide +kernel
theorem dX4_tell_6 : decode cX4_tell 6 = .ok (.istore 4, 2) := by decide +kernel
theorem dX4_tell_8 : decode cX4_tell 8 = .ok (.iload_n 3, 1) := by decide +kernel
theorem dX4_tell_9 : decode cX4_tell 9 = .ok (.istore 5, 2) := by decide +kernel
theorem dX4_tell_11 : decode cX4_tell 11 = .ok (.iload 5, 2) := by decide +kernel
theorem dX4_tell_13 : decode cX4_tell 13 = .ok (.ifCond .le 28, 3) := by decide +kernel
theorem dX4_tell_16 : decode cX4_tell 16 = .ok (.aload_n 0, 1) := by decide +kernel
theorem dX4_tell_17 : decode cX4_tell 17 = .ok (.aload_n 1, 1) := by decide +kernel
theorem dX4_tell_18 : decode cX4_tell 18 = .ok (.getfield 99, 3) := by decide +kernel
theorem dX4_tell_21 : decode cX4_tell 21 = .ok (.iload 5, 2) := by decide +kernel
theorem dX4_tell_23 : decode cX4_tell 23 = .ok (.iconst 1, 1) := by decide +kernel
theorem dX4_tell_24 : decode cX4_tell 24 = .ok (.isub, 1) := by decide +kernel
theorem dX4_tell_25 : decode cX4_tell 25 = .ok (.aaload, 1) := by decide +kernel
theorem dX4_tell_26 : decode cX4_tell 26 = .ok (.iload 4, 2) := by decide +kernel
theorem dX4_tell_28 : decode cX4_tell 28 = .ok (.iload 5, 2) := by decide +kernel
theorem dX4_tell_30 : decode cX4_tell 30 = .ok (.invokevirtual 102, 3) := by decide +kernel
theorem dX4_tell_33 : decode cX4_tell 33 = .ok (.istore 4, 2) := by decide +kernel
theorem dX4_tell_35 : decode cX4_tell 35 = .ok (.iinc 5 (-1), 3) := by decide +kernel
theorem dX4_tell_38 : decode cX4_tell 38 = .ok (.goto (-27), 3) := by decide +kernel
theorem dX4_tell_41 : decode cX4_tell 41 = .ok (.return_, 1) := by decide +kernel
theorem dX4_tellLastLeg_0 : decode cX4_tellLastLeg 0 = .ok (.iconst 0, 1) := by decide +kernel
theorem dX4_tellLastLeg_1 : decode cX4_tellLastLeg 1 = .ok (.istore 4, 2) := by decide +kernel
theorem dX4_tellLastLeg_3 : decode cX4_tellLastLeg 3 = .ok (.iload 4, 2) := by decide +kernel
theorem dX4_tellLastLeg_5 : decode cX4_tellLastLeg 5 = .ok (.aload_n 0, 1) := by decide +kernel
theorem dX4_tellLastLeg_6 : decode cX4_tellLastLeg 6 = .ok (.getfield 12, 3) := by decide +kernel
theorem dX4_tellLastLeg_9 : decode cX4_tellLastLeg 9 = .ok (.invokeinterface 54 1, 5) := by decide +kernel
theorem dX4_tellLastLeg_14 : decode cX4_tellLastLeg 14 = .ok (.if_icmp .ge 91, 3) := by decide +kernel
theorem dX4_tellLastLeg_17 : decode cX4_tellLastLeg 17 = .ok (.aload_n 0, 1) := by decide +kernel
theorem dX4_tellLastLeg_18 : decode cX4_tellLastLeg 18 = .ok (.getfield 12, 3) := by decide +kernel
theorem dX4_tellLastLeg_21 : decode cX4_tellLastLeg 21 = .ok (.iload 4, 2) := by decide +kernel
theorem dX4_tellLastLeg_23 : decode cX4_tellLastLeg 23 = .ok (.invokeinterface 60 2, 5) := by decide +kernel
theorem dX4_tellLastLeg_28 : decode cX4_tellLastLeg 28 = .ok (.checkcast 64, 3) := by decide +kernel
theorem dX4_tellLastLeg_31 : decode cX4_tellLastLeg 31 = .ok (.astore 5, 2) := by decide +kernel
theorem dX4_tellLastLeg_33 : decode cX4_tellLastLeg 33 = .ok (.iconst 0, 1) := by decide +kernel
theorem dX4_tellLastLeg_34 : decode cX4_tellLastLeg 34 = .ok (.istore 6, 2) := by decide +kernel
theorem dX4_tellLastLeg_36 : decode cX4_tellLastLeg 36 = .ok (.iload 6, 2) := by decide +kernel
theorem dX4_tellLastLeg_38 : decode cX4_tellLastLeg 38 = .ok (.bipush 13, 2) := by decide +kernel
theorem dX4_tellLastLeg_40 : decode cX4_tellLastLeg 40 = .ok (.if_icmp .ge 59, 3) := by decide +kernel
theorem dX4_tellLastLeg_43 : decode cX4_tellLastLeg 43 = .ok (.aload 5, 2) := by decide +kernel
theorem dX4_tellLastLeg_45 : decode cX4_tellLastLeg 45 = .ok (.getfield 69, 3) := by decide +kernel
theorem dX4_tellLastLeg_48 : decode cX4_tellLastLeg 48 = .ok (.iload 6, 2) := by decide +kernel
theorem dX4_tellLastLeg_50 : decode cX4_tellLastLeg 50 = .ok (.baload, 1) := by decide +kernel
theorem dX4_tellLastLeg_51 : decode cX4_tellLastLeg 51 = .ok (.ifCond .eq 42, 3) := by decide +kernel
theorem dX4_tellLastLeg_54 : decode cX4_tellLastLeg 54 = .ok (.aload_n 0, 1) := by decide +kernel
theorem dX4_tellLastLeg_55 : decode cX4_tellLastLeg 55 = .ok (.aload_n 1, 1) := by decide +kernel
theorem dX4_tellLastLeg_56 : decode cX4_tellLastLeg 56 = .ok (.aload 5, 2) := by decide +kernel
theorem dX4_tellLastLeg_58 : decode cX4_tellLastLeg 58 = .ok (.iload 6, 2) := by decide +kernel
theorem dX4_tellLastLeg_60 : decode cX4_tellLastLeg 60 = .ok (.iload_n 2, 1) := by decide +kernel
theorem dX4_tellLastLeg_61 : decode cX4_tellLastLeg 61 = .ok (.iload_n 3, 1) := by decide +kernel
theorem dX4_tellLastLeg_62 : decode cX4_tellLastLeg 62 = .ok (.invokevirtual 106, 3) := by decide +kernel
theorem dX4_tellLastLeg_65 : decode cX4_tellLastLeg 65 = .ok (.ifCond .eq 28, 3) := by decide +kernel
theorem dX4_tellLastLeg_68 : decode cX4_tellLastLeg 68 = .ok (.aload_n 1, 1) := by decide +kernel
theorem dX4_tellLastLeg_69 : decode cX4_tellLastLeg 69 = .ok (.iconst 0, 1) := by decide +kernel
theorem dX4_tellLastLeg_70 : decode cX4_tellLastLeg 70 = .ok (.iload 4, 2) := by decide +kernel
theorem dX4_tellLastLeg_72 : decode cX4_tellLastLeg 72 = .ok (.iastore, 1) := by decide +kernel
theorem dX4_tellLastLeg_73 : decode cX4_tellLastLeg 73 = .ok (.aload_n 1, 1) := by decide +kernel
theorem dX4_tellLastLeg_74 : decode cX4_tellLastLeg 74 = .ok (.iconst 1, 1) := by decide +kernel
theorem dX4_tellLastLeg_75 : decode cX4_tellLastLeg 75 = .ok (.aload_n 0, 1) := by decide +kernel
theorem dX4_tellLastLeg_76 : decode cX4_tellLastLeg 76 = .ok (.getfield 50, 3) := by decide +kernel
theorem dX4_tellLastLeg_79 : decode cX4_tellLastLeg 79 = .ok (.iload 6, 2) := by decide +kernel
theorem dX4_tellLastLeg_81 : decode cX4_tellLastLeg 81 = .ok (.iadd, 1) := by decide +kernel
theorem dX4_tellLastLeg_82 : decode cX4_tellLastLeg 82 = .ok (.iastore, 1) := by decide +kernel
theorem dX4_tellLastLeg_83 : decode cX4_tellLastLeg 83 = .ok (.aload 5, 2) := by decide +kernel
theorem dX4_tellLastLeg_85 : decode cX4_tellLastLeg 85 = .ok (.getfield 80, 3) := by decide +kernel
theorem dX4_tellLastLeg_88 : decode cX4_tellLastLeg 88 = .ok (.aload_n 1, 1) := by decide +kernel
theorem dX4_tellLastLeg_89 : decode cX4_tellLastLeg 89 = .ok (.iconst 2, 1) := by decide +kernel
theorem dX4_tellLastLeg_90 : decode cX4_tellLastLeg 90 = .ok (.iaload, 1) := by decide +kernel
theorem dX4_tellLastLeg_91 : decode cX4_tellLastLeg 91 = .ok (.iaload, 1) := by decide +kernel
theorem dX4_tellLastLeg_92 : decode cX4_tellLastLeg 92 = .ok (.ireturn, 1) := by decide +kernel
theorem dX4_tellLastLeg_93 : decode cX4_tellLastLeg 93 = .ok (.iinc 6 1, 3) := by decide +kernel
theorem dX4_tellLastLeg_96 : decode cX4_tellLastLeg 96 = .ok (.goto (-60), 3) := by decide +kernel
theorem dX4_tellLastLeg_99 : decode cX4_tellLastLeg 99 = .ok (.iinc 4 1, 3) := by decide +kernel
theorem dX4_tellLastLeg_102 : decode cX4_tellLastLeg 102 = .ok (.goto (-99), 3) := by decide +kernel
theorem dX4_tellLastLeg_105 : decode cX4_tellLastLeg 105 = .ok (.iload_n 2, 1) := by decide +kernel
theorem dX4_tellLastLeg_106 : decode cX4_tellLastLeg 106 = .ok (.ireturn, 1) := by decide +kernel
theorem dX4_findLeg_0 : decode cX4_findLeg 0 = .ok (.iconst 1, 1) := by decide +kernel
theorem dX4_findLeg_1 : decode cX4_findLeg 1 = .ok (.istore 6, 2) := by decide +kernel
theorem dX4_findLeg_3 : decode cX4_findLeg 3 = .ok (.iload 6, 2) := by decide +kernel
theorem dX4_findLeg_5 : decode cX4_findLeg 5 = .ok (.aload_n 2, 1) := by decide +kernel
theorem dX4_findLeg_6 : decode cX4_findLeg 6 = .ok (.getfield 77, 3) := by decide +kernel
theorem dX4_findLeg_9 : decode cX4_findLeg 9 = .ok (.if_icmp .ge 99, 3) := by decide +kernel
theorem dX4_findLeg_12 : decode cX4_findLeg 12 = .ok (.aload_n 2, 1) := by decide +kernel
theorem dX4_findLeg_13 : decode cX4_findLeg 13 = .ok (.getfield 83, 3) := by decide +kernel
theorem dX4_findLeg_16 : decode cX4_findLeg 16 = .ok (.iload_n 3, 1) := by decide +kernel
theorem dX4_findLeg_17 : decode cX4_findLeg 17 = .ok (.aaload, 1) := by decide +kernel
theorem dX4_findLeg_18 : decode cX4_findLeg 18 = .ok (.iload 6, 2) := by decide +kernel
theorem dX4_findLeg_20 : decode cX4_findLeg 20 = .ok (.iaload, 1) := by decide +kernel
theorem dX4_findLeg_21 : decode cX4_findLeg 21 = .ok (.istore 7, 2) := by decide +kernel
theorem dX4_findLeg_23 : decode cX4_findLeg 23 = .ok (.aload_n 2, 1) := by decide +kernel
theorem dX4_findLeg_24 : decode cX4_findLeg 24 = .ok (.getfield 80, 3) := by decide +kernel
theorem dX4_findLeg_27 : decode cX4_findLeg 27 = .ok (.iload 6, 2) := by decide +kernel
theorem dX4_findLeg_29 : decode cX4_findLeg 29 = .ok (.iaload, 1) := by decide +kernel
theorem dX4_findLeg_30 : decode cX4_findLeg 30 = .ok (.iload 4, 2) := by decide +kernel
theorem dX4_findLeg_32 : decode cX4_findLeg 32 = .ok (.if_icmp .ne 70, 3) := by decide +kernel
theorem dX4_findLeg_35 : decode cX4_findLeg 35 = .ok (.iload 7, 2) := by decide +kernel
theorem dX4_findLeg_37 : decode cX4_findLeg 37 = .ok (.aload_n 0, 1) := by decide +kernel
theorem dX4_findLeg_38 : decode cX4_findLeg 38 = .ok (.getfield 26, 3) := by decide +kernel
theorem dX4_findLeg_41 : decode cX4_findLeg 41 = .ok (.iload 5, 2) := by decide +kernel
theorem dX4_findLeg_43 : decode cX4_findLeg 43 = .ok (.aaload, 1) := by decide +kernel
theorem dX4_findLeg_44 : decode cX4_findLeg 44 = .ok (.iload 4, 2) := by decide +kernel
theorem dX4_findLeg_46 : decode cX4_findLeg 46 = .ok (.iaload, 1) := by decide +kernel
theorem dX4_findLeg_47 : decode cX4_findLeg 47 = .ok (.if_icmp .eq 6, 3) := by decide +kernel
theorem dX4_findLeg_50 : decode cX4_findLeg 50 = .ok (.goto 52, 3) := by decide +kernel
theorem dX4_findLeg_53 : decode cX4_findLeg 53 = .ok (.aload_n 0, 1) := by decide +kernel
theorem dX4_findLeg_54 : decode cX4_findLeg 54 = .ok (.aload_n 2, 1) := by decide +kernel
theorem dX4_findLeg_55 : decode cX4_findLeg 55 = .ok (.iload_n 3, 1) := by decide +kernel
theorem dX4_findLeg_56 : decode cX4_findLeg 56 = .ok (.iload 6, 2) := by decide +kernel
theorem dX4_findLeg_58 : decode cX4_findLeg 58 = .ok (.iload 5, 2) := by decide +kernel
theorem dX4_findLeg_60 : decode cX4_findLeg 60 = .ok (.iconst 1, 1) := by decide +kernel
theorem dX4_findLeg_61 : decode cX4_findLeg 61 = .ok (.isub, 1) := by decide +kernel
theorem dX4_findLeg_62 : decode cX4_findLeg 62 = .ok (.invokevirtual 110, 3) := by decide +kernel
theorem dX4_findLeg_65 : decode cX4_findLeg 65 = .ok (.istore 8, 2) := by decide +kernel
theorem dX4_findLeg_67 : decode cX4_findLeg 67 = .ok (.iload 8, 2) := by decide +kernel
theorem dX4_findLeg_69 : decode cX4_findLeg 69 = .ok (.iconst (-1), 1) := by decide +kernel
theorem dX4_findLeg_70 : decode cX4_findLeg 70 = .ok (.if_icmp .eq 32, 3) := by decide +kernel
theorem dX4_findLeg_73 : decode cX4_findLeg 73 = .ok (.aload_n 1, 1) := by decide +kernel
theorem dX4_findLeg_74 : decode cX4_findLeg 74 = .ok (.iconst 2, 1) := by decide +kernel
theorem dX4_findLeg_75 : decode cX4_findLeg 75 = .ok (.iload 8, 2) := by decide +kernel
theorem dX4_findLeg_77 : decode cX4_findLeg 77 = .ok (.iastore, 1) := by decide +kernel
theorem dX4_findLeg_78 : decode cX4_findLeg 78 = .ok (.aload_n 1, 1) := by decide +kernel
theorem dX4_findLeg_79 : decode cX4_findLeg 79 = .ok (.iconst 3, 1) := by decide +kernel
theorem dX4_findLeg_80 : decode cX4_findLeg 80 = .ok (.iload 6, 2) := by decide +kernel
theorem dX4_findLeg_82 : decode cX4_findLeg 82 = .ok (.iastore, 1) := by decide +kernel
theorem dX4_findLeg_83 : decode cX4_findLeg 83 = .ok (.aload_n 1, 1) := by decide +kernel
theorem dX4_findLeg_84 : decode cX4_findLeg 84 = .ok (.iconst 4, 1) := by decide +kernel
theorem dX4_findLeg_85 : decode cX4_findLeg 85 = .ok (.aload_n 2, 1) := by decide +kernel
theorem dX4_findLeg_86 : decode cX4_findLeg 86 = .ok (.getfield 84, 3) := by decide +kernel
theorem dX4_findLeg_89 : decode cX4_findLeg 89 = .ok (.iload_n 3, 1) := by decide +kernel
theorem dX4_findLeg_90 : decode cX4_findLeg 90 = .ok (.aaload, 1) := by decide +kernel
theorem dX4_findLeg_91 : decode cX4_findLeg 91 = .ok (.iload 8, 2) := by decide +kernel
theorem dX4_findLeg_93 : decode cX4_findLeg 93 = .ok (.iaload, 1) := by decide +kernel
theorem dX4_findLeg_94 : decode cX4_findLeg 94 = .ok (.iastore, 1) := by decide +kernel
theorem dX4_findLeg_95 : decode cX4_findLeg 95 = .ok (.aload_n 1, 1) := by decide +kernel
theorem dX4_findLeg_96 : decode cX4_findLeg 96 = .ok (.iconst 5, 1) := by decide +kernel
theorem dX4_findLeg_97 : decode cX4_findLeg 97 = .ok (.iload 7, 2) := by decide +kernel
theorem dX4_findLeg_99 : decode cX4_findLeg 99 = .ok (.iastore, 1) := by decide +kernel
theorem dX4_findLeg_100 : decode cX4_findLeg 100 = .ok (.iconst 1, 1) := by decide +kernel
theorem dX4_findLeg_101 : decode cX4_findLeg 101 = .ok (.ireturn, 1) := by decide +kernel
theorem dX4_findLeg_102 : decode cX4_findLeg 102 = .ok (.iinc 6 1, 3) := by decide +kernel
theorem dX4_findLeg_105 : decode cX4_findLeg 105 = .ok (.goto (-102), 3) := by decide +kernel
theorem dX4_findLeg_108 : decode cX4_findLeg 108 = .ok (.iconst 0, 1) := by decide +kernel
theorem dX4_findLeg_109 : decode cX4_findLeg 109 = .ok (.ireturn, 1) := by decide +kernel
theorem dX4_findEntry_0 : decode cX4_findEntry 0 = .ok (.iconst 0, 1) := by decide +kernel
theorem dX4_findEntry_1 : decode cX4_findEntry 1 = .ok (.istore 5, 2) := by decide +kernel
theorem dX4_findEntry_3 : decode cX4_findEntry 3 = .ok (.iload 5, 2) := by decide +kernel
theorem dX4_findEntry_5 : decode cX4_findEntry 5 = .ok (.iload_n 3, 1) := by decide +kernel
theorem dX4_findEntry_6 : decode cX4_findEntry 6 = .ok (.if_icmp .ge 54, 3) := by decide +kernel
theorem dX4_findEntry_9 : decode cX4_findEntry 9 = .ok (.aload_n 1, 1) := by decide +kernel
theorem dX4_findEntry_10 : decode cX4_findEntry 10 = .ok (.getfield 84, 3) := by decide +kernel
theorem dX4_findEntry_13 : decode cX4_findEntry 13 = .ok (.iload_n 2, 1) := by decide +kernel
theorem dX4_findEntry_14 : decode cX4_findEntry 14 = .ok (.aaload, 1) := by decide +kernel
theorem dX4_findEntry_15 : decode cX4_findEntry 15 = .ok (.iload 5, 2) := by decide +kernel
theorem dX4_findEntry_17 : decode cX4_findEntry 17 = .ok (.iaload, 1) := by decide +kernel
theorem dX4_findEntry_18 : decode cX4_findEntry 18 = .ok (.istore 6, 2) := by decide +kernel
theorem dX4_findEntry_20 : decode cX4_findEntry 20 = .ok (.iload 6, 2) := by decide +kernel
theorem dX4_findEntry_22 : decode cX4_findEntry 22 = .ok (.aload_n 1, 1) := by decide +kernel
theorem dX4_findEntry_23 : decode cX4_findEntry 23 = .ok (.getfield 83, 3) := by decide +kernel
theorem dX4_findEntry_26 : decode cX4_findEntry 26 = .ok (.iload_n 2, 1) := by decide +kernel
theorem dX4_findEntry_27 : decode cX4_findEntry 27 = .ok (.aaload, 1) := by decide +kernel
theorem dX4_findEntry_28 : decode cX4_findEntry 28 = .ok (.iload_n 3, 1) := by decide +kernel
theorem dX4_findEntry_29 : decode cX4_findEntry 29 = .ok (.iaload, 1) := by decide +kernel
theorem dX4_findEntry_30 : decode cX4_findEntry 30 = .ok (.if_icmp .gt 24, 3) := by decide +kernel
theorem dX4_findEntry_33 : decode cX4_findEntry 33 = .ok (.aload_n 0, 1) := by decide +kernel
theorem dX4_findEntry_34 : decode cX4_findEntry 34 = .ok (.aload_n 1, 1) := by decide +kernel
theorem dX4_findEntry_35 : decode cX4_findEntry 35 = .ok (.getfield 80, 3) := by decide +kernel
theorem dX4_findEntry_38 : decode cX4_findEntry 38 = .ok (.iload 5, 2) := by decide +kernel
theorem dX4_findEntry_40 : decode cX4_findEntry 40 = .ok (.iaload, 1) := by decide +kernel
theorem dX4_findEntry_41 : decode cX4_findEntry 41 = .ok (.iload 6, 2) := by decide +kernel
theorem dX4_findEntry_43 : decode cX4_findEntry 43 = .ok (.iload 4, 2) := by decide +kernel
theorem dX4_findEntry_45 : decode cX4_findEntry 45 = .ok (.invokevirtual 87, 3) := by decide +kernel
theorem dX4_findEntry_48 : decode cX4_findEntry 48 = .ok (.ifCond .eq 6, 3) := by decide +kernel
theorem dX4_findEntry_51 : decode cX4_findEntry 51 = .ok (.iload 5, 2) := by decide +kernel
theorem dX4_findEntry_53 : decode cX4_findEntry 53 = .ok (.ireturn, 1) := by decide +kernel
theorem dX4_findEntry_54 : decode cX4_findEntry 54 = .ok (.iinc 5 1, 3) := by decide +kernel
theorem dX4_findEntry_57 : decode cX4_findEntry 57 = .ok (.goto (-54), 3) := by decide +kernel
theorem dX4_findEntry_60 : decode cX4_findEntry 60 = .ok (.iconst (-1), 1) := by decide +kernel
theorem dX4_findEntry_61 : decode cX4_findEntry 61 = .ok (.ireturn, 1) := by decide +kernel
theorem dX4_gather_0 : decode cX4_gather 0 = .ok (.aload_n 0, 1) := by decide +kernel
theorem dX4_gather_1 : decode cX4_gather 1 = .ok (.iload 4, 2) := by decide +kernel
theorem dX4_gather_3 : decode cX4_gather 3 = .ok (.invokevirtual 34, 3) := by decide +kernel
theorem dX4_gather_6 : decode cX4_gather 6 = .ok (.iconst 0, 1) := by decide +kernel
theorem dX4_gather_7 : decode cX4_gather 7 = .ok (.istore 5, 2) := by decide +kernel
theorem dX4_gather_9 : decode cX4_gather 9 = .ok (.iload 5, 2) := by decide +kernel
theorem dX4_gather_11 : decode cX4_gather 11 = .ok (.aload_n 0, 1) := by decide +kernel
theorem dX4_gather_12 : decode cX4_gather 12 = .ok (.getfield 12, 3) := by decide +kernel
theorem dX4_gather_15 : decode cX4_gather 15 = .ok (.invokeinterface 54 1, 5) := by decide +kernel
theorem dX4_gather_20 : decode cX4_gather 20 = .ok (.if_icmp .ge 65, 3) := by decide +kernel
theorem dX4_gather_23 : decode cX4_gather 23 = .ok (.aload_n 0, 1) := by decide +kernel
theorem dX4_gather_24 : decode cX4_gather 24 = .ok (.getfield 12, 3) := by decide +kernel
theorem dX4_gather_27 : decode cX4_gather 27 = .ok (.iload 5, 2) := by decide +kernel
theorem dX4_gather_29 : decode cX4_gather 29 = .ok (.invokeinterface 60 2, 5) := by decide +kernel
theorem dX4_gather_34 : decode cX4_gather 34 = .ok (.checkcast 64, 3) := by decide +kernel
theorem dX4_gather_37 : decode cX4_gather 37 = .ok (.astore 6, 2) := by decide +kernel
theorem dX4_gather_39 : decode cX4_gather 39 = .ok (.iconst 0, 1) := by decide +kernel
theorem dX4_gather_40 : decode cX4_gather 40 = .ok (.istore 7, 2) := by decide +kernel
theorem dX4_gather_42 : decode cX4_gather 42 = .ok (.iload 7, 2) := by decide +kernel
theorem dX4_gather_44 : decode cX4_gather 44 = .ok (.bipush 13, 2) := by decide +kernel
theorem dX4_gather_46 : decode cX4_gather 46 = .ok (.if_icmp .ge 33, 3) := by decide +kernel
theorem dX4_gather_49 : decode cX4_gather 49 = .ok (.aload 6, 2) := by decide +kernel
theorem dX4_gather_51 : decode cX4_gather 51 = .ok (.getfield 69, 3) := by decide +kernel
theorem dX4_gather_54 : decode cX4_gather 54 = .ok (.iload 7, 2) := by decide +kernel
theorem dX4_gather_56 : decode cX4_gather 56 = .ok (.baload, 1) := by decide +kernel
theorem dX4_gather_57 : decode cX4_gather 57 = .ok (.ifCond .eq 16, 3) := by decide +kernel
theorem dX4_gather_60 : decode cX4_gather 60 = .ok (.aload_n 0, 1) := by decide +kernel
theorem dX4_gather_61 : decode cX4_gather 61 = .ok (.aload_n 1, 1) := by decide +kernel
theorem dX4_gather_62 : decode cX4_gather 62 = .ok (.aload 6, 2) := by decide +kernel
theorem dX4_gather_64 : decode cX4_gather 64 = .ok (.iload 7, 2) := by decide +kernel
theorem dX4_gather_66 : decode cX4_gather 66 = .ok (.iload_n 2, 1) := by decide +kernel
theorem dX4_gather_67 : decode cX4_gather 67 = .ok (.iload_n 3, 1) := by decide +kernel
theorem dX4_gather_68 : decode cX4_gather 68 = .ok (.iload 4, 2) := by decide +kernel
theorem dX4_gather_70 : decode cX4_gather 70 = .ok (.invokevirtual 114, 3) := by decide +kernel
theorem dX4_gather_73 : decode cX4_gather 73 = .ok (.iinc 7 1, 3) := by decide +kernel
theorem dX4_gather_76 : decode cX4_gather 76 = .ok (.goto (-34), 3) := by decide +kernel
theorem dX4_gather_79 : decode cX4_gather 79 = .ok (.iinc 5 1, 3) := by decide +kernel
theorem dX4_gather_82 : decode cX4_gather 82 = .ok (.goto (-73), 3) := by decide +kernel
theorem dX4_gather_85 : decode cX4_gather 85 = .ok (.return_, 1) := by decide +kernel
theorem dX4_gatherRun_0 : decode cX4_gatherRun 0 = .ok (.iconst 0, 1) := by decide +kernel
theorem dX4_gatherRun_1 : decode cX4_gatherRun 1 = .ok (.istore 7, 2) := by decide +kernel
theorem dX4_gatherRun_3 : decode cX4_gatherRun 3 = .ok (.iload 7, 2) := by decide +kernel
theorem dX4_gatherRun_5 : decode cX4_gatherRun 5 = .ok (.aload_n 2, 1) := by decide +kernel
theorem dX4_gatherRun_6 : decode cX4_gatherRun 6 = .ok (.getfield 77, 3) := by decide +kernel
theorem dX4_gatherRun_9 : decode cX4_gatherRun 9 = .ok (.if_icmp .ge 95, 3) := by decide +kernel
theorem dX4_gatherRun_12 : decode cX4_gatherRun 12 = .ok (.aload_n 2, 1) := by decide +kernel
theorem dX4_gatherRun_13 : decode cX4_gatherRun 13 = .ok (.getfield 84, 3) := by decide +kernel
theorem dX4_gatherRun_16 : decode cX4_gatherRun 16 = .ok (.iload_n 3, 1) := by decide +kernel
theorem dX4_gatherRun_17 : decode cX4_gatherRun 17 = .ok (.aaload, 1) := by decide +kernel
theorem dX4_gatherRun_18 : decode cX4_gatherRun 18 = .ok (.iload 7, 2) := by decide +kernel
theorem dX4_gatherRun_20 : decode cX4_gatherRun 20 = .ok (.iaload, 1) := by decide +kernel
theorem dX4_gatherRun_21 : decode cX4_gatherRun 21 = .ok (.istore 8, 2) := by decide +kernel
theorem dX4_gatherRun_23 : decode cX4_gatherRun 23 = .ok (.aload_n 2, 1) := by decide +kernel
theorem dX4_gatherRun_24 : decode cX4_gatherRun 24 = .ok (.getfield 80, 3) := by decide +kernel
theorem dX4_gatherRun_27 : decode cX4_gatherRun 27 = .ok (.iload 7, 2) := by decide +kernel
theorem dX4_gatherRun_29 : decode cX4_gatherRun 29 = .ok (.iaload, 1) := by decide +kernel
theorem dX4_gatherRun_30 : decode cX4_gatherRun 30 = .ok (.iload 4, 2) := by decide +kernel
theorem dX4_gatherRun_32 : decode cX4_gatherRun 32 = .ok (.if_icmp .ne 66, 3) := by decide +kernel
theorem dX4_gatherRun_35 : decode cX4_gatherRun 35 = .ok (.iload 8, 2) := by decide +kernel
theorem dX4_gatherRun_37 : decode cX4_gatherRun 37 = .ok (.iload 6, 2) := by decide +kernel
theorem dX4_gatherRun_39 : decode cX4_gatherRun 39 = .ok (.if_icmp .ge 6, 3) := by decide +kernel
theorem dX4_gatherRun_42 : decode cX4_gatherRun 42 = .ok (.goto 56, 3) := by decide +kernel
theorem dX4_gatherRun_45 : decode cX4_gatherRun 45 = .ok (.iload 7, 2) := by decide +kernel
theorem dX4_gatherRun_47 : decode cX4_gatherRun 47 = .ok (.iconst 1, 1) := by decide +kernel
theorem dX4_gatherRun_48 : decode cX4_gatherRun 48 = .ok (.iadd, 1) := by decide +kernel
theorem dX4_gatherRun_49 : decode cX4_gatherRun 49 = .ok (.istore 9, 2) := by decide +kernel
theorem dX4_gatherRun_51 : decode cX4_gatherRun 51 = .ok (.iload 9, 2) := by decide +kernel
theorem dX4_gatherRun_53 : decode cX4_gatherRun 53 = .ok (.aload_n 2, 1) := by decide +kernel
theorem dX4_gatherRun_54 : decode cX4_gatherRun 54 = .ok (.getfield 77, 3) := by decide +kernel
theorem dX4_gatherRun_57 : decode cX4_gatherRun 57 = .ok (.if_icmp .ge 41, 3) := by decide +kernel
theorem dX4_gatherRun_60 : decode cX4_gatherRun 60 = .ok (.aload_n 2, 1) := by decide +kernel
theorem dX4_gatherRun_61 : decode cX4_gatherRun 61 = .ok (.getfield 80, 3) := by decide +kernel
theorem dX4_gatherRun_64 : decode cX4_gatherRun 64 = .ok (.iload 9, 2) := by decide +kernel
theorem dX4_gatherRun_66 : decode cX4_gatherRun 66 = .ok (.iaload, 1) := by decide +kernel
theorem dX4_gatherRun_67 : decode cX4_gatherRun 67 = .ok (.iload 5, 2) := by decide +kernel
theorem dX4_gatherRun_69 : decode cX4_gatherRun 69 = .ok (.if_icmp .ne 23, 3) := by decide +kernel
theorem dX4_gatherRun_72 : decode cX4_gatherRun 72 = .ok (.aload_n 2, 1) := by decide +kernel
theorem dX4_gatherRun_73 : decode cX4_gatherRun 73 = .ok (.getfield 83, 3) := by decide +kernel
theorem dX4_gatherRun_76 : decode cX4_gatherRun 76 = .ok (.iload_n 3, 1) := by decide +kernel
theorem dX4_gatherRun_77 : decode cX4_gatherRun 77 = .ok (.aaload, 1) := by decide +kernel
theorem dX4_gatherRun_78 : decode cX4_gatherRun 78 = .ok (.iload 9, 2) := by decide +kernel
theorem dX4_gatherRun_80 : decode cX4_gatherRun 80 = .ok (.iaload, 1) := by decide +kernel
theorem dX4_gatherRun_81 : decode cX4_gatherRun 81 = .ok (.iload 8, 2) := by decide +kernel
theorem dX4_gatherRun_83 : decode cX4_gatherRun 83 = .ok (.if_icmp .lt 9, 3) := by decide +kernel
theorem dX4_gatherRun_86 : decode cX4_gatherRun 86 = .ok (.aload_n 1, 1) := by decide +kernel
theorem dX4_gatherRun_87 : decode cX4_gatherRun 87 = .ok (.iload 8, 2) := by decide +kernel
theorem dX4_gatherRun_89 : decode cX4_gatherRun 89 = .ok (.invokevirtual 118, 3) := by decide +kernel
theorem dX4_gatherRun_92 : decode cX4_gatherRun 92 = .ok (.iinc 9 1, 3) := by decide +kernel
theorem dX4_gatherRun_95 : decode cX4_gatherRun 95 = .ok (.goto (-44), 3) := by decide +kernel
theorem dX4_gatherRun_98 : decode cX4_gatherRun 98 = .ok (.iinc 7 1, 3) := by decide +kernel
theorem dX4_gatherRun_101 : decode cX4_gatherRun 101 = .ok (.goto (-98), 3) := by decide +kernel
theorem dX4_gatherRun_104 : decode cX4_gatherRun 104 = .ok (.return_, 1) := by decide +kernel
theorem dX5_init_0 : decode cX5_init 0 = .ok (.aload_n 0, 1) := by decide +kernel
theorem dX5_init_1 : decode cX5_init 1 = .ok (.invokespecial 1, 3) := by decide +kernel
theorem dX5_init_4 : decode cX5_init 4 = .ok (.return_, 1) := by decide +kernel
theorem dX5_rowFrom_0 : decode cX5_rowFrom 0 = .ok (.aload_n 0, 1) := by decide +kernel
theorem dX5_rowFrom_1 : decode cX5_rowFrom 1 = .ok (.getfield 7, 3) := by decide +kernel
theorem dX5_rowFrom_4 : decode cX5_rowFrom 4 = .ok (.astore_n 2, 1) := by decide +kernel
theorem dX5_rowFrom_5 : decode cX5_rowFrom 5 = .ok (.aload_n 2, 1) := by decide +kernel
theorem dX5_rowFrom_6 : decode cX5_rowFrom 6 = .ok (.ifnull 21, 3) := by decide +kernel
theorem dX5_rowFrom_9 : decode cX5_rowFrom 9 = .ok (.aload_n 2, 1) := by decide +kernel
theorem dX5_rowFrom_10 : decode cX5_rowFrom 10 = .ok (.getfield 13, 3) := by decide +kernel
theorem dX5_rowFrom_13 : decode cX5_rowFrom 13 = .ok (.iload_n 1, 1) := by decide +kernel
theorem dX5_rowFrom_14 : decode cX5_rowFrom 14 = .ok (.if_icmp .ne 5, 3) := by decide +kernel
theorem dX5_rowFrom_17 : decode cX5_rowFrom 17 = .ok (.aload_n 2, 1) := by decide +kernel
theorem dX5_rowFrom_18 : decode cX5_rowFrom 18 = .ok (.areturn, 1) := by decide +kernel
theorem dX5_rowFrom_19 : decode cX5_rowFrom 19 = .ok (.aload_n 2, 1) := by decide +kernel
theorem dX5_rowFrom_20 : decode cX5_rowFrom 20 = .ok (.getfield 19, 3) := by decide +kernel
theorem dX5_rowFrom_23 : decode cX5_rowFrom 23 = .ok (.astore_n 2, 1) := by decide +kernel
theorem dX5_rowFrom_24 : decode cX5_rowFrom 24 = .ok (.goto (-19), 3) := by decide +kernel
theorem dX5_rowFrom_27 : decode cX5_rowFrom 27 = .ok (.aconst_null, 1) := by decide +kernel
theorem dX5_rowFrom_28 : decode cX5_rowFrom 28 = .ok (.areturn, 1) := by decide +kernel
theorem dX5_addRow_0 : decode cX5_addRow 0 = .ok (.aconst_null, 1) := by decide +kernel
theorem dX5_addRow_1 : decode cX5_addRow 1 = .ok (.astore_n 3, 1) := by decide +kernel
theorem dX5_addRow_2 : decode cX5_addRow 2 = .ok (.aload_n 0, 1) := by decide +kernel
theorem dX5_addRow_3 : decode cX5_addRow 3 = .ok (.getfield 7, 3) := by decide +kernel
theorem dX5_addRow_6 : decode cX5_addRow 6 = .ok (.astore 4, 2) := by decide +kernel
theorem dX5_addRow_8 : decode cX5_addRow 8 = .ok (.aload 4, 2) := by decide +kernel
theorem dX5_addRow_10 : decode cX5_addRow 10 = .ok (.ifnull 25, 3) := by decide +kernel
theorem dX5_addRow_13 : decode cX5_addRow 13 = .ok (.aload 4, 2) := by decide +kernel
theorem dX5_addRow_15 : decode cX5_addRow 15 = .ok (.getfield 13, 3) := by decide +kernel
theorem dX5_addRow_18 : decode cX5_addRow 18 = .ok (.iload_n 1, 1) := by decide +kernel
theorem dX5_addRow_19 : decode cX5_addRow 19 = .ok (.if_icmp .le 16, 3) := by decide +kernel
theorem dX5_addRow_22 : decode cX5_addRow 22 = .ok (.aload 4, 2) := by decide +kernel
theorem dX5_addRow_24 : decode cX5_addRow 24 = .ok (.astore_n 3, 1) := by decide +kernel
theorem dX5_addRow_25 : decode cX5_addRow 25 = .ok (.aload 4, 2) := by decide +kernel
theorem dX5_addRow_27 : decode cX5_addRow 27 = .ok (.getfield 19, 3) := by decide +kernel
theorem dX5_addRow_30 : decode cX5_addRow 30 = .ok (.astore 4, 2) := by decide +kernel
theorem dX5_addRow_32 : decode cX5_addRow 32 = .ok (.goto (-24), 3) := by decide +kernel
theorem dX5_addRow_35 : decode cX5_addRow 35 = .ok (.aload_n 3, 1) := by decide +kernel
theorem dX5_addRow_36 : decode cX5_addRow 36 = .ok (.ifnonnull 23, 3) := by decide +kernel
theorem dX5_addRow_39 : decode cX5_addRow 39 = .ok (.aload_n 0, 1) := by decide +kernel
theorem dX5_addRow_40 : decode cX5_addRow 40 = .ok (.new 14, 3) := by decide +kernel
theorem dX5_addRow_43 : decode cX5_addRow 43 = .ok (.dup, 1) := by decide +kernel
theorem dX5_addRow_44 : decode cX5_addRow 44 = .ok (.iload_n 1, 1) := by decide +kernel
theorem dX5_addRow_45 : decode cX5_addRow 45 = .ok (.iload_n 2, 1) := by decide +kernel
theorem dX5_addRow_46 : decode cX5_addRow 46 = .ok (.aload_n 0, 1) := by decide +kernel
theorem dX5_addRow_47 : decode cX5_addRow 47 = .ok (.getfield 7, 3) := by decide +kernel
theorem dX5_addRow_50 : decode cX5_addRow 50 = .ok (.invokespecial 22, 3) := by decide +kernel
theorem dX5_addRow_53 : decode cX5_addRow 53 = .ok (.putfield 7, 3) := by decide +kernel
theorem dX5_addRow_56 : decode cX5_addRow 56 = .ok (.goto 20, 3) := by decide +kernel
theorem dX5_addRow_59 : decode cX5_addRow 59 = .ok (.aload_n 3, 1) := by decide +kernel
theorem dX5_addRow_60 : decode cX5_addRow 60 = .ok (.new 14, 3) := by decide +kernel
theorem dX5_addRow_63 : decode cX5_addRow 63 = .ok (.dup, 1) := by decide +kernel
theorem dX5_addRow_64 : decode cX5_addRow 64 = .ok (.iload_n 1, 1) := by decide +kernel
theorem dX5_addRow_65 : decode cX5_addRow 65 = .ok (.iload_n 2, 1) := by decide +kernel
theorem dX5_addRow_66 : decode cX5_addRow 66 = .ok (.aload_n 3, 1) := by decide +kernel
theorem dX5_addRow_67 : decode cX5_addRow 67 = .ok (.getfield 19, 3) := by decide +kernel
theorem dX5_addRow_70 : decode cX5_addRow 70 = .ok (.invokespecial 22, 3) := by decide +kernel
theorem dX5_addRow_73 : decode cX5_addRow 73 = .ok (.putfield 19, 3) := by decide +kernel
theorem dX5_addRow_76 : decode cX5_addRow 76 = .ok (.aload_n 0, 1) := by decide +kernel
theorem dX5_addRow_77 : decode cX5_addRow 77 = .ok (.dup, 1) := by decide +kernel
theorem dX5_addRow_78 : decode cX5_addRow 78 = .ok (.getfield 25, 3) := by decide +kernel
theorem dX5_addRow_81 : decode cX5_addRow 81 = .ok (.iconst 1, 1) := by decide +kernel
theorem dX5_addRow_82 : decode cX5_addRow 82 = .ok (.iadd, 1) := by decide +kernel
theorem dX5_addRow_83 : decode cX5_addRow 83 = .ok (.putfield 25, 3) := by decide +kernel
theorem dX5_addRow_86 : decode cX5_addRow 86 = .ok (.return_, 1) := by decide +kernel
theorem dX5_minutesAt_0 : decode cX5_minutesAt 0 = .ok (.iconst 0, 1) := by decide +kernel
theorem dX5_minutesAt_1 : decode cX5_minutesAt 1 = .ok (.istore_n 2, 1) := by decide +kernel
theorem dX5_minutesAt_2 : decode cX5_minutesAt 2 = .ok (.aload_n 0, 1) := by decide +kernel
theorem dX5_minutesAt_3 : decode cX5_minutesAt 3 = .ok (.getfield 7, 3) := by decide +kernel
theorem dX5_minutesAt_6 : decode cX5_minutesAt 6 = .ok (.astore_n 3, 1) := by decide +kernel
theorem dX5_minutesAt_7 : decode cX5_minutesAt 7 = .ok (.aload_n 3, 1) := by decide +kernel
theorem dX5_minutesAt_8 : decode cX5_minutesAt 8 = .ok (.ifnull 26, 3) := by decide +kernel
theorem dX5_minutesAt_11 : decode cX5_minutesAt 11 = .ok (.aload_n 3, 1) := by decide +kernel
theorem dX5_minutesAt_12 : decode cX5_minutesAt 12 = .ok (.getfield 28, 3) := by decide +kernel
theorem dX5_minutesAt_15 : decode cX5_minutesAt 15 = .ok (.istore_n 2, 1) := by decide +kernel
theorem dX5_minutesAt_16 : decode cX5_minutesAt 16 = .ok (.aload_n 3, 1) := by decide +kernel
theorem dX5_minutesAt_17 : decode cX5_minutesAt 17 = .ok (.getfield 13, 3) := by decide +kernel
theorem dX5_minutesAt_20 : decode cX5_minutesAt 20 = .ok (.iload_n 1, 1) := by decide +kernel
theorem dX5_minutesAt_21 : decode cX5_minutesAt 21 = .ok (.if_icmp .gt 5, 3) := by decide +kernel
theorem dX5_minutesAt_24 : decode cX5_minutesAt 24 = .ok (.iload_n 2, 1) := by decide +kernel
theorem dX5_minutesAt_25 : decode cX5_minutesAt 25 = .ok (.ireturn, 1) := by decide +kernel
theorem dX5_minutesAt_26 : decode cX5_minutesAt 26 = .ok (.aload_n 3, 1) := by decide +kernel
theorem dX5_minutesAt_27 : decode cX5_minutesAt 27 = .ok (.getfield 19, 3) := by decide +kernel
theorem dX5_minutesAt_30 : decode cX5_minutesAt 30 = .ok (.astore_n 3, 1) := by decide +kernel
theorem dX5_minutesAt_31 : decode cX5_minutesAt 31 = .ok (.goto (-24), 3) := by decide +kernel
theorem dX5_minutesAt_34 : decode cX5_minutesAt 34 = .ok (.iload_n 2, 1) := by decide +kernel
theorem dX5_minutesAt_35 : decode cX5_minutesAt 35 = .ok (.ireturn, 1) := by decide +kernel
theorem dX6_init_0 : decode cX6_init 0 = .ok (.aload_n 0, 1) := by decide +kernel
theorem dX6_init_1 : decode cX6_init 1 = .ok (.invokespecial 3, 3) := by decide +kernel
theorem dX6_init_4 : decode cX6_init 4 = .ok (.aload_n 0, 1) := by decide +kernel
theorem dX6_init_5 : decode cX6_init 5 = .ok (.new 9, 3) := by decide +kernel
theorem dX6_init_8 : decode cX6_init 8 = .ok (.dup, 1) := by decide +kernel
theorem dX6_init_9 : decode cX6_init 9 = .ok (.invokespecial 11, 3) := by decide +kernel
theorem dX6_init_12 : decode cX6_init 12 = .ok (.putfield 12, 3) := by decide +kernel
theorem dX6_init_15 : decode cX6_init 15 = .ok (.aload_n 0, 1) := by decide +kernel
theorem dX6_init_16 : decode cX6_init 16 = .ok (.sipush 500, 3) := by decide +kernel
theorem dX6_init_19 : decode cX6_init 19 = .ok (.newarray .char, 2) := by decide +kernel
theorem dX6_init_21 : decode cX6_init 21 = .ok (.putfield 18, 3) := by decide +kernel
theorem dX6_init_24 : decode cX6_init 24 = .ok (.return_, 1) := by decide +kernel
theorem dX6_add_0 : decode cX6_add 0 = .ok (.aload_n 0, 1) := by decide +kernel
theorem dX6_add_1 : decode cX6_add 1 = .ok (.getfield 22, 3) := by decide +kernel
theorem dX6_add_4 : decode cX6_add 4 = .ok (.sipush 500, 3) := by decide +kernel
theorem dX6_add_7 : decode cX6_add 7 = .ok (.if_icmp .ge 23, 3) := by decide +kernel
theorem dX6_add_10 : decode cX6_add 10 = .ok (.aload_n 0, 1) := by decide +kernel
theorem dX6_add_11 : decode cX6_add 11 = .ok (.getfield 18, 3) := by decide +kernel
theorem dX6_add_14 : decode cX6_add 14 = .ok (.aload_n 0, 1) := by decide +kernel
theorem dX6_add_15 : decode cX6_add 15 = .ok (.getfield 22, 3) := by decide +kernel
theorem dX6_add_18 : decode cX6_add 18 = .ok (.iload_n 1, 1) := by decide +kernel
theorem dX6_add_19 : decode cX6_add 19 = .ok (.castore, 1) := by decide +kernel
theorem dX6_add_20 : decode cX6_add 20 = .ok (.aload_n 0, 1) := by decide +kernel
theorem dX6_add_21 : decode cX6_add 21 = .ok (.dup, 1) := by decide +kernel
theorem dX6_add_22 : decode cX6_add 22 = .ok (.getfield 22, 3) := by decide +kernel
theorem dX6_add_25 : decode cX6_add 25 = .ok (.iconst 1, 1) := by decide +kernel
theorem dX6_add_26 : decode cX6_add 26 = .ok (.iadd, 1) := by decide +kernel
theorem dX6_add_27 : decode cX6_add 27 = .ok (.putfield 22, 3) := by decide +kernel
theorem dX6_add_30 : decode cX6_add 30 = .ok (.return_, 1) := by decide +kernel
theorem dX6_clear_0 : decode cX6_clear 0 = .ok (.aload_n 0, 1) := by decide +kernel
theorem dX6_clear_1 : decode cX6_clear 1 = .ok (.iconst 0, 1) := by decide +kernel
theorem dX6_clear_2 : decode cX6_clear 2 = .ok (.putfield 22, 3) := by decide +kernel
theorem dX6_clear_5 : decode cX6_clear 5 = .ok (.aload_n 0, 1) := by decide +kernel
theorem dX6_clear_6 : decode cX6_clear 6 = .ok (.getfield 12, 3) := by decide +kernel
theorem dX6_clear_9 : decode cX6_clear 9 = .ok (.invokeinterface 26 1, 5) := by decide +kernel
theorem dX6_clear_14 : decode cX6_clear 14 = .ok (.return_, 1) := by decide +kernel
theorem dX6_parse_0 : decode cX6_parse 0 = .ok (.aload_n 0, 1) := by decide +kernel
theorem dX6_parse_1 : decode cX6_parse 1 = .ok (.iload_n 1, 1) := by decide +kernel
theorem dX6_parse_2 : decode cX6_parse 2 = .ok (.putfield 31, 3) := by decide +kernel
theorem dX6_parse_5 : decode cX6_parse 5 = .ok (.aload_n 0, 1) := by decide +kernel
theorem dX6_parse_6 : decode cX6_parse 6 = .ok (.iconst 0, 1) := by decide +kernel
theorem dX6_parse_7 : decode cX6_parse 7 = .ok (.putfield 34, 3) := by decide +kernel
theorem dX6_parse_10 : decode cX6_parse 10 = .ok (.aload_n 0, 1) := by decide +kernel
theorem dX6_parse_11 : decode cX6_parse 11 = .ok (.iconst (-1), 1) := by decide +kernel
theorem dX6_parse_12 : decode cX6_parse 12 = .ok (.putfield 37, 3) := by decide +kernel
theorem dX6_parse_15 : decode cX6_parse 15 = .ok (.aload_n 0, 1) := by decide +kernel
theorem dX6_parse_16 : decode cX6_parse 16 = .ok (.getfield 12, 3) := by decide +kernel
theorem dX6_parse_19 : decode cX6_parse 19 = .ok (.invokeinterface 26 1, 5) := by decide +kernel
theorem dX6_parse_24 : decode cX6_parse 24 = .ok (.aload_n 0, 1) := by decide +kernel
theorem dX6_parse_25 : decode cX6_parse 25 = .ok (.getfield 22, 3) := by decide +kernel
theorem dX6_parse_28 : decode cX6_parse 28 = .ok (.ifCond .ne 5, 3) := by decide +kernel
theorem dX6_parse_31 : decode cX6_parse 31 = .ok (.iconst 0, 1) := by decide +kernel
theorem dX6_parse_32 : decode cX6_parse 32 = .ok (.ireturn, 1) := by decide +kernel
theorem dX6_parse_33 : decode cX6_parse 33 = .ok (.aload_n 0, 1) := by decide +kernel
theorem dX6_parse_34 : decode cX6_parse 34 = .ok (.invokevirtual 40, 3) := by decide +kernel
theorem dX6_parse_37 : decode cX6_parse 37 = .ok (.iconst 1, 1) := by decide +kernel
theorem dX6_parse_38 : decode cX6_parse 38 = .ok (.istore_n 2, 1) := by decide +kernel
theorem dX6_parse_39 : decode cX6_parse 39 = .ok (.iload_n 2, 1) := by decide +kernel
theorem dX6_parse_40 : decode cX6_parse 40 = .ok (.aload_n 0, 1) := by decide +kernel
theorem dX6_parse_41 : decode cX6_parse 41 = .ok (.getfield 22, 3) := by decide +kernel
theorem dX6_parse_44 : decode cX6_parse 44 = .ok (.if_icmp .ge 38, 3) := by decide +kernel
theorem dX6_parse_47 : decode cX6_parse 47 = .ok (.aload_n 0, 1) := by decide +kernel
theorem dX6_parse_48 : decode cX6_parse 48 = .ok (.getfield 37, 3) := by decide +kernel
theorem dX6_parse_51 : decode cX6_parse 51 = .ok (.iconst (-1), 1) := by decide +kernel
theorem dX6_parse_52 : decode cX6_parse 52 = .ok (.if_icmp .ne 30, 3) := by decide +kernel
theorem dX6_parse_55 : decode cX6_parse 55 = .ok (.aload_n 0, 1) := by decide +kernel
theorem dX6_parse_56 : decode cX6_parse 56 = .ok (.getfield 34, 3) := by decide +kernel
theorem dX6_parse_59 : decode cX6_parse 59 = .ok (.aload_n 0, 1) := by decide +kernel
theorem dX6_parse_60 : decode cX6_parse 60 = .ok (.getfield 22, 3) := by decide +kernel
theorem dX6_parse_63 : decode cX6_parse 63 = .ok (.if_icmp .ge 19, 3) := by decide +kernel
theorem dX6_parse_66 : decode cX6_parse 66 = .ok (.aload_n 0, 1) := by decide +kernel
theorem dX6_parse_67 : decode cX6_parse 67 = .ok (.bipush 59, 2) := by decide +kernel
theorem dX6_parse_69 : decode cX6_parse 69 = .ok (.invokevirtual 43, 3) := by decide +kernel
theorem dX6_parse_72 : decode cX6_parse 72 = .ok (.aload_n 0, 1) := by decide +kernel
theorem dX6_parse_73 : decode cX6_parse 73 = .ok (.invokevirtual 40, 3) := by decide +kernel
theorem dX6_parse_76 : decode cX6_parse 76 = .ok (.iinc 2 1, 3) := by decide +kernel
theorem dX6_parse_79 : decode cX6_parse 79 = .ok (.goto (-40), 3) := by decide +kernel
theorem dX6_parse_82 : decode cX6_parse 82 = .ok (.aload_n 0, 1) := by decide +kernel
theorem dX6_parse_83 : decode cX6_parse 83 = .ok (.getfield 37, 3) := by decide +kernel
theorem dX6_parse_86 : decode cX6_parse 86 = .ok (.iconst (-1), 1) := by decide +kernel
theorem dX6_parse_87 : decode cX6_parse 87 = .ok (.if_icmp .ne 15, 3) := by decide +kernel
theorem dX6_parse_90 : decode cX6_parse 90 = .ok (.aload_n 0, 1) := by decide +kernel
theorem dX6_parse_91 : decode cX6_parse 91 = .ok (.getfield 12, 3) := by decide +kernel
theorem dX6_parse_94 : decode cX6_parse 94 = .ok (.invokeinterface 47 1, 5) := by decide +kernel
theorem dX6_parse_99 : decode cX6_parse 99 = .ok (.goto 9, 3) := by decide +kernel
theorem dX6_parse_102 : decode cX6_parse 102 = .ok (.iconst (-1), 1) := by decide +kernel
theorem dX6_parse_103 : decode cX6_parse 103 = .ok (.aload_n 0, 1) := by decide +kernel
theorem dX6_parse_104 : decode cX6_parse 104 = .ok (.getfield 37, 3) := by decide +kernel
theorem dX6_parse_107 : decode cX6_parse 107 = .ok (.isub, 1) := by decide +kernel
theorem dX6_parse_108 : decode cX6_parse 108 = .ok (.ireturn, 1) := by decide +kernel
theorem dX6_parseItem_0 : decode cX6_parseItem 0 = .ok (.aload_n 0, 1) := by decide +kernel
theorem dX6_parseItem_1 : decode cX6_parseItem 1 = .ok (.getfield 37, 3) := by decide +kernel
theorem dX6_parseItem_4 : decode cX6_parseItem 4 = .ok (.iconst (-1), 1) := by decide +kernel
theorem dX6_parseItem_5 : decode cX6_parseItem 5 = .ok (.if_icmp .eq 4, 3) := by decide +kernel
theorem dX6_parseItem_8 : decode cX6_parseItem 8 = .ok (.return_, 1) := by decide +kernel
theorem dX6_parseItem_9 : decode cX6_parseItem 9 = .ok (.aload_n 0, 1) := by decide +kernel
theorem dX6_parseItem_10 : decode cX6_parseItem 10 = .ok (.bipush 76, 2) := by decide +kernel
theorem dX6_parseItem_12 : decode cX6_parseItem 12 = .ok (.invokevirtual 51, 3) := by decide +kernel
theorem dX6_parseItem_15 : decode cX6_parseItem 15 = .ok (.ifCond .eq 36, 3) := by decide +kernel
theorem dX6_parseItem_18 : decode cX6_parseItem 18 = .ok (.aload_n 0, 1) := by decide +kernel
theorem dX6_parseItem_19 : decode cX6_parseItem 19 = .ok (.getfield 12, 3) := by decide +kernel
theorem dX6_parseItem_22 : decode cX6_parseItem 22 = .ok (.invokeinterface 47 1, 5) := by decide +kernel
theorem dX6_parseItem_27 : decode cX6_parseItem 27 = .ok (.aload_n 0, 1) := by decide +kernel
theorem dX6_parseItem_28 : decode cX6_parseItem 28 = .ok (.getfield 31, 3) := by decide +kernel
theorem dX6_parseItem_31 : decode cX6_parseItem 31 = .ok (.if_icmp .ge 20, 3) := by decide +kernel
theorem dX6_parseItem_34 : decode cX6_parseItem 34 = .ok (.aload_n 0, 1) := by decide +kernel
theorem dX6_parseItem_35 : decode cX6_parseItem 35 = .ok (.dup, 1) := by decide +kernel
theorem dX6_parseItem_36 : decode cX6_parseItem 36 = .ok (.getfield 34, 3) := by decide +kernel
theorem dX6_parseItem_39 : decode cX6_parseItem 39 = .ok (.iconst 1, 1) := by decide +kernel
theorem dX6_parseItem_40 : decode cX6_parseItem 40 = .ok (.iadd, 1) := by decide +kernel
theorem dX6_parseItem_41 : decode cX6_parseItem 41 = .ok (.putfield 34, 3) := by decide +kernel
theorem dX6_parseItem_44 : decode cX6_parseItem 44 = .ok (.aload_n 0, 1) := by decide +kernel
theorem dX6_parseItem_45 : decode cX6_parseItem 45 = .ok (.invokevirtual 55, 3) := by decide +kernel
theorem dX6_parseItem_48 : decode cX6_parseItem 48 = .ok (.goto 67, 3) := by decide +kernel
theorem dX6_parseItem_51 : decode cX6_parseItem 51 = .ok (.aload_n 0, 1) := by decide +kernel
theorem dX6_parseItem_52 : decode cX6_parseItem 52 = .ok (.bipush 83, 2) := by decide +kernel
theorem dX6_parseItem_54 : decode cX6_parseItem 54 = .ok (.invokevirtual 51, 3) := by decide +kernel
theorem dX6_parseItem_57 : decode cX6_parseItem 57 = .ok (.ifCond .eq 50, 3) := by decide +kernel
theorem dX6_parseItem_60 : decode cX6_parseItem 60 = .ok (.aload_n 0, 1) := by decide +kernel
theorem dX6_parseItem_61 : decode cX6_parseItem 61 = .ok (.invokevirtual 58, 3) := by decide +kernel
theorem dX6_parseItem_64 : decode cX6_parseItem 64 = .ok (.ifCond .eq 43, 3) := by decide +kernel
theorem dX6_parseItem_67 : decode cX6_parseItem 67 = .ok (.aload_n 0, 1) := by decide +kernel
theorem dX6_parseItem_68 : decode cX6_parseItem 68 = .ok (.dup, 1) := by decide +kernel
theorem dX6_parseItem_69 : decode cX6_parseItem 69 = .ok (.getfield 34, 3) := by decide +kernel
theorem dX6_parseItem_72 : decode cX6_parseItem 72 = .ok (.iconst 1, 1) := by decide +kernel
theorem dX6_parseItem_73 : decode cX6_parseItem 73 = .ok (.iadd, 1) := by decide +kernel
theorem dX6_parseItem_74 : decode cX6_parseItem 74 = .ok (.putfield 34, 3) := by decide +kernel
theorem dX6_parseItem_77 : decode cX6_parseItem 77 = .ok (.aload_n 0, 1) := by decide +kernel
theorem dX6_parseItem_78 : decode cX6_parseItem 78 = .ok (.aload_n 0, 1) := by decide +kernel
theorem dX6_parseItem_79 : decode cX6_parseItem 79 = .ok (.getfield 12, 3) := by decide +kernel
theorem dX6_parseItem_82 : decode cX6_parseItem 82 = .ok (.aload_n 0, 1) := by decide +kernel
theorem dX6_parseItem_83 : decode cX6_parseItem 83 = .ok (.getfield 12, 3) := by decide +kernel
theorem dX6_parseItem_86 : decode cX6_parseItem 86 = .ok (.invokeinterface 47 1, 5) := by decide +kernel
theorem dX6_parseItem_91 : decode cX6_parseItem 91 = .ok (.iconst 1, 1) := by decide +kernel
theorem dX6_parseItem_92 : decode cX6_parseItem 92 = .ok (.isub, 1) := by decide +kernel
theorem dX6_parseItem_93 : decode cX6_parseItem 93 = .ok (.invokeinterface 62 2, 5) := by decide +kernel
theorem dX6_parseItem_98 : decode cX6_parseItem 98 = .ok (.checkcast 66, 3) := by decide +kernel
theorem dX6_parseItem_101 : decode cX6_parseItem 101 = .ok (.invokevirtual 68, 3) := by decide +kernel
theorem dX6_parseItem_104 : decode cX6_parseItem 104 = .ok (.goto 11, 3) := by decide +kernel
theorem dX6_parseItem_107 : decode cX6_parseItem 107 = .ok (.aload_n 0, 1) := by decide +kernel
theorem dX6_parseItem_108 : decode cX6_parseItem 108 = .ok (.aload_n 0, 1) := by decide +kernel
theorem dX6_parseItem_109 : decode cX6_parseItem 109 = .ok (.getfield 34, 3) := by decide +kernel
theorem dX6_parseItem_112 : decode cX6_parseItem 112 = .ok (.putfield 37, 3) := by decide +kernel
theorem dX6_parseItem_115 : decode cX6_parseItem 115 = .ok (.return_, 1) := by decide +kernel
theorem dX6_lastHasRoom_0 : decode cX6_lastHasRoom 0 = .ok (.aload_n 0, 1) := by decide +kernel
theorem dX6_lastHasRoom_1 : decode cX6_lastHasRoom 1 = .ok (.getfield 12, 3) := by decide +kernel
theorem dX6_lastHasRoom_4 : decode cX6_lastHasRoom 4 = .ok (.invokeinterface 72 1, 5) := by decide +kernel
theorem dX6_lastHasRoom_9 : decode cX6_lastHasRoom 9 = .ok (.ifCond .ne 36, 3) := by decide +kernel
theorem dX6_lastHasRoom_12 : decode cX6_lastHasRoom 12 = .ok (.aload_n 0, 1) := by decide +kernel
theorem dX6_lastHasRoom_13 : decode cX6_lastHasRoom 13 = .ok (.getfield 12, 3) := by decide +kernel
theorem dX6_lastHasRoom_16 : decode cX6_lastHasRoom 16 = .ok (.aload_n 0, 1) := by decide +kernel
theorem dX6_lastHasRoom_17 : decode cX6_lastHasRoom 17 = .ok (.getfield 12, 3) := by decide +kernel
theorem dX6_lastHasRoom_20 : decode cX6_lastHasRoom 20 = .ok (.invokeinterface 47 1, 5) := by decide +kernel
theorem dX6_lastHasRoom_25 : decode cX6_lastHasRoom 25 = .ok (.iconst 1, 1) := by decide +kernel
theorem dX6_lastHasRoom_26 : decode cX6_lastHasRoom 26 = .ok (.isub, 1) := by decide +kernel
theorem dX6_lastHasRoom_27 : decode cX6_lastHasRoom 27 = .ok (.invokeinterface 62 2, 5) := by decide +kernel
theorem dX6_lastHasRoom_32 : decode cX6_lastHasRoom 32 = .ok (.checkcast 66, 3) := by decide +kernel
theorem dX6_lastHasRoom_35 : decode cX6_lastHasRoom 35 = .ok (.invokevirtual 75, 3) := by decide +kernel
theorem dX6_lastHasRoom_38 : decode cX6_lastHasRoom 38 = .ok (.ifCond .eq 7, 3) := by decide +kernel
theorem dX6_lastHasRoom_41 : decode cX6_lastHasRoom 41 = .ok (.iconst 1, 1) := by decide +kernel
theorem dX6_lastHasRoom_42 : decode cX6_lastHasRoom 42 = .ok (.goto 4, 3) := by decide +kernel
theorem dX6_lastHasRoom_45 : decode cX6_lastHasRoom 45 = .ok (.iconst 0, 1) := by decide +kernel
theorem dX6_lastHasRoom_46 : decode cX6_lastHasRoom 46 = .ok (.ireturn, 1) := by decide +kernel
theorem dX6_parseLine_0 : decode cX6_parseLine 0 = .ok (.aload_n 0, 1) := by decide +kernel
theorem dX6_parseLine_1 : decode cX6_parseLine 1 = .ok (.iconst 0, 1) := by decide +kernel
theorem dX6_parseLine_2 : decode cX6_parseLine 2 = .ok (.bipush 127, 2) := by decide +kernel
theorem dX6_parseLine_4 : decode cX6_parseLine 4 = .ok (.invokevirtual 78, 3) := by decide +kernel
theorem dX6_parseLine_7 : decode cX6_parseLine 7 = .ok (.istore_n 1, 1) := by decide +kernel
theorem dX6_parseLine_8 : decode cX6_parseLine 8 = .ok (.aload_n 0, 1) := by decide +kernel
theorem dX6_parseLine_9 : decode cX6_parseLine 9 = .ok (.getfield 37, 3) := by decide +kernel
theorem dX6_parseLine_12 : decode cX6_parseLine 12 = .ok (.iconst (-1), 1) := by decide +kernel
theorem dX6_parseLine_13 : decode cX6_parseLine 13 = .ok (.if_icmp .ne 21, 3) := by decide +kernel
theorem dX6_parseLine_16 : decode cX6_parseLine 16 = .ok (.aload_n 0, 1) := by decide +kernel
theorem dX6_parseLine_17 : decode cX6_parseLine 17 = .ok (.getfield 12, 3) := by decide +kernel
theorem dX6_parseLine_20 : decode cX6_parseLine 20 = .ok (.new 66, 3) := by decide +kernel
theorem dX6_parseLine_23 : decode cX6_parseLine 23 = .ok (.dup, 1) := by decide +kernel
theorem dX6_parseLine_24 : decode cX6_parseLine 24 = .ok (.iload_n 1, 1) := by decide +kernel
theorem dX6_parseLine_25 : decode cX6_parseLine 25 = .ok (.invokespecial 82, 3) := by decide +kernel
theorem dX6_parseLine_28 : decode cX6_parseLine 28 = .ok (.invokeinterface 85 2, 5) := by decide +kernel
theorem dX6_parseLine_33 : decode cX6_parseLine 33 = .ok (.pop, 1) := by decide +kernel
theorem dX6_parseLine_34 : decode cX6_parseLine 34 = .ok (.return_, 1) := by decide +kernel
theorem dX6_parseStop_0 : decode cX6_parseStop 0 = .ok (.aload_n 0, 1) := by decide +kernel
theorem dX6_parseStop_1 : decode cX6_parseStop 1 = .ok (.iconst 0, 1) := by decide +kernel
theorem dX6_parseStop_2 : decode cX6_parseStop 2 = .ok (.bipush 99, 2) := by decide +kernel
theorem dX6_parseStop_4 : decode cX6_parseStop 4 = .ok (.invokevirtual 78, 3) := by decide +kernel
theorem dX6_parseStop_7 : decode cX6_parseStop 7 = .ok (.istore_n 2, 1) := by decide +kernel
theorem dX6_parseStop_8 : decode cX6_parseStop 8 = .ok (.aload_n 0, 1) := by decide +kernel
theorem dX6_parseStop_9 : decode cX6_parseStop 9 = .ok (.bipush 32, 2) := by decide +kernel
theorem dX6_parseStop_11 : decode cX6_parseStop 11 = .ok (.invokevirtual 43, 3) := by decide +kernel
theorem dX6_parseStop_14 : decode cX6_parseStop 14 = .ok (.aload_n 0, 1) := by decide +kernel
theorem dX6_parseStop_15 : decode cX6_parseStop 15 = .ok (.aload_n 1, 1) := by decide +kernel
theorem dX6_parseStop_16 : decode cX6_parseStop 16 = .ok (.invokevirtual 89, 3) := by decide +kernel
theorem dX6_parseStop_19 : decode cX6_parseStop 19 = .ok (.ldc 92, 2) := by decide +kernel
theorem dX6_parseStop_21 : decode cX6_parseStop 21 = .ok (.invokevirtual 78, 3) := by decide +kernel
theorem dX6_parseStop_24 : decode cX6_parseStop 24 = .ok (.istore_n 3, 1) := by decide +kernel
theorem dX6_parseStop_25 : decode cX6_parseStop 25 = .ok (.aload_n 0, 1) := by decide +kernel
theorem dX6_parseStop_26 : decode cX6_parseStop 26 = .ok (.bipush 32, 2) := by decide +kernel
theorem dX6_parseStop_28 : decode cX6_parseStop 28 = .ok (.invokevirtual 43, 3) := by decide +kernel
theorem dX6_parseStop_31 : decode cX6_parseStop 31 = .ok (.aload_n 0, 1) := by decide +kernel
theorem dX6_parseStop_32 : decode cX6_parseStop 32 = .ok (.iload_n 3, 1) := by decide +kernel
theorem dX6_parseStop_33 : decode cX6_parseStop 33 = .ok (.ldc 92, 2) := by decide +kernel
theorem dX6_parseStop_35 : decode cX6_parseStop 35 = .ok (.invokevirtual 78, 3) := by decide +kernel
theorem dX6_parseStop_38 : decode cX6_parseStop 38 = .ok (.istore 4, 2) := by decide +kernel
theorem dX6_parseStop_40 : decode cX6_parseStop 40 = .ok (.aload_n 0, 1) := by decide +kernel
theorem dX6_parseStop_41 : decode cX6_parseStop 41 = .ok (.getfield 37, 3) := by decide +kernel
theorem dX6_parseStop_44 : decode cX6_parseStop 44 = .ok (.iconst (-1), 1) := by decide +kernel
theorem dX6_parseStop_45 : decode cX6_parseStop 45 = .ok (.if_icmp .ne 11, 3) := by decide +kernel
theorem dX6_parseStop_48 : decode cX6_parseStop 48 = .ok (.aload_n 1, 1) := by decide +kernel
theorem dX6_parseStop_49 : decode cX6_parseStop 49 = .ok (.iload_n 2, 1) := by decide +kernel
theorem dX6_parseStop_50 : decode cX6_parseStop 50 = .ok (.iload_n 3, 1) := by decide +kernel
theorem dX6_parseStop_51 : decode cX6_parseStop 51 = .ok (.iload 4, 2) := by decide +kernel
theorem dX6_parseStop_53 : decode cX6_parseStop 53 = .ok (.invokevirtual 93, 3) := by decide +kernel
theorem dX6_parseStop_56 : decode cX6_parseStop 56 = .ok (.return_, 1) := by decide +kernel
theorem dX6_stands_0 : decode cX6_stands 0 = .ok (.aload_n 0, 1) := by decide +kernel
theorem dX6_stands_1 : decode cX6_stands 1 = .ok (.getfield 34, 3) := by decide +kernel
theorem dX6_stands_4 : decode cX6_stands 4 = .ok (.aload_n 0, 1) := by decide +kernel
theorem dX6_stands_5 : decode cX6_stands 5 = .ok (.getfield 22, 3) := by decide +kernel
theorem dX6_stands_8 : decode cX6_stands 8 = .ok (.if_icmp .ge 20, 3) := by decide +kernel
theorem dX6_stands_11 : decode cX6_stands 11 = .ok (.aload_n 0, 1) := by decide +kernel
theorem dX6_stands_12 : decode cX6_stands 12 = .ok (.getfield 18, 3) := by decide +kernel
theorem dX6_stands_15 : decode cX6_stands 15 = .ok (.aload_n 0, 1) := by decide +kernel
theorem dX6_stands_16 : decode cX6_stands 16 = .ok (.getfield 34, 3) := by decide +kernel
theorem dX6_stands_19 : decode cX6_stands 19 = .ok (.caload, 1) := by decide +kernel
theorem dX6_stands_20 : decode cX6_stands 20 = .ok (.iload_n 1, 1) := by decide +kernel
theorem dX6_stands_21 : decode cX6_stands 21 = .ok (.if_icmp .ne 7, 3) := by decide +kernel
theorem dX6_stands_24 : decode cX6_stands 24 = .ok (.iconst 1, 1) := by decide +kernel
theorem dX6_stands_25 : decode cX6_stands 25 = .ok (.goto 4, 3) := by decide +kernel
theorem dX6_stands_28 : decode cX6_stands 28 = .ok (.iconst 0, 1) := by decide +kernel
theorem dX6_stands_29 : decode cX6_stands 29 = .ok (.ireturn, 1) := by decide +kernel
theorem dX6_parseSign_0 : decode cX6_parseSign 0 = .ok (.aload_n 0, 1) := by decide +kernel
theorem dX6_parseSign_1 : decode cX6_parseSign 1 = .ok (.getfield 37, 3) := by decide +kernel
theorem dX6_parseSign_4 : decode cX6_parseSign 4 = .ok (.iconst (-1), 1) := by decide +kernel
theorem dX6_parseSign_5 : decode cX6_parseSign 5 = .ok (.if_icmp .eq 4, 3) := by decide +kernel
theorem dX6_parseSign_8 : decode cX6_parseSign 8 = .ok (.return_, 1) := by decide +kernel
theorem dX6_parseSign_9 : decode cX6_parseSign 9 = .ok (.aload_n 0, 1) := by decide +kernel
theorem dX6_parseSign_10 : decode cX6_parseSign 10 = .ok (.iload_n 1, 1) := by decide +kernel
theorem dX6_parseSign_11 : decode cX6_parseSign 11 = .ok (.invokevirtual 51, 3) := by decide +kernel
theorem dX6_parseSign_14 : decode cX6_parseSign 14 = .ok (.ifCond .eq 16, 3) := by decide +kernel
theorem dX6_parseSign_17 : decode cX6_parseSign 17 = .ok (.aload_n 0, 1) := by decide +kernel
theorem dX6_parseSign_18 : decode cX6_parseSign 18 = .ok (.dup, 1) := by decide +kernel
theorem dX6_parseSign_19 : decode cX6_parseSign 19 = .ok (.getfield 34, 3) := by decide +kernel
theorem dX6_parseSign_22 : decode cX6_parseSign 22 = .ok (.iconst 1, 1) := by decide +kernel
theorem dX6_parseSign_23 : decode cX6_parseSign 23 = .ok (.iadd, 1) := by decide +kernel
theorem dX6_parseSign_24 : decode cX6_parseSign 24 = .ok (.putfield 34, 3) := by decide +kernel
theorem dX6_parseSign_27 : decode cX6_parseSign 27 = .ok (.goto 11, 3) := by decide +kernel
theorem dX6_parseSign_30 : decode cX6_parseSign 30 = .ok (.aload_n 0, 1) := by decide +kernel
theorem dX6_parseSign_31 : decode cX6_parseSign 31 = .ok (.aload_n 0, 1) := by decide +kernel
theorem dX6_parseSign_32 : decode cX6_parseSign 32 = .ok (.getfield 34, 3) := by decide +kernel
theorem dX6_parseSign_35 : decode cX6_parseSign 35 = .ok (.putfield 37, 3) := by decide +kernel
theorem dX6_parseSign_38 : decode cX6_parseSign 38 = .ok (.return_, 1) := by decide +kernel
theorem dX6_parseNumber_0 : decode cX6_parseNumber 0 = .ok (.aload_n 0, 1) := by decide +kernel
theorem dX6_parseNumber_1 : decode cX6_parseNumber 1 = .ok (.getfield 37, 3) := by decide +kernel
theorem dX6_parseNumber_4 : decode cX6_parseNumber 4 = .ok (.iconst (-1), 1) := by decide +kernel
theorem dX6_parseNumber_5 : decode cX6_parseNumber 5 = .ok (.if_icmp .eq 5, 3) := by decide +kernel
theorem dX6_parseNumber_8 : decode cX6_parseNumber 8 = .ok (.iconst 0, 1) := by decide +kernel
theorem dX6_parseNumber_9 : decode cX6_parseNumber 9 = .ok (.ireturn, 1) := by decide +kernel
theorem dX6_parseNumber_10 : decode cX6_parseNumber 10 = .ok (.aload_n 0, 1) := by decide +kernel
theorem dX6_parseNumber_11 : decode cX6_parseNumber 11 = .ok (.getfield 34, 3) := by decide +kernel
theorem dX6_parseNumber_14 : decode cX6_parseNumber 14 = .ok (.istore_n 3, 1) := by decide +kernel
theorem dX6_parseNumber_15 : decode cX6_parseNumber 15 = .ok (.iconst 0, 1) := by decide +kernel
theorem dX6_parseNumber_16 : decode cX6_parseNumber 16 = .ok (.istore 4, 2) := by decide +kernel
theorem dX6_parseNumber_18 : decode cX6_parseNumber 18 = .ok (.aload_n 0, 1) := by decide +kernel
theorem dX6_parseNumber_19 : decode cX6_parseNumber 19 = .ok (.getfield 34, 3) := by decide +kernel
theorem dX6_parseNumber_22 : decode cX6_parseNumber 22 = .ok (.aload_n 0, 1) := by decide +kernel
theorem dX6_parseNumber_23 : decode cX6_parseNumber 23 = .ok (.getfield 22, 3) := by decide +kernel
theorem dX6_parseNumber_26 : decode cX6_parseNumber 26 = .ok (.if_icmp .ge 75, 3) := by decide +kernel
theorem dX6_parseNumber_29 : decode cX6_parseNumber 29 = .ok (.aload_n 0, 1) := by decide +kernel
theorem dX6_parseNumber_30 : decode cX6_parseNumber 30 = .ok (.getfield 34, 3) := by decide +kernel
theorem dX6_parseNumber_33 : decode cX6_parseNumber 33 = .ok (.iload_n 3, 1) := by decide +kernel
theorem dX6_parseNumber_34 : decode cX6_parseNumber 34 = .ok (.bipush 6, 2) := by decide +kernel
theorem dX6_parseNumber_36 : decode cX6_parseNumber 36 = .ok (.iadd, 1) := by decide +kernel
theorem dX6_parseNumber_37 : decode cX6_parseNumber 37 = .ok (.if_icmp .ge 64, 3) := by decide +kernel
theorem dX6_parseNumber_40 : decode cX6_parseNumber 40 = .ok (.aload_n 0, 1) := by decide +kernel
theorem dX6_parseNumber_41 : decode cX6_parseNumber 41 = .ok (.getfield 18, 3) := by decide +kernel
theorem dX6_parseNumber_44 : decode cX6_parseNumber 44 = .ok (.aload_n 0, 1) := by decide +kernel
theorem dX6_parseNumber_45 : decode cX6_parseNumber 45 = .ok (.getfield 34, 3) := by decide +kernel
theorem dX6_parseNumber_48 : decode cX6_parseNumber 48 = .ok (.caload, 1) := by decide +kernel
theorem dX6_parseNumber_49 : decode cX6_parseNumber 49 = .ok (.bipush 48, 2) := by decide +kernel
theorem dX6_parseNumber_51 : decode cX6_parseNumber 51 = .ok (.if_icmp .lt 50, 3) := by decide +kernel
theorem dX6_parseNumber_54 : decode cX6_parseNumber 54 = .ok (.aload_n 0, 1) := by decide +kernel
theorem dX6_parseNumber_55 : decode cX6_parseNumber 55 = .ok (.getfield 18, 3) := by decide +kernel
theorem dX6_parseNumber_58 : decode cX6_parseNumber 58 = .ok (.aload_n 0, 1) := by decide +kernel
theorem dX6_parseNumber_59 : decode cX6_parseNumber 59 = .ok (.getfield 34, 3) := by decide +kernel
theorem dX6_parseNumber_62 : decode cX6_parseNumber 62 = .ok (.caload, 1) := by decide +kernel
theorem dX6_parseNumber_63 : decode cX6_parseNumber 63 = .ok (.bipush 57, 2) := by decide +kernel
theorem dX6_parseNumber_65 : decode cX6_parseNumber 65 = .ok (.if_icmp .gt 36, 3) := by decide +kernel
theorem dX6_parseNumber_68 : decode cX6_parseNumber 68 = .ok (.bipush 10, 2) := by decide +kernel
theorem dX6_parseNumber_70 : decode cX6_parseNumber 70 = .ok (.iload 4, 2) := by decide +kernel
theorem dX6_parseNumber_72 : decode cX6_parseNumber 72 = .ok (.imul, 1) := by decide +kernel
theorem dX6_parseNumber_73 : decode cX6_parseNumber 73 = .ok (.aload_n 0, 1) := by decide +kernel
theorem dX6_parseNumber_74 : decode cX6_parseNumber 74 = .ok (.getfield 18, 3) := by decide +kernel
theorem dX6_parseNumber_77 : decode cX6_parseNumber 77 = .ok (.aload_n 0, 1) := by decide +kernel
theorem dX6_parseNumber_78 : decode cX6_parseNumber 78 = .ok (.getfield 34, 3) := by decide +kernel
theorem dX6_parseNumber_81 : decode cX6_parseNumber 81 = .ok (.caload, 1) := by decide +kernel
theorem dX6_parseNumber_82 : decode cX6_parseNumber 82 = .ok (.bipush 48, 2) := by decide +kernel
theorem dX6_parseNumber_84 : decode cX6_parseNumber 84 = .ok (.isub, 1) := by decide +kernel
theorem dX6_parseNumber_85 : decode cX6_parseNumber 85 = .ok (.iadd, 1) := by decide +kernel
theorem dX6_parseNumber_86 : decode cX6_parseNumber 86 = .ok (.istore 4, 2) := by decide +kernel
theorem dX6_parseNumber_88 : decode cX6_parseNumber 88 = .ok (.aload_n 0, 1) := by decide +kernel
theorem dX6_parseNumber_89 : decode cX6_parseNumber 89 = .ok (.dup, 1) := by decide +kernel
theorem dX6_parseNumber_90 : decode cX6_parseNumber 90 = .ok (.getfield 34, 3) := by decide +kernel
theorem dX6_parseNumber_93 : decode cX6_parseNumber 93 = .ok (.iconst 1, 1) := by decide +kernel
theorem dX6_parseNumber_94 : decode cX6_parseNumber 94 = .ok (.iadd, 1) := by decide +kernel
theorem dX6_parseNumber_95 : decode cX6_parseNumber 95 = .ok (.putfield 34, 3) := by decide +kernel
theorem dX6_parseNumber_98 : decode cX6_parseNumber 98 = .ok (.goto (-80), 3) := by decide +kernel
theorem dX6_parseNumber_101 : decode cX6_parseNumber 101 = .ok (.aload_n 0, 1) := by decide +kernel
theorem dX6_parseNumber_102 : decode cX6_parseNumber 102 = .ok (.getfield 34, 3) := by decide +kernel
theorem dX6_parseNumber_105 : decode cX6_parseNumber 105 = .ok (.iload_n 3, 1) := by decide +kernel
theorem dX6_parseNumber_106 : decode cX6_parseNumber 106 = .ok (.if_icmp .eq 15, 3) := by decide +kernel
theorem dX6_parseNumber_109 : decode cX6_parseNumber 109 = .ok (.iload 4, 2) := by decide +kernel
theorem dX6_parseNumber_111 : decode cX6_parseNumber 111 = .ok (.iload_n 1, 1) := by decide +kernel
theorem dX6_parseNumber_112 : decode cX6_parseNumber 112 = .ok (.if_icmp .lt 9, 3) := by decide +kernel
theorem dX6_parseNumber_115 : decode cX6_parseNumber 115 = .ok (.iload 4, 2) := by decide +kernel
theorem dX6_parseNumber_117 : decode cX6_parseNumber 117 = .ok (.iload_n 2, 1) := by decide +kernel
theorem dX6_parseNumber_118 : decode cX6_parseNumber 118 = .ok (.if_icmp .le 8, 3) := by decide +kernel
theorem dX6_parseNumber_121 : decode cX6_parseNumber 121 = .ok (.aload_n 0, 1) := by decide +kernel
theorem dX6_parseNumber_122 : decode cX6_parseNumber 122 = .ok (.iload_n 3, 1) := by decide +kernel
theorem dX6_parseNumber_123 : decode cX6_parseNumber 123 = .ok (.putfield 37, 3) := by decide +kernel
theorem dX6_parseNumber_126 : decode cX6_parseNumber 126 = .ok (.iload 4, 2) := by decide +kernel
theorem dX6_parseNumber_128 : decode cX6_parseNumber 128 = .ok (.ireturn, 1) := by decide +kernel
theorem dX7_init_0 : decode cX7_init 0 = .ok (.aload_n 0, 1) := by decide +kernel
theorem dX7_init_1 : decode cX7_init 1 = .ok (.invokespecial 3, 3) := by decide +kernel
theorem dX7_init_4 : decode cX7_init 4 = .ok (.aload_n 0, 1) := by decide +kernel
theorem dX7_init_5 : decode cX7_init 5 = .ok (.bipush 6, 2) := by decide +kernel
theorem dX7_init_7 : decode cX7_init 7 = .ok (.bipush 6, 2) := by decide +kernel
theorem dX7_init_9 : decode cX7_init 9 = .ok (.multianewarray 9 2, 4) := by decide +kernel
theorem dX7_init_13 : decode cX7_init 13 = .ok (.putfield 11, 3) := by decide +kernel
theorem dX7_init_16 : decode cX7_init 16 = .ok (.return_, 1) := by decide +kernel
theorem dX8_init_0 : decode cX8_init 0 = .ok (.aload_n 0, 1) := by decide +kernel
theorem dX8_init_1 : decode cX8_init 1 = .ok (.invokespecial 1, 3) := by decide +kernel
theorem dX8_init_4 : decode cX8_init 4 = .ok (.aload_n 0, 1) := by decide +kernel
theorem dX8_init_5 : decode cX8_init 5 = .ok (.iload_n 1, 1) := by decide +kernel
theorem dX8_init_6 : decode cX8_init 6 = .ok (.putfield 7, 3) := by decide +kernel
theorem dX8_init_9 : decode cX8_init 9 = .ok (.aload_n 0, 1) := by decide +kernel
theorem dX8_init_10 : decode cX8_init 10 = .ok (.iload_n 2, 1) := by decide +kernel
theorem dX8_init_11 : decode cX8_init 11 = .ok (.putfield 13, 3) := by decide +kernel
theorem dX8_init_14 : decode cX8_init 14 = .ok (.aload_n 0, 1) := by decide +kernel
theorem dX8_init_15 : decode cX8_init 15 = .ok (.aload_n 3, 1) := by decide +kernel
theorem dX8_init_16 : decode cX8_init 16 = .ok (.putfield 16, 3) := by decide +kernel
