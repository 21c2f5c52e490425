theorem dX8_init_19 : decode cX8_init 19 = .ok (.return_, 1) := by decide +kernel
theorem dX9_init_0 : decode cX9_init 0 = .ok (.aload_n 0, 1) := by decide +kernel
theorem dX9_init_1 : decode cX9_init 1 = .ok (.invokespecial 1, 3) := by decide +kernel
theorem dX9_init_4 : decode cX9_init 4 = .ok (.aload_n 0, 1) := by decide +kernel
theorem dX9_init_5 : decode cX9_init 5 = .ok (.new 7, 3) := by decide +kernel
theorem dX9_init_8 : decode cX9_init 8 = .ok (.dup, 1) := by decide +kernel
theorem dX9_init_9 : decode cX9_init 9 = .ok (.invokespecial 9, 3) := by decide +kernel
theorem dX9_init_12 : decode cX9_init 12 = .ok (.putfield 10, 3) := by decide +kernel
theorem dX9_init_15 : decode cX9_init 15 = .ok (.aload_n 0, 1) := by decide +kernel
theorem dX9_init_16 : decode cX9_init 16 = .ok (.new 16, 3) := by decide +kernel
theorem dX9_init_19 : decode cX9_init 19 = .ok (.dup, 1) := by decide +kernel
theorem dX9_init_20 : decode cX9_init 20 = .ok (.invokespecial 18, 3) := by decide +kernel
theorem dX9_init_23 : decode cX9_init 23 = .ok (.putfield 19, 3) := by decide +kernel
theorem dX9_init_26 : decode cX9_init 26 = .ok (.aload_n 0, 1) := by decide +kernel
theorem dX9_init_27 : decode cX9_init 27 = .ok (.new 23, 3) := by decide +kernel
theorem dX9_init_30 : decode cX9_init 30 = .ok (.dup, 1) := by decide +kernel
theorem dX9_init_31 : decode cX9_init 31 = .ok (.invokespecial 25, 3) := by decide +kernel
theorem dX9_init_34 : decode cX9_init 34 = .ok (.putfield 26, 3) := by decide +kernel
theorem dX9_init_37 : decode cX9_init 37 = .ok (.aload_n 0, 1) := by decide +kernel
theorem dX9_init_38 : decode cX9_init 38 = .ok (.new 30, 3) := by decide +kernel
theorem dX9_init_41 : decode cX9_init 41 = .ok (.dup, 1) := by decide +kernel
theorem dX9_init_42 : decode cX9_init 42 = .ok (.invokespecial 32, 3) := by decide +kernel
theorem dX9_init_45 : decode cX9_init 45 = .ok (.putfield 33, 3) := by decide +kernel
theorem dX9_init_48 : decode cX9_init 48 = .ok (.return_, 1) := by decide +kernel
theorem dX9_line_0 : decode cX9_line 0 = .ok (.iload_n 1, 1) := by decide +kernel
theorem dX9_line_1 : decode cX9_line 1 = .ok (.i2l, 1) := by decide +kernel
theorem dX9_line_2 : decode cX9_line 2 = .ok (.lconst 0, 1) := by decide +kernel
theorem dX9_line_3 : decode cX9_line 3 = .ok (.ldc2_w 37, 3) := by decide +kernel
theorem dX9_line_6 : decode cX9_line 6 = .ok (.invokestatic 39, 3) := by decide +kernel
theorem dX9_line_9 : decode cX9_line 9 = .ok (.aload_n 0, 1) := by decide +kernel
theorem dX9_line_10 : decode cX9_line 10 = .ok (.getfield 10, 3) := by decide +kernel
theorem dX9_line_13 : decode cX9_line 13 = .ok (.getfield 43, 3) := by decide +kernel
theorem dX9_line_16 : decode cX9_line 16 = .ok (.invokeinterface 47 1, 5) := by decide +kernel
theorem dX9_line_21 : decode cX9_line 21 = .ok (.bipush 40, 2) := by decide +kernel
theorem dX9_line_23 : decode cX9_line 23 = .ok (.if_icmp .ge 7, 3) := by decide +kernel
theorem dX9_line_26 : decode cX9_line 26 = .ok (.iconst 1, 1) := by decide +kernel
theorem dX9_line_27 : decode cX9_line 27 = .ok (.goto 4, 3) := by decide +kernel
theorem dX9_line_30 : decode cX9_line 30 = .ok (.iconst 0, 1) := by decide +kernel
theorem dX9_line_31 : decode cX9_line 31 = .ok (.invokestatic 53, 3) := by decide +kernel
theorem dX9_line_34 : decode cX9_line 34 = .ok (.aload_n 0, 1) := by decide +kernel
theorem dX9_line_35 : decode cX9_line 35 = .ok (.getfield 10, 3) := by decide +kernel
theorem dX9_line_38 : decode cX9_line 38 = .ok (.getfield 43, 3) := by decide +kernel
theorem dX9_line_41 : decode cX9_line 41 = .ok (.new 57, 3) := by decide +kernel
theorem dX9_line_44 : decode cX9_line 44 = .ok (.dup, 1) := by decide +kernel
theorem dX9_line_45 : decode cX9_line 45 = .ok (.iload_n 1, 1) := by decide +kernel
theorem dX9_line_46 : decode cX9_line 46 = .ok (.invokespecial 59, 3) := by decide +kernel
theorem dX9_line_49 : decode cX9_line 49 = .ok (.invokeinterface 62 2, 5) := by decide +kernel
theorem dX9_line_54 : decode cX9_line 54 = .ok (.pop, 1) := by decide +kernel
theorem dX9_line_55 : decode cX9_line 55 = .ok (.aload_n 0, 1) := by decide +kernel
theorem dX9_line_56 : decode cX9_line 56 = .ok (.getfield 10, 3) := by decide +kernel
theorem dX9_line_59 : decode cX9_line 59 = .ok (.getfield 43, 3) := by decide +kernel
theorem dX9_line_62 : decode cX9_line 62 = .ok (.invokeinterface 47 1, 5) := by decide +kernel
theorem dX9_line_67 : decode cX9_line 67 = .ok (.iconst 1, 1) := by decide +kernel
theorem dX9_line_68 : decode cX9_line 68 = .ok (.isub, 1) := by decide +kernel
theorem dX9_line_69 : decode cX9_line 69 = .ok (.ireturn, 1) := by decide +kernel
theorem dX9_stop_0 : decode cX9_stop 0 = .ok (.iload_n 1, 1) := by decide +kernel
theorem dX9_stop_1 : decode cX9_stop 1 = .ok (.aload_n 0, 1) := by decide +kernel
theorem dX9_stop_2 : decode cX9_stop 2 = .ok (.getfield 10, 3) := by decide +kernel
theorem dX9_stop_5 : decode cX9_stop 5 = .ok (.getfield 43, 3) := by decide +kernel
theorem dX9_stop_8 : decode cX9_stop 8 = .ok (.invokeinterface 47 1, 5) := by decide +kernel
theorem dX9_stop_13 : decode cX9_stop 13 = .ok (.invokestatic 66, 3) := by decide +kernel
theorem dX9_stop_16 : decode cX9_stop 16 = .ok (.iload_n 2, 1) := by decide +kernel
theorem dX9_stop_17 : decode cX9_stop 17 = .ok (.bipush 100, 2) := by decide +kernel
theorem dX9_stop_19 : decode cX9_stop 19 = .ok (.invokestatic 66, 3) := by decide +kernel
theorem dX9_stop_22 : decode cX9_stop 22 = .ok (.lload_n 3, 1) := by decide +kernel
theorem dX9_stop_23 : decode cX9_stop 23 = .ok (.lconst 0, 1) := by decide +kernel
theorem dX9_stop_24 : decode cX9_stop 24 = .ok (.ldc2_w 70, 3) := by decide +kernel
theorem dX9_stop_27 : decode cX9_stop 27 = .ok (.invokestatic 39, 3) := by decide +kernel
theorem dX9_stop_30 : decode cX9_stop 30 = .ok (.lload 5, 2) := by decide +kernel
theorem dX9_stop_32 : decode cX9_stop 32 = .ok (.lconst 0, 1) := by decide +kernel
theorem dX9_stop_33 : decode cX9_stop 33 = .ok (.ldc2_w 70, 3) := by decide +kernel
theorem dX9_stop_36 : decode cX9_stop 36 = .ok (.invokestatic 39, 3) := by decide +kernel
theorem dX9_stop_39 : decode cX9_stop 39 = .ok (.aload_n 0, 1) := by decide +kernel
theorem dX9_stop_40 : decode cX9_stop 40 = .ok (.getfield 10, 3) := by decide +kernel
theorem dX9_stop_43 : decode cX9_stop 43 = .ok (.getfield 43, 3) := by decide +kernel
theorem dX9_stop_46 : decode cX9_stop 46 = .ok (.iload_n 1, 1) := by decide +kernel
theorem dX9_stop_47 : decode cX9_stop 47 = .ok (.invokeinterface 72 2, 5) := by decide +kernel
theorem dX9_stop_52 : decode cX9_stop 52 = .ok (.checkcast 57, 3) := by decide +kernel
theorem dX9_stop_55 : decode cX9_stop 55 = .ok (.astore 7, 2) := by decide +kernel
theorem dX9_stop_57 : decode cX9_stop 57 = .ok (.aload 7, 2) := by decide +kernel
theorem dX9_stop_59 : decode cX9_stop 59 = .ok (.invokevirtual 76, 3) := by decide +kernel
theorem dX9_stop_62 : decode cX9_stop 62 = .ok (.invokestatic 53, 3) := by decide +kernel
theorem dX9_stop_65 : decode cX9_stop 65 = .ok (.lload_n 3, 1) := by decide +kernel
theorem dX9_stop_66 : decode cX9_stop 66 = .ok (.aload 7, 2) := by decide +kernel
theorem dX9_stop_68 : decode cX9_stop 68 = .ok (.invokevirtual 80, 3) := by decide +kernel
theorem dX9_stop_71 : decode cX9_stop 71 = .ok (.i2l, 1) := by decide +kernel
theorem dX9_stop_72 : decode cX9_stop 72 = .ok (.lcmp, 1) := by decide +kernel
theorem dX9_stop_73 : decode cX9_stop 73 = .ok (.ifCond .lt 10, 3) := by decide +kernel
theorem dX9_stop_76 : decode cX9_stop 76 = .ok (.lload 5, 2) := by decide +kernel
theorem dX9_stop_78 : decode cX9_stop 78 = .ok (.lload_n 3, 1) := by decide +kernel
theorem dX9_stop_79 : decode cX9_stop 79 = .ok (.lcmp, 1) := by decide +kernel
theorem dX9_stop_80 : decode cX9_stop 80 = .ok (.ifCond .ge 5, 3) := by decide +kernel
theorem dX9_stop_83 : decode cX9_stop 83 = .ok (.iconst 0, 1) := by decide +kernel
theorem dX9_stop_84 : decode cX9_stop 84 = .ok (.ireturn, 1) := by decide +kernel
theorem dX9_stop_85 : decode cX9_stop 85 = .ok (.aload 7, 2) := by decide +kernel
theorem dX9_stop_87 : decode cX9_stop 87 = .ok (.iload_n 2, 1) := by decide +kernel
theorem dX9_stop_88 : decode cX9_stop 88 = .ok (.lload_n 3, 1) := by decide +kernel
theorem dX9_stop_89 : decode cX9_stop 89 = .ok (.l2i, 1) := by decide +kernel
theorem dX9_stop_90 : decode cX9_stop 90 = .ok (.lload 5, 2) := by decide +kernel
theorem dX9_stop_92 : decode cX9_stop 92 = .ok (.l2i, 1) := by decide +kernel
theorem dX9_stop_93 : decode cX9_stop 93 = .ok (.invokevirtual 83, 3) := by decide +kernel
theorem dX9_stop_96 : decode cX9_stop 96 = .ok (.iconst 1, 1) := by decide +kernel
theorem dX9_stop_97 : decode cX9_stop 97 = .ok (.ireturn, 1) := by decide +kernel
theorem dX9_exception_0 : decode cX9_exception 0 = .ok (.iload_n 1, 1) := by decide +kernel
theorem dX9_exception_1 : decode cX9_exception 1 = .ok (.aload_n 0, 1) := by decide +kernel
theorem dX9_exception_2 : decode cX9_exception 2 = .ok (.getfield 10, 3) := by decide +kernel
theorem dX9_exception_5 : decode cX9_exception 5 = .ok (.getfield 43, 3) := by decide +kernel
theorem dX9_exception_8 : decode cX9_exception 8 = .ok (.invokeinterface 47 1, 5) := by decide +kernel
theorem dX9_exception_13 : decode cX9_exception 13 = .ok (.invokestatic 66, 3) := by decide +kernel
theorem dX9_exception_16 : decode cX9_exception 16 = .ok (.lload_n 2, 1) := by decide +kernel
theorem dX9_exception_17 : decode cX9_exception 17 = .ok (.lconst 0, 1) := by decide +kernel
theorem dX9_exception_18 : decode cX9_exception 18 = .ok (.ldc2_w 87, 3) := by decide +kernel
theorem dX9_exception_21 : decode cX9_exception 21 = .ok (.invokestatic 39, 3) := by decide +kernel
theorem dX9_exception_24 : decode cX9_exception 24 = .ok (.aload_n 0, 1) := by decide +kernel
theorem dX9_exception_25 : decode cX9_exception 25 = .ok (.getfield 10, 3) := by decide +kernel
theorem dX9_exception_28 : decode cX9_exception 28 = .ok (.getfield 43, 3) := by decide +kernel
theorem dX9_exception_31 : decode cX9_exception 31 = .ok (.iload_n 1, 1) := by decide +kernel
theorem dX9_exception_32 : decode cX9_exception 32 = .ok (.invokeinterface 72 2, 5) := by decide +kernel
theorem dX9_exception_37 : decode cX9_exception 37 = .ok (.checkcast 57, 3) := by decide +kernel
theorem dX9_exception_40 : decode cX9_exception 40 = .ok (.astore 5, 2) := by decide +kernel
theorem dX9_exception_42 : decode cX9_exception 42 = .ok (.aload 5, 2) := by decide +kernel
theorem dX9_exception_44 : decode cX9_exception 44 = .ok (.lload_n 2, 1) := by decide +kernel
theorem dX9_exception_45 : decode cX9_exception 45 = .ok (.l2i, 1) := by decide +kernel
theorem dX9_exception_46 : decode cX9_exception 46 = .ok (.invokevirtual 89, 3) := by decide +kernel
theorem dX9_exception_49 : decode cX9_exception 49 = .ok (.astore 6, 2) := by decide +kernel
theorem dX9_exception_51 : decode cX9_exception 51 = .ok (.aload 6, 2) := by decide +kernel
theorem dX9_exception_53 : decode cX9_exception 53 = .ok (.ifnull 15, 3) := by decide +kernel
theorem dX9_exception_56 : decode cX9_exception 56 = .ok (.aload 6, 2) := by decide +kernel
theorem dX9_exception_58 : decode cX9_exception 58 = .ok (.iload 4, 2) := by decide +kernel
theorem dX9_exception_60 : decode cX9_exception 60 = .ok (.putfield 93, 3) := by decide +kernel
theorem dX9_exception_63 : decode cX9_exception 63 = .ok (.aload_n 0, 1) := by decide +kernel
theorem dX9_exception_64 : decode cX9_exception 64 = .ok (.getfield 99, 3) := by decide +kernel
theorem dX9_exception_67 : decode cX9_exception 67 = .ok (.ireturn, 1) := by decide +kernel
theorem dX9_exception_68 : decode cX9_exception 68 = .ok (.aload_n 0, 1) := by decide +kernel
theorem dX9_exception_69 : decode cX9_exception 69 = .ok (.getfield 99, 3) := by decide +kernel
theorem dX9_exception_72 : decode cX9_exception 72 = .ok (.bipush 100, 2) := by decide +kernel
theorem dX9_exception_74 : decode cX9_exception 74 = .ok (.if_icmp .ge 7, 3) := by decide +kernel
theorem dX9_exception_77 : decode cX9_exception 77 = .ok (.iconst 1, 1) := by decide +kernel
theorem dX9_exception_78 : decode cX9_exception 78 = .ok (.goto 4, 3) := by decide +kernel
theorem dX9_exception_81 : decode cX9_exception 81 = .ok (.iconst 0, 1) := by decide +kernel
theorem dX9_exception_82 : decode cX9_exception 82 = .ok (.invokestatic 53, 3) := by decide +kernel
theorem dX9_exception_85 : decode cX9_exception 85 = .ok (.aload 5, 2) := by decide +kernel
theorem dX9_exception_87 : decode cX9_exception 87 = .ok (.new 94, 3) := by decide +kernel
theorem dX9_exception_90 : decode cX9_exception 90 = .ok (.dup, 1) := by decide +kernel
theorem dX9_exception_91 : decode cX9_exception 91 = .ok (.lload_n 2, 1) := by decide +kernel
theorem dX9_exception_92 : decode cX9_exception 92 = .ok (.l2i, 1) := by decide +kernel
theorem dX9_exception_93 : decode cX9_exception 93 = .ok (.iload 4, 2) := by decide +kernel
theorem dX9_exception_95 : decode cX9_exception 95 = .ok (.aload 5, 2) := by decide +kernel
theorem dX9_exception_97 : decode cX9_exception 97 = .ok (.getfield 103, 3) := by decide +kernel
theorem dX9_exception_100 : decode cX9_exception 100 = .ok (.invokespecial 107, 3) := by decide +kernel
theorem dX9_exception_103 : decode cX9_exception 103 = .ok (.putfield 103, 3) := by decide +kernel
theorem dX9_exception_106 : decode cX9_exception 106 = .ok (.aload_n 0, 1) := by decide +kernel
theorem dX9_exception_107 : decode cX9_exception 107 = .ok (.dup, 1) := by decide +kernel
theorem dX9_exception_108 : decode cX9_exception 108 = .ok (.getfield 99, 3) := by decide +kernel
theorem dX9_exception_111 : decode cX9_exception 111 = .ok (.iconst 1, 1) := by decide +kernel
theorem dX9_exception_112 : decode cX9_exception 112 = .ok (.iadd, 1) := by decide +kernel
theorem dX9_exception_113 : decode cX9_exception 113 = .ok (.putfield 99, 3) := by decide +kernel
theorem dX9_exception_116 : decode cX9_exception 116 = .ok (.aload_n 0, 1) := by decide +kernel
theorem dX9_exception_117 : decode cX9_exception 117 = .ok (.getfield 99, 3) := by decide +kernel
theorem dX9_exception_120 : decode cX9_exception 120 = .ok (.ireturn, 1) := by decide +kernel
theorem dX9_zone_0 : decode cX9_zone 0 = .ok (.iload_n 1, 1) := by decide +kernel
theorem dX9_zone_1 : decode cX9_zone 1 = .ok (.bipush 100, 2) := by decide +kernel
theorem dX9_zone_3 : decode cX9_zone 3 = .ok (.invokestatic 66, 3) := by decide +kernel
theorem dX9_zone_6 : decode cX9_zone 6 = .ok (.lload_n 2, 1) := by decide +kernel
theorem dX9_zone_7 : decode cX9_zone 7 = .ok (.lconst 0, 1) := by decide +kernel
theorem dX9_zone_8 : decode cX9_zone 8 = .ok (.ldc2_w 110, 3) := by decide +kernel
theorem dX9_zone_11 : decode cX9_zone 11 = .ok (.invokestatic 39, 3) := by decide +kernel
theorem dX9_zone_14 : decode cX9_zone 14 = .ok (.iload 4, 2) := by decide +kernel
theorem dX9_zone_16 : decode cX9_zone 16 = .ok (.i2l, 1) := by decide +kernel
theorem dX9_zone_17 : decode cX9_zone 17 = .ok (.ldc2_w 112, 3) := by decide +kernel
theorem dX9_zone_20 : decode cX9_zone 20 = .ok (.ldc2_w 114, 3) := by decide +kernel
theorem dX9_zone_23 : decode cX9_zone 23 = .ok (.invokestatic 39, 3) := by decide +kernel
theorem dX9_zone_26 : decode cX9_zone 26 = .ok (.aload_n 0, 1) := by decide +kernel
theorem dX9_zone_27 : decode cX9_zone 27 = .ok (.getfield 10, 3) := by decide +kernel
theorem dX9_zone_30 : decode cX9_zone 30 = .ok (.getfield 116, 3) := by decide +kernel
theorem dX9_zone_33 : decode cX9_zone 33 = .ok (.iload_n 1, 1) := by decide +kernel
theorem dX9_zone_34 : decode cX9_zone 34 = .ok (.aaload, 1) := by decide +kernel
theorem dX9_zone_35 : decode cX9_zone 35 = .ok (.astore 5, 2) := by decide +kernel
theorem dX9_zone_37 : decode cX9_zone 37 = .ok (.aload 5, 2) := by decide +kernel
theorem dX9_zone_39 : decode cX9_zone 39 = .ok (.lload_n 2, 1) := by decide +kernel
theorem dX9_zone_40 : decode cX9_zone 40 = .ok (.l2i, 1) := by decide +kernel
theorem dX9_zone_41 : decode cX9_zone 41 = .ok (.invokevirtual 120, 3) := by decide +kernel
theorem dX9_zone_44 : decode cX9_zone 44 = .ok (.astore 6, 2) := by decide +kernel
theorem dX9_zone_46 : decode cX9_zone 46 = .ok (.aload 6, 2) := by decide +kernel
theorem dX9_zone_48 : decode cX9_zone 48 = .ok (.ifnull 16, 3) := by decide +kernel
theorem dX9_zone_51 : decode cX9_zone 51 = .ok (.aload 6, 2) := by decide +kernel
theorem dX9_zone_53 : decode cX9_zone 53 = .ok (.iload 4, 2) := by decide +kernel
theorem dX9_zone_55 : decode cX9_zone 55 = .ok (.putfield 126, 3) := by decide +kernel
theorem dX9_zone_58 : decode cX9_zone 58 = .ok (.aload 5, 2) := by decide +kernel
theorem dX9_zone_60 : decode cX9_zone 60 = .ok (.getfield 131, 3) := by decide +kernel
theorem dX9_zone_63 : decode cX9_zone 63 = .ok (.ireturn, 1) := by decide +kernel
theorem dX9_zone_64 : decode cX9_zone 64 = .ok (.aload_n 0, 1) := by decide +kernel
theorem dX9_zone_65 : decode cX9_zone 65 = .ok (.getfield 134, 3) := by decide +kernel
theorem dX9_zone_68 : decode cX9_zone 68 = .ok (.bipush 100, 2) := by decide +kernel
theorem dX9_zone_70 : decode cX9_zone 70 = .ok (.if_icmp .ge 7, 3) := by decide +kernel
theorem dX9_zone_73 : decode cX9_zone 73 = .ok (.iconst 1, 1) := by decide +kernel
theorem dX9_zone_74 : decode cX9_zone 74 = .ok (.goto 4, 3) := by decide +kernel
theorem dX9_zone_77 : decode cX9_zone 77 = .ok (.iconst 0, 1) := by decide +kernel
theorem dX9_zone_78 : decode cX9_zone 78 = .ok (.invokestatic 53, 3) := by decide +kernel
theorem dX9_zone_81 : decode cX9_zone 81 = .ok (.aload 5, 2) := by decide +kernel
theorem dX9_zone_83 : decode cX9_zone 83 = .ok (.lload_n 2, 1) := by decide +kernel
theorem dX9_zone_84 : decode cX9_zone 84 = .ok (.l2i, 1) := by decide +kernel
theorem dX9_zone_85 : decode cX9_zone 85 = .ok (.iload 4, 2) := by decide +kernel
theorem dX9_zone_87 : decode cX9_zone 87 = .ok (.invokevirtual 137, 3) := by decide +kernel
theorem dX9_zone_90 : decode cX9_zone 90 = .ok (.aload_n 0, 1) := by decide +kernel
theorem dX9_zone_91 : decode cX9_zone 91 = .ok (.dup, 1) := by decide +kernel
theorem dX9_zone_92 : decode cX9_zone 92 = .ok (.getfield 134, 3) := by decide +kernel
theorem dX9_zone_95 : decode cX9_zone 95 = .ok (.iconst 1, 1) := by decide +kernel
theorem dX9_zone_96 : decode cX9_zone 96 = .ok (.iadd, 1) := by decide +kernel
theorem dX9_zone_97 : decode cX9_zone 97 = .ok (.putfield 134, 3) := by decide +kernel
theorem dX9_zone_100 : decode cX9_zone 100 = .ok (.aload 5, 2) := by decide +kernel
theorem dX9_zone_102 : decode cX9_zone 102 = .ok (.getfield 131, 3) := by decide +kernel
theorem dX9_zone_105 : decode cX9_zone 105 = .ok (.ireturn, 1) := by decide +kernel
theorem dX9_least_0 : decode cX9_least 0 = .ok (.iload_n 1, 1) := by decide +kernel
theorem dX9_least_1 : decode cX9_least 1 = .ok (.bipush 100, 2) := by decide +kernel
theorem dX9_least_3 : decode cX9_least 3 = .ok (.invokestatic 66, 3) := by decide +kernel
theorem dX9_least_6 : decode cX9_least 6 = .ok (.lload_n 2, 1) := by decide +kernel
theorem dX9_least_7 : decode cX9_least 7 = .ok (.lconst 0, 1) := by decide +kernel
theorem dX9_least_8 : decode cX9_least 8 = .ok (.ldc2_w 140, 3) := by decide +kernel
theorem dX9_least_11 : decode cX9_least 11 = .ok (.invokestatic 39, 3) := by decide +kernel
theorem dX9_least_14 : decode cX9_least 14 = .ok (.aload_n 0, 1) := by decide +kernel
theorem dX9_least_15 : decode cX9_least 15 = .ok (.getfield 10, 3) := by decide +kernel
theorem dX9_least_18 : decode cX9_least 18 = .ok (.getfield 116, 3) := by decide +kernel
theorem dX9_least_21 : decode cX9_least 21 = .ok (.iload_n 1, 1) := by decide +kernel
theorem dX9_least_22 : decode cX9_least 22 = .ok (.aaload, 1) := by decide +kernel
theorem dX9_least_23 : decode cX9_least 23 = .ok (.astore 4, 2) := by decide +kernel
theorem dX9_least_25 : decode cX9_least 25 = .ok (.aload 4, 2) := by decide +kernel
theorem dX9_least_27 : decode cX9_least 27 = .ok (.getfield 142, 3) := by decide +kernel
theorem dX9_least_30 : decode cX9_least 30 = .ok (.istore 5, 2) := by decide +kernel
theorem dX9_least_32 : decode cX9_least 32 = .ok (.aload 4, 2) := by decide +kernel
theorem dX9_least_34 : decode cX9_least 34 = .ok (.lload_n 2, 1) := by decide +kernel
theorem dX9_least_35 : decode cX9_least 35 = .ok (.l2i, 1) := by decide +kernel
theorem dX9_least_36 : decode cX9_least 36 = .ok (.putfield 142, 3) := by decide +kernel
theorem dX9_least_39 : decode cX9_least 39 = .ok (.iload 5, 2) := by decide +kernel
theorem dX9_least_41 : decode cX9_least 41 = .ok (.ireturn, 1) := by decide +kernel
theorem dX9_change_0 : decode cX9_change 0 = .ok (.iload_n 1, 1) := by decide +kernel
theorem dX9_change_1 : decode cX9_change 1 = .ok (.aload_n 0, 1) := by decide +kernel
theorem dX9_change_2 : decode cX9_change 2 = .ok (.getfield 10, 3) := by decide +kernel
theorem dX9_change_5 : decode cX9_change 5 = .ok (.getfield 43, 3) := by decide +kernel
theorem dX9_change_8 : decode cX9_change 8 = .ok (.invokeinterface 47 1, 5) := by decide +kernel
theorem dX9_change_13 : decode cX9_change 13 = .ok (.invokestatic 66, 3) := by decide +kernel
theorem dX9_change_16 : decode cX9_change 16 = .ok (.aload_n 0, 1) := by decide +kernel
theorem dX9_change_17 : decode cX9_change 17 = .ok (.getfield 10, 3) := by decide +kernel
theorem dX9_change_20 : decode cX9_change 20 = .ok (.getfield 43, 3) := by decide +kernel
theorem dX9_change_23 : decode cX9_change 23 = .ok (.iload_n 1, 1) := by decide +kernel
theorem dX9_change_24 : decode cX9_change 24 = .ok (.invokeinterface 72 2, 5) := by decide +kernel
theorem dX9_change_29 : decode cX9_change 29 = .ok (.checkcast 57, 3) := by decide +kernel
theorem dX9_change_32 : decode cX9_change 32 = .ok (.astore 7, 2) := by decide +kernel
theorem dX9_change_34 : decode cX9_change 34 = .ok (.iload_n 2, 1) := by decide +kernel
theorem dX9_change_35 : decode cX9_change 35 = .ok (.aload 7, 2) := by decide +kernel
theorem dX9_change_37 : decode cX9_change 37 = .ok (.getfield 145, 3) := by decide +kernel
theorem dX9_change_40 : decode cX9_change 40 = .ok (.invokestatic 66, 3) := by decide +kernel
theorem dX9_change_43 : decode cX9_change 43 = .ok (.lload_n 3, 1) := by decide +kernel
theorem dX9_change_44 : decode cX9_change 44 = .ok (.lconst 0, 1) := by decide +kernel
theorem dX9_change_45 : decode cX9_change 45 = .ok (.ldc2_w 140, 3) := by decide +kernel
theorem dX9_change_48 : decode cX9_change 48 = .ok (.invokestatic 39, 3) := by decide +kernel
theorem dX9_change_51 : decode cX9_change 51 = .ok (.lload 5, 2) := by decide +kernel
theorem dX9_change_53 : decode cX9_change 53 = .ok (.lconst 0, 1) := by decide +kernel
theorem dX9_change_54 : decode cX9_change 54 = .ok (.ldc2_w 87, 3) := by decide +kernel
theorem dX9_change_57 : decode cX9_change 57 = .ok (.invokestatic 39, 3) := by decide +kernel
theorem dX9_change_60 : decode cX9_change 60 = .ok (.aload_n 0, 1) := by decide +kernel
theorem dX9_change_61 : decode cX9_change 61 = .ok (.getfield 148, 3) := by decide +kernel
theorem dX9_change_64 : decode cX9_change 64 = .ok (.bipush 100, 2) := by decide +kernel
theorem dX9_change_66 : decode cX9_change 66 = .ok (.if_icmp .ge 7, 3) := by decide +kernel
theorem dX9_change_69 : decode cX9_change 69 = .ok (.iconst 1, 1) := by decide +kernel
theorem dX9_change_70 : decode cX9_change 70 = .ok (.goto 4, 3) := by decide +kernel
theorem dX9_change_73 : decode cX9_change 73 = .ok (.iconst 0, 1) := by decide +kernel
theorem dX9_change_74 : decode cX9_change 74 = .ok (.invokestatic 53, 3) := by decide +kernel
theorem dX9_change_77 : decode cX9_change 77 = .ok (.aload 7, 2) := by decide +kernel
theorem dX9_change_79 : decode cX9_change 79 = .ok (.new 151, 3) := by decide +kernel
theorem dX9_change_82 : decode cX9_change 82 = .ok (.dup, 1) := by decide +kernel
theorem dX9_change_83 : decode cX9_change 83 = .ok (.iload_n 2, 1) := by decide +kernel
theorem dX9_change_84 : decode cX9_change 84 = .ok (.lload_n 3, 1) := by decide +kernel
theorem dX9_change_85 : decode cX9_change 85 = .ok (.l2i, 1) := by decide +kernel
theorem dX9_change_86 : decode cX9_change 86 = .ok (.lload 5, 2) := by decide +kernel
theorem dX9_change_88 : decode cX9_change 88 = .ok (.l2i, 1) := by decide +kernel
theorem dX9_change_89 : decode cX9_change 89 = .ok (.aload 7, 2) := by decide +kernel
theorem dX9_change_91 : decode cX9_change 91 = .ok (.getfield 153, 3) := by decide +kernel
theorem dX9_change_94 : decode cX9_change 94 = .ok (.invokespecial 157, 3) := by decide +kernel
theorem dX9_change_97 : decode cX9_change 97 = .ok (.putfield 153, 3) := by decide +kernel
theorem dX9_change_100 : decode cX9_change 100 = .ok (.aload_n 0, 1) := by decide +kernel
theorem dX9_change_101 : decode cX9_change 101 = .ok (.dup, 1) := by decide +kernel
theorem dX9_change_102 : decode cX9_change 102 = .ok (.getfield 148, 3) := by decide +kernel
theorem dX9_change_105 : decode cX9_change 105 = .ok (.iconst 1, 1) := by decide +kernel
theorem dX9_change_106 : decode cX9_change 106 = .ok (.iadd, 1) := by decide +kernel
theorem dX9_change_107 : decode cX9_change 107 = .ok (.putfield 148, 3) := by decide +kernel
theorem dX9_change_110 : decode cX9_change 110 = .ok (.aload_n 0, 1) := by decide +kernel
theorem dX9_change_111 : decode cX9_change 111 = .ok (.getfield 148, 3) := by decide +kernel
theorem dX9_change_114 : decode cX9_change 114 = .ok (.ireturn, 1) := by decide +kernel
theorem dX9_earliest_0 : decode cX9_earliest 0 = .ok (.iload_n 1, 1) := by decide +kernel
theorem dX9_earliest_1 : decode cX9_earliest 1 = .ok (.iload_n 2, 1) := by decide +kernel
theorem dX9_earliest_2 : decode cX9_earliest 2 = .ok (.lload_n 3, 1) := by decide +kernel
theorem dX9_earliest_3 : decode cX9_earliest 3 = .ok (.invokestatic 160, 3) := by decide +kernel
theorem dX9_earliest_6 : decode cX9_earliest 6 = .ok (.aload_n 0, 1) := by decide +kernel
theorem dX9_earliest_7 : decode cX9_earliest 7 = .ok (.getfield 19, 3) := by decide +kernel
theorem dX9_earliest_10 : decode cX9_earliest 10 = .ok (.iconst 0, 1) := by decide +kernel
theorem dX9_earliest_11 : decode cX9_earliest 11 = .ok (.putfield 164, 3) := by decide +kernel
theorem dX9_earliest_14 : decode cX9_earliest 14 = .ok (.iload_n 1, 1) := by decide +kernel
theorem dX9_earliest_15 : decode cX9_earliest 15 = .ok (.iload_n 2, 1) := by decide +kernel
theorem dX9_earliest_16 : decode cX9_earliest 16 = .ok (.if_icmp .ne 5, 3) := by decide +kernel
theorem dX9_earliest_19 : decode cX9_earliest 19 = .ok (.lload_n 3, 1) := by decide +kernel
theorem dX9_earliest_20 : decode cX9_earliest 20 = .ok (.lreturn, 1) := by decide +kernel
theorem dX9_earliest_21 : decode cX9_earliest 21 = .ok (.aload_n 0, 1) := by decide +kernel
theorem dX9_earliest_22 : decode cX9_earliest 22 = .ok (.getfield 10, 3) := by decide +kernel
theorem dX9_earliest_25 : decode cX9_earliest 25 = .ok (.iload_n 1, 1) := by decide +kernel
theorem dX9_earliest_26 : decode cX9_earliest 26 = .ok (.iload_n 2, 1) := by decide +kernel
theorem dX9_earliest_27 : decode cX9_earliest 27 = .ok (.lload_n 3, 1) := by decide +kernel
theorem dX9_earliest_28 : decode cX9_earliest 28 = .ok (.l2i, 1) := by decide +kernel
theorem dX9_earliest_29 : decode cX9_earliest 29 = .ok (.invokevirtual 167, 3) := by decide +kernel
theorem dX9_earliest_32 : decode cX9_earliest 32 = .ok (.istore 5, 2) := by decide +kernel
theorem dX9_earliest_34 : decode cX9_earliest 34 = .ok (.iload 5, 2) := by decide +kernel
theorem dX9_earliest_36 : decode cX9_earliest 36 = .ok (.iconst (-1), 1) := by decide +kernel
theorem dX9_earliest_37 : decode cX9_earliest 37 = .ok (.if_icmp .ne 7, 3) := by decide +kernel
theorem dX9_earliest_40 : decode cX9_earliest 40 = .ok (.ldc2_w 171, 3) := by decide +kernel
theorem dX9_earliest_43 : decode cX9_earliest 43 = .ok (.lreturn, 1) := by decide +kernel
theorem dX9_earliest_44 : decode cX9_earliest 44 = .ok (.aload_n 0, 1) := by decide +kernel
theorem dX9_earliest_45 : decode cX9_earliest 45 = .ok (.getfield 10, 3) := by decide +kernel
theorem dX9_earliest_48 : decode cX9_earliest 48 = .ok (.aload_n 0, 1) := by decide +kernel
theorem dX9_earliest_49 : decode cX9_earliest 49 = .ok (.getfield 19, 3) := by decide +kernel
theorem dX9_earliest_52 : decode cX9_earliest 52 = .ok (.iload_n 2, 1) := by decide +kernel
theorem dX9_earliest_53 : decode cX9_earliest 53 = .ok (.iload 5, 2) := by decide +kernel
theorem dX9_earliest_55 : decode cX9_earliest 55 = .ok (.invokevirtual 173, 3) := by decide +kernel
theorem dX9_earliest_58 : decode cX9_earliest 58 = .ok (.aload_n 0, 1) := by decide +kernel
theorem dX9_earliest_59 : decode cX9_earliest 59 = .ok (.getfield 10, 3) := by decide +kernel
theorem dX9_earliest_62 : decode cX9_earliest 62 = .ok (.getfield 177, 3) := by decide +kernel
theorem dX9_earliest_65 : decode cX9_earliest 65 = .ok (.iload 5, 2) := by decide +kernel
theorem dX9_earliest_67 : decode cX9_earliest 67 = .ok (.aaload, 1) := by decide +kernel
theorem dX9_earliest_68 : decode cX9_earliest 68 = .ok (.iload_n 2, 1) := by decide +kernel
theorem dX9_earliest_69 : decode cX9_earliest 69 = .ok (.iaload, 1) := by decide +kernel
theorem dX9_earliest_70 : decode cX9_earliest 70 = .ok (.i2l, 1) := by decide +kernel
theorem dX9_earliest_71 : decode cX9_earliest 71 = .ok (.lreturn, 1) := by decide +kernel
theorem dX9_step_0 : decode cX9_step 0 = .ok (.iload_n 2, 1) := by decide +kernel
theorem dX9_step_1 : decode cX9_step 1 = .ok (.i2l, 1) := by decide +kernel
theorem dX9_step_2 : decode cX9_step 2 = .ok (.lconst 0, 1) := by decide +kernel
theorem dX9_step_3 : decode cX9_step 3 = .ok (.ldc2_w 181, 3) := by decide +kernel
theorem dX9_step_6 : decode cX9_step 6 = .ok (.invokestatic 39, 3) := by decide +kernel
theorem dX9_step_9 : decode cX9_step 9 = .ok (.iload_n 1, 1) := by decide +kernel
theorem dX9_step_10 : decode cX9_step 10 = .ok (.ifCond .lt 14, 3) := by decide +kernel
theorem dX9_step_13 : decode cX9_step 13 = .ok (.iload_n 1, 1) := by decide +kernel
theorem dX9_step_14 : decode cX9_step 14 = .ok (.aload_n 0, 1) := by decide +kernel
theorem dX9_step_15 : decode cX9_step 15 = .ok (.getfield 19, 3) := by decide +kernel
theorem dX9_step_18 : decode cX9_step 18 = .ok (.getfield 164, 3) := by decide +kernel
theorem dX9_step_21 : decode cX9_step 21 = .ok (.if_icmp .lt 5, 3) := by decide +kernel
theorem dX9_step_24 : decode cX9_step 24 = .ok (.iconst (-1), 1) := by decide +kernel
theorem dX9_step_25 : decode cX9_step 25 = .ok (.ireturn, 1) := by decide +kernel
theorem dX9_step_26 : decode cX9_step 26 = .ok (.aload_n 0, 1) := by decide +kernel
theorem dX9_step_27 : decode cX9_step 27 = .ok (.getfield 19, 3) := by decide +kernel
theorem dX9_step_30 : decode cX9_step 30 = .ok (.getfield 183, 3) := by decide +kernel
theorem dX9_step_33 : decode cX9_step 33 = .ok (.iload_n 1, 1) := by decide +kernel
theorem dX9_step_34 : decode cX9_step 34 = .ok (.aaload, 1) := by decide +kernel
theorem dX9_step_35 : decode cX9_step 35 = .ok (.iload_n 2, 1) := by decide +kernel
theorem dX9_step_36 : decode cX9_step 36 = .ok (.iaload, 1) := by decide +kernel
theorem dX9_step_37 : decode cX9_step 37 = .ok (.ireturn, 1) := by decide +kernel
theorem dX9_days_0 : decode cX9_days 0 = .ok (.iload_n 1, 1) := by decide +kernel
theorem dX9_days_1 : decode cX9_days 1 = .ok (.iconst 1, 1) := by decide +kernel
theorem dX9_days_2 : decode cX9_days 2 = .ok (.if_icmp .lt 11, 3) := by decide +kernel
theorem dX9_days_5 : decode cX9_days 5 = .ok (.iload_n 1, 1) := by decide +kernel
theorem dX9_days_6 : decode cX9_days 6 = .ok (.getstatic 186, 3) := by decide +kernel
theorem dX9_days_9 : decode cX9_days 9 = .ok (.arraylength, 1) := by decide +kernel
theorem dX9_days_10 : decode cX9_days 10 = .ok (.if_icmp .le 13, 3) := by decide +kernel
theorem dX9_days_13 : decode cX9_days 13 = .ok (.new 190, 3) := by decide +kernel
theorem dX9_days_16 : decode cX9_days 16 = .ok (.dup, 1) := by decide +kernel
theorem dX9_days_17 : decode cX9_days 17 = .ok (.ldc 192, 2) := by decide +kernel
theorem dX9_days_19 : decode cX9_days 19 = .ok (.invokespecial 194, 3) := by decide +kernel
theorem dX9_days_22 : decode cX9_days 22 = .ok (.athrow, 1) := by decide +kernel
theorem dX9_days_23 : decode cX9_days 23 = .ok (.iload_n 1, 1) := by decide +kernel
theorem dX9_days_24 : decode cX9_days 24 = .ok (.iconst 2, 1) := by decide +kernel
theorem dX9_days_25 : decode cX9_days 25 = .ok (.if_icmp .ne 20, 3) := by decide +kernel
theorem dX9_days_28 : decode cX9_days 28 = .ok (.iload_n 2, 1) := by decide +kernel
theorem dX9_days_29 : decode cX9_days 29 = .ok (.invokestatic 197, 3) := by decide +kernel
theorem dX9_days_32 : decode cX9_days 32 = .ok (.ifCond .eq 13, 3) := by decide +kernel
theorem dX9_days_35 : decode cX9_days 35 = .ok (.getstatic 186, 3) := by decide +kernel
theorem dX9_days_38 : decode cX9_days 38 = .ok (.iload_n 1, 1) := by decide +kernel
theorem dX9_days_39 : decode cX9_days 39 = .ok (.iconst 1, 1) := by decide +kernel
theorem dX9_days_40 : decode cX9_days 40 = .ok (.isub, 1) := by decide +kernel
theorem dX9_days_41 : decode cX9_days 41 = .ok (.iaload, 1) := by decide +kernel
theorem dX9_days_42 : decode cX9_days 42 = .ok (.iconst 1, 1) := by decide +kernel
theorem dX9_days_43 : decode cX9_days 43 = .ok (.iadd, 1) := by decide +kernel
theorem dX9_days_44 : decode cX9_days 44 = .ok (.ireturn, 1) := by decide +kernel
theorem dX9_days_45 : decode cX9_days 45 = .ok (.getstatic 186, 3) := by decide +kernel
theorem dX9_days_48 : decode cX9_days 48 = .ok (.iload_n 1, 1) := by decide +kernel
theorem dX9_days_49 : decode cX9_days 49 = .ok (.iconst 1, 1) := by decide +kernel
theorem dX9_days_50 : decode cX9_days 50 = .ok (.isub, 1) := by decide +kernel
theorem dX9_days_51 : decode cX9_days 51 = .ok (.iaload, 1) := by decide +kernel
theorem dX9_days_52 : decode cX9_days 52 = .ok (.ireturn, 1) := by decide +kernel
theorem dX9_next_0 : decode cX9_next 0 = .ok (.iload_n 1, 1) := by decide +kernel
theorem dX9_next_1 : decode cX9_next 1 = .ok (.iload_n 2, 1) := by decide +kernel
theorem dX9_next_2 : decode cX9_next 2 = .ok (.lload_n 3, 1) := by decide +kernel
theorem dX9_next_3 : decode cX9_next 3 = .ok (.invokestatic 160, 3) := by decide +kernel
theorem dX9_next_6 : decode cX9_next 6 = .ok (.iload 5, 2) := by decide +kernel
theorem dX9_next_8 : decode cX9_next 8 = .ok (.i2l, 1) := by decide +kernel
theorem dX9_next_9 : decode cX9_next 9 = .ok (.lconst 0, 1) := by decide +kernel
theorem dX9_next_10 : decode cX9_next 10 = .ok (.ldc2_w 201, 3) := by decide +kernel
theorem dX9_next_13 : decode cX9_next 13 = .ok (.invokestatic 39, 3) := by decide +kernel
theorem dX9_next_16 : decode cX9_next 16 = .ok (.aload_n 0, 1) := by decide +kernel
theorem dX9_next_17 : decode cX9_next 17 = .ok (.getfield 26, 3) := by decide +kernel
theorem dX9_next_20 : decode cX9_next 20 = .ok (.iload 5, 2) := by decide +kernel
theorem dX9_next_22 : decode cX9_next 22 = .ok (.iconst 1, 1) := by decide +kernel
theorem dX9_next_23 : decode cX9_next 23 = .ok (.iadd, 1) := by decide +kernel
theorem dX9_next_24 : decode cX9_next 24 = .ok (.invokevirtual 203, 3) := by decide +kernel
theorem dX9_next_27 : decode cX9_next 27 = .ok (.aload_n 0, 1) := by decide +kernel
theorem dX9_next_28 : decode cX9_next 28 = .ok (.getfield 10, 3) := by decide +kernel
theorem dX9_next_31 : decode cX9_next 31 = .ok (.aload_n 0, 1) := by decide +kernel
theorem dX9_next_32 : decode cX9_next 32 = .ok (.getfield 26, 3) := by decide +kernel
theorem dX9_next_35 : decode cX9_next 35 = .ok (.iload_n 1, 1) := by decide +kernel
theorem dX9_next_36 : decode cX9_next 36 = .ok (.iload_n 2, 1) := by decide +kernel
theorem dX9_next_37 : decode cX9_next 37 = .ok (.lload_n 3, 1) := by decide +kernel
theorem dX9_next_38 : decode cX9_next 38 = .ok (.l2i, 1) := by decide +kernel
theorem dX9_next_39 : decode cX9_next 39 = .ok (.invokevirtual 206, 3) := by decide +kernel
theorem dX9_next_42 : decode cX9_next 42 = .ok (.iload 5, 2) := by decide +kernel
theorem dX9_next_44 : decode cX9_next 44 = .ok (.aload_n 0, 1) := by decide +kernel
theorem dX9_next_45 : decode cX9_next 45 = .ok (.getfield 26, 3) := by decide +kernel
theorem dX9_next_48 : decode cX9_next 48 = .ok (.getfield 210, 3) := by decide +kernel
theorem dX9_next_51 : decode cX9_next 51 = .ok (.if_icmp .ge 16, 3) := by decide +kernel
theorem dX9_next_54 : decode cX9_next 54 = .ok (.aload_n 0, 1) := by decide +kernel
theorem dX9_next_55 : decode cX9_next 55 = .ok (.getfield 26, 3) := by decide +kernel
theorem dX9_next_58 : decode cX9_next 58 = .ok (.getfield 213, 3) := by decide +kernel
theorem dX9_next_61 : decode cX9_next 61 = .ok (.iload 5, 2) := by decide +kernel
theorem dX9_next_63 : decode cX9_next 63 = .ok (.iaload, 1) := by decide +kernel
theorem dX9_next_64 : decode cX9_next 64 = .ok (.goto 4, 3) := by decide +kernel
theorem dX9_next_67 : decode cX9_next 67 = .ok (.iconst (-1), 1) := by decide +kernel
theorem dX9_next_68 : decode cX9_next 68 = .ok (.ireturn, 1) := by decide +kernel
theorem dX9_sign_0 : decode cX9_sign 0 = .ok (.iload_n 1, 1) := by decide +kernel
theorem dX9_sign_1 : decode cX9_sign 1 = .ok (.i2l, 1) := by decide +kernel
theorem dX9_sign_2 : decode cX9_sign 2 = .ok (.ldc2_w 216, 3) := by decide +kernel
theorem dX9_sign_5 : decode cX9_sign 5 = .ok (.ldc2_w 218, 3) := by decide +kernel
theorem dX9_sign_8 : decode cX9_sign 8 = .ok (.invokestatic 39, 3) := by decide +kernel
theorem dX9_sign_11 : decode cX9_sign 11 = .ok (.aload_n 0, 1) := by decide +kernel
theorem dX9_sign_12 : decode cX9_sign 12 = .ok (.getfield 33, 3) := by decide +kernel
theorem dX9_sign_15 : decode cX9_sign 15 = .ok (.getfield 220, 3) := by decide +kernel
theorem dX9_sign_18 : decode cX9_sign 18 = .ok (.sipush 500, 3) := by decide +kernel
theorem dX9_sign_21 : decode cX9_sign 21 = .ok (.if_icmp .ge 7, 3) := by decide +kernel
theorem dX9_sign_24 : decode cX9_sign 24 = .ok (.iconst 1, 1) := by decide +kernel
theorem dX9_sign_25 : decode cX9_sign 25 = .ok (.goto 4, 3) := by decide +kernel
theorem dX9_sign_28 : decode cX9_sign 28 = .ok (.iconst 0, 1) := by decide +kernel
theorem dX9_sign_29 : decode cX9_sign 29 = .ok (.invokestatic 53, 3) := by decide +kernel
theorem dX9_sign_32 : decode cX9_sign 32 = .ok (.aload_n 0, 1) := by decide +kernel
theorem dX9_sign_33 : decode cX9_sign 33 = .ok (.getfield 33, 3) := by decide +kernel
theorem dX9_sign_36 : decode cX9_sign 36 = .ok (.iload_n 1, 1) := by decide +kernel
theorem dX9_sign_37 : decode cX9_sign 37 = .ok (.i2c, 1) := by decide +kernel
theorem dX9_sign_38 : decode cX9_sign 38 = .ok (.invokevirtual 223, 3) := by decide +kernel
theorem dX9_sign_41 : decode cX9_sign 41 = .ok (.return_, 1) := by decide +kernel
theorem dX9_read_0 : decode cX9_read 0 = .ok (.aload_n 0, 1) := by decide +kernel
theorem dX9_read_1 : decode cX9_read 1 = .ok (.getfield 33, 3) := by decide +kernel
theorem dX9_read_4 : decode cX9_read 4 = .ok (.bipush 40, 2) := by decide +kernel
theorem dX9_read_6 : decode cX9_read 6 = .ok (.aload_n 0, 1) := by decide +kernel
theorem dX9_read_7 : decode cX9_read 7 = .ok (.getfield 10, 3) := by decide +kernel
theorem dX9_read_10 : decode cX9_read 10 = .ok (.getfield 43, 3) := by decide +kernel
theorem dX9_read_13 : decode cX9_read 13 = .ok (.invokeinterface 47 1, 5) := by decide +kernel
theorem dX9_read_18 : decode cX9_read 18 = .ok (.isub, 1) := by decide +kernel
theorem dX9_read_19 : decode cX9_read 19 = .ok (.invokevirtual 226, 3) := by decide +kernel
theorem dX9_read_22 : decode cX9_read 22 = .ok (.istore_n 1, 1) := by decide +kernel
theorem dX9_read_23 : decode cX9_read 23 = .ok (.iload_n 1, 1) := by decide +kernel
theorem dX9_read_24 : decode cX9_read 24 = .ok (.ifCond .le 56, 3) := by decide +kernel
theorem dX9_read_27 : decode cX9_read 27 = .ok (.iconst 0, 1) := by decide +kernel
theorem dX9_read_28 : decode cX9_read 28 = .ok (.istore_n 2, 1) := by decide +kernel
theorem dX9_read_29 : decode cX9_read 29 = .ok (.iload_n 2, 1) := by decide +kernel
theorem dX9_read_30 : decode cX9_read 30 = .ok (.aload_n 0, 1) := by decide +kernel
theorem dX9_read_31 : decode cX9_read 31 = .ok (.getfield 33, 3) := by decide +kernel
theorem dX9_read_34 : decode cX9_read 34 = .ok (.getfield 230, 3) := by decide +kernel
theorem dX9_read_37 : decode cX9_read 37 = .ok (.invokeinterface 47 1, 5) := by decide +kernel
theorem dX9_read_42 : decode cX9_read 42 = .ok (.if_icmp .ge 38, 3) := by decide +kernel
theorem dX9_read_45 : decode cX9_read 45 = .ok (.aload_n 0, 1) := by decide +kernel
theorem dX9_read_46 : decode cX9_read 46 = .ok (.getfield 10, 3) := by decide +kernel
theorem dX9_read_49 : decode cX9_read 49 = .ok (.getfield 43, 3) := by decide +kernel
theorem dX9_read_52 : decode cX9_read 52 = .ok (.aload_n 0, 1) := by decide +kernel
theorem dX9_read_53 : decode cX9_read 53 = .ok (.getfield 33, 3) := by decide +kernel
theorem dX9_read_56 : decode cX9_read 56 = .ok (.getfield 230, 3) := by decide +kernel
theorem dX9_read_59 : decode cX9_read 59 = .ok (.iload_n 2, 1) := by decide +kernel
theorem dX9_read_60 : decode cX9_read 60 = .ok (.invokeinterface 72 2, 5) := by decide +kernel
theorem dX9_read_65 : decode cX9_read 65 = .ok (.checkcast 57, 3) := by decide +kernel
theorem dX9_read_68 : decode cX9_read 68 = .ok (.invokeinterface 62 2, 5) := by decide +kernel
theorem dX9_read_73 : decode cX9_read 73 = .ok (.pop, 1) := by decide +kernel
theorem dX9_read_74 : decode cX9_read 74 = .ok (.iinc 2 1, 3) := by decide +kernel
theorem dX9_read_77 : decode cX9_read 77 = .ok (.goto (-48), 3) := by decide +kernel
theorem dX9_read_80 : decode cX9_read 80 = .ok (.aload_n 0, 1) := by decide +kernel
theorem dX9_read_81 : decode cX9_read 81 = .ok (.getfield 33, 3) := by decide +kernel
theorem dX9_read_84 : decode cX9_read 84 = .ok (.invokevirtual 233, 3) := by decide +kernel
theorem dX9_read_87 : decode cX9_read 87 = .ok (.iload_n 1, 1) := by decide +kernel
theorem dX9_read_88 : decode cX9_read 88 = .ok (.ireturn, 1) := by decide +kernel
theorem dX9_isLeap_0 : decode cX9_isLeap 0 = .ok (.iload_n 0, 1) := by decide +kernel
theorem dX9_isLeap_1 : decode cX9_isLeap 1 = .ok (.iconst 4, 1) := by decide +kernel
theorem dX9_isLeap_2 : decode cX9_isLeap 2 = .ok (.irem, 1) := by decide +kernel
theorem dX9_isLeap_3 : decode cX9_isLeap 3 = .ok (.ifCond .ne 22, 3) := by decide +kernel
theorem dX9_isLeap_6 : decode cX9_isLeap 6 = .ok (.iload_n 0, 1) := by decide +kernel
theorem dX9_isLeap_7 : decode cX9_isLeap 7 = .ok (.bipush 100, 2) := by decide +kernel
theorem dX9_isLeap_9 : decode cX9_isLeap 9 = .ok (.irem, 1) := by decide +kernel
theorem dX9_isLeap_10 : decode cX9_isLeap 10 = .ok (.ifCond .ne 11, 3) := by decide +kernel
theorem dX9_isLeap_13 : decode cX9_isLeap 13 = .ok (.iload_n 0, 1) := by decide +kernel
theorem dX9_isLeap_14 : decode cX9_isLeap 14 = .ok (.sipush 400, 3) := by decide +kernel
theorem dX9_isLeap_17 : decode cX9_isLeap 17 = .ok (.irem, 1) := by decide +kernel
theorem dX9_isLeap_18 : decode cX9_isLeap 18 = .ok (.ifCond .ne 7, 3) := by decide +kernel
theorem dX9_isLeap_21 : decode cX9_isLeap 21 = .ok (.iconst 1, 1) := by decide +kernel
theorem dX9_isLeap_22 : decode cX9_isLeap 22 = .ok (.goto 4, 3) := by decide +kernel
theorem dX9_isLeap_25 : decode cX9_isLeap 25 = .ok (.iconst 0, 1) := by decide +kernel
theorem dX9_isLeap_26 : decode cX9_isLeap 26 = .ok (.ireturn, 1) := by decide +kernel
theorem dX9_requireJourney_0 : decode cX9_requireJourney 0 = .ok (.iload_n 0, 1) := by decide +kernel
theorem dX9_requireJourney_1 : decode cX9_requireJourney 1 = .ok (.bipush 100, 2) := by decide +kernel
theorem dX9_requireJourney_3 : decode cX9_requireJourney 3 = .ok (.invokestatic 66, 3) := by decide +kernel
theorem dX9_requireJourney_6 : decode cX9_requireJourney 6 = .ok (.iload_n 1, 1) := by decide +kernel
theorem dX9_requireJourney_7 : decode cX9_requireJourney 7 = .ok (.bipush 100, 2) := by decide +kernel
theorem dX9_requireJourney_9 : decode cX9_requireJourney 9 = .ok (.invokestatic 66, 3) := by decide +kernel
theorem dX9_requireJourney_12 : decode cX9_requireJourney 12 = .ok (.lload_n 2, 1) := by decide +kernel
theorem dX9_requireJourney_13 : decode cX9_requireJourney 13 = .ok (.lconst 0, 1) := by decide +kernel
theorem dX9_requireJourney_14 : decode cX9_requireJourney 14 = .ok (.ldc2_w 235, 3) := by decide +kernel
theorem dX9_requireJourney_17 : decode cX9_requireJourney 17 = .ok (.invokestatic 39, 3) := by decide +kernel
theorem dX9_requireJourney_20 : decode cX9_requireJourney 20 = .ok (.return_, 1) := by decide +kernel
theorem dX9_requireIndex_0 : decode cX9_requireIndex 0 = .ok (.iload_n 0, 1) := by decide +kernel
theorem dX9_requireIndex_1 : decode cX9_requireIndex 1 = .ok (.ifCond .lt 8, 3) := by decide +kernel
theorem dX9_requireIndex_4 : decode cX9_requireIndex 4 = .ok (.iload_n 0, 1) := by decide +kernel
theorem dX9_requireIndex_5 : decode cX9_requireIndex 5 = .ok (.iload_n 1, 1) := by decide +kernel
theorem dX9_requireIndex_6 : decode cX9_requireIndex 6 = .ok (.if_icmp .lt 13, 3) := by decide +kernel
theorem dX9_requireIndex_9 : decode cX9_requireIndex 9 = .ok (.new 237, 3) := by decide +kernel
theorem dX9_requireIndex_12 : decode cX9_requireIndex 12 = .ok (.dup, 1) := by decide +kernel
theorem dX9_requireIndex_13 : decode cX9_requireIndex 13 = .ok (.ldc 239, 2) := by decide +kernel
theorem dX9_requireIndex_15 : decode cX9_requireIndex 15 = .ok (.invokespecial 241, 3) := by decide +kernel
theorem dX9_requireIndex_18 : decode cX9_requireIndex 18 = .ok (.athrow, 1) := by decide +kernel
theorem dX9_requireIndex_19 : decode cX9_requireIndex 19 = .ok (.return_, 1) := by decide +kernel
theorem dX9_requireRange_0 : decode cX9_requireRange 0 = .ok (.lload_n 0, 1) := by decide +kernel
theorem dX9_requireRange_1 : decode cX9_requireRange 1 = .ok (.lload_n 2, 1) := by decide +kernel
theorem dX9_requireRange_2 : decode cX9_requireRange 2 = .ok (.lcmp, 1) := by decide +kernel
theorem dX9_requireRange_3 : decode cX9_requireRange 3 = .ok (.ifCond .lt 10, 3) := by decide +kernel
theorem dX9_requireRange_6 : decode cX9_requireRange 6 = .ok (.lload_n 0, 1) := by decide +kernel
theorem dX9_requireRange_7 : decode cX9_requireRange 7 = .ok (.lload 4, 2) := by decide +kernel
theorem dX9_requireRange_9 : decode cX9_requireRange 9 = .ok (.lcmp, 1) := by decide +kernel
theorem dX9_requireRange_10 : decode cX9_requireRange 10 = .ok (.ifCond .le 13, 3) := by decide +kernel
theorem dX9_requireRange_13 : decode cX9_requireRange 13 = .ok (.new 242, 3) := by decide +kernel
theorem dX9_requireRange_16 : decode cX9_requireRange 16 = .ok (.dup, 1) := by decide +kernel
theorem dX9_requireRange_17 : decode cX9_requireRange 17 = .ok (.ldc 244, 2) := by decide +kernel
theorem dX9_requireRange_19 : decode cX9_requireRange 19 = .ok (.invokespecial 246, 3) := by decide +kernel
theorem dX9_requireRange_22 : decode cX9_requireRange 22 = .ok (.athrow, 1) := by decide +kernel
theorem dX9_requireRange_23 : decode cX9_requireRange 23 = .ok (.return_, 1) := by decide +kernel
theorem dX9_requireRoom_0 : decode cX9_requireRoom 0 = .ok (.iload_n 0, 1) := by decide +kernel
theorem dX9_requireRoom_1 : decode cX9_requireRoom 1 = .ok (.ifCond .ne 13, 3) := by decide +kernel
theorem dX9_requireRoom_4 : decode cX9_requireRoom 4 = .ok (.new 247, 3) := by decide +kernel
theorem dX9_requireRoom_7 : decode cX9_requireRoom 7 = .ok (.dup, 1) := by decide +kernel
theorem dX9_requireRoom_8 : decode cX9_requireRoom 8 = .ok (.ldc 249, 2) := by decide +kernel
theorem dX9_requireRoom_10 : decode cX9_requireRoom 10 = .ok (.invokespecial 251, 3) := by decide +kernel
theorem dX9_requireRoom_13 : decode cX9_requireRoom 13 = .ok (.athrow, 1) := by decide +kernel
theorem dX9_requireRoom_14 : decode cX9_requireRoom 14 = .ok (.return_, 1) := by decide +kernel
theorem dX10_init_0 : decode cX10_init 0 = .ok (.aload_n 0, 1) := by decide +kernel
theorem dX10_init_1 : decode cX10_init 1 = .ok (.invokespecial 1, 3) := by decide +kernel
theorem dX10_init_4 : decode cX10_init 4 = .ok (.aload_n 0, 1) := by decide +kernel
theorem dX10_init_5 : decode cX10_init 5 = .ok (.bipush 40, 2) := by decide +kernel
theorem dX10_init_7 : decode cX10_init 7 = .ok (.newarray .int, 2) := by decide +kernel
theorem dX10_init_9 : decode cX10_init 9 = .ok (.putfield 7, 3) := by decide +kernel
theorem dX10_init_12 : decode cX10_init 12 = .ok (.aload_n 0, 1) := by decide +kernel
theorem dX10_init_13 : decode cX10_init 13 = .ok (.bipush 40, 2) := by decide +kernel
theorem dX10_init_15 : decode cX10_init 15 = .ok (.newarray .int, 2) := by decide +kernel
theorem dX10_init_17 : decode cX10_init 17 = .ok (.putfield 13, 3) := by decide +kernel
theorem dX10_init_20 : decode cX10_init 20 = .ok (.aload_n 0, 1) := by decide +kernel
theorem dX10_init_21 : decode cX10_init 21 = .ok (.sipush 480, 3) := by decide +kernel
theorem dX10_init_24 : decode cX10_init 24 = .ok (.newarray .int, 2) := by decide +kernel
theorem dX10_init_26 : decode cX10_init 26 = .ok (.putfield 16, 3) := by decide +kernel
theorem dX10_init_29 : decode cX10_init 29 = .ok (.aload_n 0, 1) := by decide +kernel
theorem dX10_init_30 : decode cX10_init 30 = .ok (.sipush 480, 3) := by decide +kernel
theorem dX10_init_33 : decode cX10_init 33 = .ok (.newarray .long, 2) := by decide +kernel
theorem dX10_init_35 : decode cX10_init 35 = .ok (.putfield 19, 3) := by decide +kernel
theorem dX10_init_38 : decode cX10_init 38 = .ok (.aload_n 0, 1) := by decide +kernel
theorem dX10_init_39 : decode cX10_init 39 = .ok (.sipush 480, 3) := by decide +kernel
theorem dX10_init_42 : decode cX10_init 42 = .ok (.newarray .long, 2) := by decide +kernel
theorem dX10_init_44 : decode cX10_init 44 = .ok (.putfield 23, 3) := by decide +kernel
theorem dX10_init_47 : decode cX10_init 47 = .ok (.aload_n 0, 1) := by decide +kernel
theorem dX10_init_48 : decode cX10_init 48 = .ok (.bipush 100, 2) := by decide +kernel
theorem dX10_init_50 : decode cX10_init 50 = .ok (.newarray .int, 2) := by decide +kernel
theorem dX10_init_52 : decode cX10_init 52 = .ok (.putfield 26, 3) := by decide +kernel
theorem dX10_init_55 : decode cX10_init 55 = .ok (.aload_n 0, 1) := by decide +kernel
theorem dX10_init_56 : decode cX10_init 56 = .ok (.bipush 100, 2) := by decide +kernel
theorem dX10_init_58 : decode cX10_init 58 = .ok (.newarray .long, 2) := by decide +kernel
theorem dX10_init_60 : decode cX10_init 60 = .ok (.putfield 29, 3) := by decide +kernel
theorem dX10_init_63 : decode cX10_init 63 = .ok (.aload_n 0, 1) := by decide +kernel
theorem dX10_init_64 : decode cX10_init 64 = .ok (.bipush 100, 2) := by decide +kernel
theorem dX10_init_66 : decode cX10_init 66 = .ok (.newarray .boolean, 2) := by decide +kernel
theorem dX10_init_68 : decode cX10_init 68 = .ok (.putfield 32, 3) := by decide +kernel
theorem dX10_init_71 : decode cX10_init 71 = .ok (.aload_n 0, 1) := by decide +kernel
theorem dX10_init_72 : decode cX10_init 72 = .ok (.bipush 100, 2) := by decide +kernel
theorem dX10_init_74 : decode cX10_init 74 = .ok (.newarray .int, 2) := by decide +kernel
theorem dX10_init_76 : decode cX10_init 76 = .ok (.putfield 36, 3) := by decide +kernel
theorem dX10_init_79 : decode cX10_init 79 = .ok (.aload_n 0, 1) := by decide +kernel
theorem dX10_init_80 : decode cX10_init 80 = .ok (.bipush 100, 2) := by decide +kernel
theorem dX10_init_82 : decode cX10_init 82 = .ok (.newarray .long, 2) := by decide +kernel
theorem dX10_init_84 : decode cX10_init 84 = .ok (.putfield 39, 3) := by decide +kernel
theorem dX10_init_87 : decode cX10_init 87 = .ok (.aload_n 0, 1) := by decide +kernel
theorem dX10_init_88 : decode cX10_init 88 = .ok (.bipush 100, 2) := by decide +kernel
theorem dX10_init_90 : decode cX10_init 90 = .ok (.newarray .int, 2) := by decide +kernel
theorem dX10_init_92 : decode cX10_init 92 = .ok (.putfield 42, 3) := by decide +kernel
theorem dX10_init_95 : decode cX10_init 95 = .ok (.aload_n 0, 1) := by decide +kernel
theorem dX10_init_96 : decode cX10_init 96 = .ok (.bipush 100, 2) := by decide +kernel
theorem dX10_init_98 : decode cX10_init 98 = .ok (.newarray .int, 2) := by decide +kernel
theorem dX10_init_100 : decode cX10_init 100 = .ok (.putfield 45, 3) := by decide +kernel
theorem dX10_init_103 : decode cX10_init 103 = .ok (.aload_n 0, 1) := by decide +kernel
theorem dX10_init_104 : decode cX10_init 104 = .ok (.bipush 100, 2) := by decide +kernel
theorem dX10_init_106 : decode cX10_init 106 = .ok (.newarray .int, 2) := by decide +kernel
theorem dX10_init_108 : decode cX10_init 108 = .ok (.putfield 48, 3) := by decide +kernel
theorem dX10_init_111 : decode cX10_init 111 = .ok (.aload_n 0, 1) := by decide +kernel
theorem dX10_init_112 : decode cX10_init 112 = .ok (.bipush 100, 2) := by decide +kernel
theorem dX10_init_114 : decode cX10_init 114 = .ok (.newarray .long, 2) := by decide +kernel
theorem dX10_init_116 : decode cX10_init 116 = .ok (.putfield 51, 3) := by decide +kernel
theorem dX10_init_119 : decode cX10_init 119 = .ok (.aload_n 0, 1) := by decide +kernel
theorem dX10_init_120 : decode cX10_init 120 = .ok (.bipush 100, 2) := by decide +kernel
theorem dX10_init_122 : decode cX10_init 122 = .ok (.newarray .long, 2) := by decide +kernel
theorem dX10_init_124 : decode cX10_init 124 = .ok (.putfield 54, 3) := by decide +kernel
theorem dX10_init_127 : decode cX10_init 127 = .ok (.aload_n 0, 1) := by decide +kernel
theorem dX10_init_128 : decode cX10_init 128 = .ok (.bipush 100, 2) := by decide +kernel
theorem dX10_init_130 : decode cX10_init 130 = .ok (.newarray .int, 2) := by decide +kernel
theorem dX10_init_132 : decode cX10_init 132 = .ok (.putfield 57, 3) := by decide +kernel
theorem dX10_init_135 : decode cX10_init 135 = .ok (.aload_n 0, 1) := by decide +kernel
theorem dX10_init_136 : decode cX10_init 136 = .ok (.sipush 700, 3) := by decide +kernel
theorem dX10_init_139 : decode cX10_init 139 = .ok (.newarray .long, 2) := by decide +kernel
theorem dX10_init_141 : decode cX10_init 141 = .ok (.putfield 60, 3) := by decide +kernel
theorem dX10_init_144 : decode cX10_init 144 = .ok (.aload_n 0, 1) := by decide +kernel
theorem dX10_init_145 : decode cX10_init 145 = .ok (.bipush 6, 2) := by decide +kernel
theorem dX10_init_147 : decode cX10_init 147 = .ok (.newarray .int, 2) := by decide +kernel
theorem dX10_init_149 : decode cX10_init 149 = .ok (.putfield 63, 3) := by decide +kernel
theorem dX10_init_152 : decode cX10_init 152 = .ok (.aload_n 0, 1) := by decide +kernel
theorem dX10_init_153 : decode cX10_init 153 = .ok (.bipush 6, 2) := by decide +kernel
theorem dX10_init_155 : decode cX10_init 155 = .ok (.newarray .long, 2) := by decide +kernel
theorem dX10_init_157 : decode cX10_init 157 = .ok (.putfield 66, 3) := by decide +kernel
theorem dX10_init_160 : decode cX10_init 160 = .ok (.aload_n 0, 1) := by decide +kernel
theorem dX10_init_161 : decode cX10_init 161 = .ok (.bipush 6, 2) := by decide +kernel
theorem dX10_init_163 : decode cX10_init 163 = .ok (.newarray .int, 2) := by decide +kernel
theorem dX10_init_165 : decode cX10_init 165 = .ok (.putfield 69, 3) := by decide +kernel
theorem dX10_init_168 : decode cX10_init 168 = .ok (.aload_n 0, 1) := by decide +kernel
theorem dX10_init_169 : decode cX10_init 169 = .ok (.bipush 6, 2) := by decide +kernel
theorem dX10_init_171 : decode cX10_init 171 = .ok (.newarray .int, 2) := by decide +kernel
theorem dX10_init_173 : decode cX10_init 173 = .ok (.putfield 72, 3) := by decide +kernel
theorem dX10_init_176 : decode cX10_init 176 = .ok (.aload_n 0, 1) := by decide +kernel
theorem dX10_init_177 : decode cX10_init 177 = .ok (.sipush 500, 3) := by decide +kernel
theorem dX10_init_180 : decode cX10_init 180 = .ok (.newarray .int, 2) := by decide +kernel
theorem dX10_init_182 : decode cX10_init 182 = .ok (.putfield 75, 3) := by decide +kernel
theorem dX10_init_185 : decode cX10_init 185 = .ok (.aload_n 0, 1) := by decide +kernel
theorem dX10_init_186 : decode cX10_init 186 = .ok (.bipush 12, 2) := by decide +kernel
theorem dX10_init_188 : decode cX10_init 188 = .ok (.newarray .long, 2) := by decide +kernel
theorem dX10_init_190 : decode cX10_init 190 = .ok (.putfield 78, 3) := by decide +kernel
theorem dX10_init_193 : decode cX10_init 193 = .ok (.aload_n 0, 1) := by decide +kernel
theorem dX10_init_194 : decode cX10_init 194 = .ok (.bipush 12, 2) := by decide +kernel
theorem dX10_init_196 : decode cX10_init 196 = .ok (.newarray .long, 2) := by decide +kernel
theorem dX10_init_198 : decode cX10_init 198 = .ok (.putfield 81, 3) := by decide +kernel
theorem dX10_init_201 : decode cX10_init 201 = .ok (.aload_n 0, 1) := by decide +kernel
theorem dX10_init_202 : decode cX10_init 202 = .ok (.bipush 12, 2) := by decide +kernel
theorem dX10_init_204 : decode cX10_init 204 = .ok (.newarray .int, 2) := by decide +kernel
theorem dX10_init_206 : decode cX10_init 206 = .ok (.putfield 84, 3) := by decide +kernel
theorem dX10_init_209 : decode cX10_init 209 = .ok (.aload_n 0, 1) := by decide +kernel
theorem dX10_init_210 : decode cX10_init 210 = .ok (.bipush 6, 2) := by decide +kernel
theorem dX10_init_212 : decode cX10_init 212 = .ok (.newarray .long, 2) := by decide +kernel
theorem dX10_init_214 : decode cX10_init 214 = .ok (.putfield 87, 3) := by decide +kernel
theorem dX10_init_217 : decode cX10_init 217 = .ok (.aload_n 0, 1) := by decide +kernel
theorem dX10_init_218 : decode cX10_init 218 = .ok (.bipush 6, 2) := by decide +kernel
theorem dX10_init_220 : decode cX10_init 220 = .ok (.newarray .long, 2) := by decide +kernel
theorem dX10_init_222 : decode cX10_init 222 = .ok (.putfield 90, 3) := by decide +kernel
theorem dX10_init_225 : decode cX10_init 225 = .ok (.aload_n 0, 1) := by decide +kernel
theorem dX10_init_226 : decode cX10_init 226 = .ok (.bipush 6, 2) := by decide +kernel
theorem dX10_init_228 : decode cX10_init 228 = .ok (.newarray .long, 2) := by decide +kernel
theorem dX10_init_230 : decode cX10_init 230 = .ok (.putfield 93, 3) := by decide +kernel
theorem dX10_init_233 : decode cX10_init 233 = .ok (.aload_n 0, 1) := by decide +kernel
theorem dX10_init_234 : decode cX10_init 234 = .ok (.iconst 0, 1) := by decide +kernel
theorem dX10_init_235 : decode cX10_init 235 = .ok (.putfield 96, 3) := by decide +kernel
theorem dX10_init_238 : decode cX10_init 238 = .ok (.return_, 1) := by decide +kernel
theorem dX10_thrown_0 : decode cX10_thrown 0 = .ok (.aload_n 0, 1) := by decide +kernel
theorem dX10_thrown_1 : decode cX10_thrown 1 = .ok (.getfield 100, 3) := by decide +kernel
theorem dX10_thrown_4 : decode cX10_thrown 4 = .ok (.ireturn, 1) := by decide +kernel
theorem dX10_refused_0 : decode cX10_refused 0 = .ok (.aload_n 0, 1) := by decide +kernel
theorem dX10_refused_1 : decode cX10_refused 1 = .ok (.iload_n 1, 1) := by decide +kernel
theorem dX10_refused_2 : decode cX10_refused 2 = .ok (.ifCond .eq 7, 3) := by decide +kernel
theorem dX10_refused_5 : decode cX10_refused 5 = .ok (.iconst 1, 1) := by decide +kernel
theorem dX10_refused_6 : decode cX10_refused 6 = .ok (.goto 20, 3) := by decide +kernel
theorem dX10_refused_9 : decode cX10_refused 9 = .ok (.iload_n 2, 1) := by decide +kernel
theorem dX10_refused_10 : decode cX10_refused 10 = .ok (.ifCond .eq 7, 3) := by decide +kernel
theorem dX10_refused_13 : decode cX10_refused 13 = .ok (.iconst 2, 1) := by decide +kernel
theorem dX10_refused_14 : decode cX10_refused 14 = .ok (.goto 12, 3) := by decide +kernel
theorem dX10_refused_17 : decode cX10_refused 17 = .ok (.iload_n 3, 1) := by decide +kernel
theorem dX10_refused_18 : decode cX10_refused 18 = .ok (.ifCond .eq 7, 3) := by decide +kernel
theorem dX10_refused_21 : decode cX10_refused 21 = .ok (.iconst 3, 1) := by decide +kernel
theorem dX10_refused_22 : decode cX10_refused 22 = .ok (.goto 4, 3) := by decide +kernel
theorem dX10_refused_25 : decode cX10_refused 25 = .ok (.iconst 0, 1) := by decide +kernel
theorem dX10_refused_26 : decode cX10_refused 26 = .ok (.putfield 100, 3) := by decide +kernel
theorem dX10_refused_29 : decode cX10_refused 29 = .ok (.aload_n 0, 1) := by decide +kernel
theorem dX10_refused_30 : decode cX10_refused 30 = .ok (.getfield 100, 3) := by decide +kernel
theorem dX10_refused_33 : decode cX10_refused 33 = .ok (.ifCond .le 7, 3) := by decide +kernel
theorem dX10_refused_36 : decode cX10_refused 36 = .ok (.iconst 1, 1) := by decide +kernel
theorem dX10_refused_37 : decode cX10_refused 37 = .ok (.goto 4, 3) := by decide +kernel
theorem dX10_refused_40 : decode cX10_refused 40 = .ok (.iconst 0, 1) := by decide +kernel
theorem dX10_refused_41 : decode cX10_refused 41 = .ok (.ireturn, 1) := by decide +kernel
theorem dX10_within_0 : decode cX10_within 0 = .ok (.lload_n 0, 1) := by decide +kernel
theorem dX10_within_1 : decode cX10_within 1 = .ok (.lload_n 2, 1) := by decide +kernel
theorem dX10_within_2 : decode cX10_within 2 = .ok (.lcmp, 1) := by decide +kernel
theorem dX10_within_3 : decode cX10_within 3 = .ok (.ifCond .lt 14, 3) := by decide +kernel
theorem dX10_within_6 : decode cX10_within 6 = .ok (.lload_n 0, 1) := by decide +kernel
theorem dX10_within_7 : decode cX10_within 7 = .ok (.lload 4, 2) := by decide +kernel
theorem dX10_within_9 : decode cX10_within 9 = .ok (.lcmp, 1) := by decide +kernel
theorem dX10_within_10 : decode cX10_within 10 = .ok (.ifCond .gt 7, 3) := by decide +kernel
theorem dX10_within_13 : decode cX10_within 13 = .ok (.iconst 1, 1) := by decide +kernel
theorem dX10_within_14 : decode cX10_within 14 = .ok (.goto 4, 3) := by decide +kernel
theorem dX10_within_17 : decode cX10_within 17 = .ok (.iconst 0, 1) := by decide +kernel
theorem dX10_within_18 : decode cX10_within 18 = .ok (.ireturn, 1) := by decide +kernel
theorem dX10_isPlace_0 : decode cX10_isPlace 0 = .ok (.iload_n 0, 1) := by decide +kernel
theorem dX10_isPlace_1 : decode cX10_isPlace 1 = .ok (.i2l, 1) := by decide +kernel
theorem dX10_isPlace_2 : decode cX10_isPlace 2 = .ok (.lconst 0, 1) := by decide +kernel
theorem dX10_isPlace_3 : decode cX10_isPlace 3 = .ok (.ldc2_w 103, 3) := by decide +kernel
theorem dX10_isPlace_6 : decode cX10_isPlace 6 = .ok (.invokestatic 105, 3) := by decide +kernel
theorem dX10_isPlace_9 : decode cX10_isPlace 9 = .ok (.ireturn, 1) := by decide +kernel
theorem dX10_isLine_0 : decode cX10_isLine 0 = .ok (.iload_n 1, 1) := by decide +kernel
theorem dX10_isLine_1 : decode cX10_isLine 1 = .ok (.i2l, 1) := by decide +kernel
theorem dX10_isLine_2 : decode cX10_isLine 2 = .ok (.lconst 0, 1) := by decide +kernel
theorem dX10_isLine_3 : decode cX10_isLine 3 = .ok (.aload_n 0, 1) := by decide +kernel
theorem dX10_isLine_4 : decode cX10_isLine 4 = .ok (.getfield 96, 3) := by decide +kernel
theorem dX10_isLine_7 : decode cX10_isLine 7 = .ok (.iconst 1, 1) := by decide +kernel
theorem dX10_isLine_8 : decode cX10_isLine 8 = .ok (.isub, 1) := by decide +kernel
theorem dX10_isLine_9 : decode cX10_isLine 9 = .ok (.i2l, 1) := by decide +kernel
theorem dX10_isLine_10 : decode cX10_isLine 10 = .ok (.invokestatic 105, 3) := by decide +kernel
theorem dX10_isLine_13 : decode cX10_isLine 13 = .ok (.ireturn, 1) := by decide +kernel
theorem dX10_line_0 : decode cX10_line 0 = .ok (.aload_n 0, 1) := by decide +kernel
theorem dX10_line_1 : decode cX10_line 1 = .ok (.iload_n 1, 1) := by decide +kernel
theorem dX10_line_2 : decode cX10_line 2 = .ok (.i2l, 1) := by decide +kernel
theorem dX10_line_3 : decode cX10_line 3 = .ok (.lconst 0, 1) := by decide +kernel
theorem dX10_line_4 : decode cX10_line 4 = .ok (.ldc2_w 109, 3) := by decide +kernel
theorem dX10_line_7 : decode cX10_line 7 = .ok (.invokestatic 105, 3) := by decide +kernel
theorem dX10_line_10 : decode cX10_line 10 = .ok (.ifCond .ne 7, 3) := by decide +kernel
theorem dX10_line_13 : decode cX10_line 13 = .ok (.iconst 1, 1) := by decide +kernel
theorem dX10_line_14 : decode cX10_line 14 = .ok (.goto 4, 3) := by decide +kernel
theorem dX10_line_17 : decode cX10_line 17 = .ok (.iconst 0, 1) := by decide +kernel
theorem dX10_line_18 : decode cX10_line 18 = .ok (.aload_n 0, 1) := by decide +kernel
theorem dX10_line_19 : decode cX10_line 19 = .ok (.getfield 96, 3) := by decide +kernel
theorem dX10_line_22 : decode cX10_line 22 = .ok (.bipush 40, 2) := by decide +kernel
theorem dX10_line_24 : decode cX10_line 24 = .ok (.if_icmp .ne 7, 3) := by decide +kernel
theorem dX10_line_27 : decode cX10_line 27 = .ok (.iconst 1, 1) := by decide +kernel
theorem dX10_line_28 : decode cX10_line 28 = .ok (.goto 4, 3) := by decide +kernel
theorem dX10_line_31 : decode cX10_line 31 = .ok (.iconst 0, 1) := by decide +kernel
theorem dX10_line_32 : decode cX10_line 32 = .ok (.iconst 0, 1) := by decide +kernel
theorem dX10_line_33 : decode cX10_line 33 = .ok (.invokevirtual 111, 3) := by decide +kernel
theorem dX10_line_36 : decode cX10_line 36 = .ok (.ifCond .eq 5, 3) := by decide +kernel
theorem dX10_line_39 : decode cX10_line 39 = .ok (.iconst 0, 1) := by decide +kernel
theorem dX10_line_40 : decode cX10_line 40 = .ok (.ireturn, 1) := by decide +kernel
theorem dX10_line_41 : decode cX10_line 41 = .ok (.aload_n 0, 1) := by decide +kernel
theorem dX10_line_42 : decode cX10_line 42 = .ok (.getfield 7, 3) := by decide +kernel
theorem dX10_line_45 : decode cX10_line 45 = .ok (.aload_n 0, 1) := by decide +kernel
theorem dX10_line_46 : decode cX10_line 46 = .ok (.getfield 96, 3) := by decide +kernel
theorem dX10_line_49 : decode cX10_line 49 = .ok (.iload_n 1, 1) := by decide +kernel
theorem dX10_line_50 : decode cX10_line 50 = .ok (.iastore, 1) := by decide +kernel
theorem dX10_line_51 : decode cX10_line 51 = .ok (.aload_n 0, 1) := by decide +kernel
theorem dX10_line_52 : decode cX10_line 52 = .ok (.getfield 13, 3) := by decide +kernel
theorem dX10_line_55 : decode cX10_line 55 = .ok (.aload_n 0, 1) := by decide +kernel
theorem dX10_line_56 : decode cX10_line 56 = .ok (.getfield 96, 3) := by decide +kernel
theorem dX10_line_59 : decode cX10_line 59 = .ok (.iconst 0, 1) := by decide +kernel
theorem dX10_line_60 : decode cX10_line 60 = .ok (.iastore, 1) := by decide +kernel
theorem dX10_line_61 : decode cX10_line 61 = .ok (.aload_n 0, 1) := by decide +kernel
theorem dX10_line_62 : decode cX10_line 62 = .ok (.dup, 1) := by decide +kernel
theorem dX10_line_63 : decode cX10_line 63 = .ok (.getfield 96, 3) := by decide +kernel
theorem dX10_line_66 : decode cX10_line 66 = .ok (.iconst 1, 1) := by decide +kernel
theorem dX10_line_67 : decode cX10_line 67 = .ok (.iadd, 1) := by decide +kernel
theorem dX10_line_68 : decode cX10_line 68 = .ok (.putfield 96, 3) := by decide +kernel
theorem dX10_line_71 : decode cX10_line 71 = .ok (.aload_n 0, 1) := by decide +kernel
theorem dX10_line_72 : decode cX10_line 72 = .ok (.getfield 96, 3) := by decide +kernel
theorem dX10_line_75 : decode cX10_line 75 = .ok (.iconst 1, 1) := by decide +kernel
theorem dX10_line_76 : decode cX10_line 76 = .ok (.isub, 1) := by decide +kernel
theorem dX10_line_77 : decode cX10_line 77 = .ok (.ireturn, 1) := by decide +kernel
theorem dX10_addStop_0 : decode cX10_addStop 0 = .ok (.bipush 12, 2) := by decide +kernel
theorem dX10_addStop_2 : decode cX10_addStop 2 = .ok (.iload_n 1, 1) := by decide +kernel
theorem dX10_addStop_3 : decode cX10_addStop 3 = .ok (.imul, 1) := by decide +kernel
theorem dX10_addStop_4 : decode cX10_addStop 4 = .ok (.aload_n 0, 1) := by decide +kernel
theorem dX10_addStop_5 : decode cX10_addStop 5 = .ok (.getfield 13, 3) := by decide +kernel
theorem dX10_addStop_8 : decode cX10_addStop 8 = .ok (.iload_n 1, 1) := by decide +kernel
theorem dX10_addStop_9 : decode cX10_addStop 9 = .ok (.iaload, 1) := by decide +kernel
theorem dX10_addStop_10 : decode cX10_addStop 10 = .ok (.iadd, 1) := by decide +kernel
theorem dX10_addStop_11 : decode cX10_addStop 11 = .ok (.istore 7, 2) := by decide +kernel
theorem dX10_addStop_13 : decode cX10_addStop 13 = .ok (.aload_n 0, 1) := by decide +kernel
theorem dX10_addStop_14 : decode cX10_addStop 14 = .ok (.getfield 16, 3) := by decide +kernel
theorem dX10_addStop_17 : decode cX10_addStop 17 = .ok (.iload 7, 2) := by decide +kernel
theorem dX10_addStop_19 : decode cX10_addStop 19 = .ok (.iload_n 2, 1) := by decide +kernel
theorem dX10_addStop_20 : decode cX10_addStop 20 = .ok (.iastore, 1) := by decide +kernel
theorem dX10_addStop_21 : decode cX10_addStop 21 = .ok (.aload_n 0, 1) := by decide +kernel
theorem dX10_addStop_22 : decode cX10_addStop 22 = .ok (.getfield 19, 3) := by decide +kernel
theorem dX10_addStop_25 : decode cX10_addStop 25 = .ok (.iload 7, 2) := by decide +kernel
theorem dX10_addStop_27 : decode cX10_addStop 27 = .ok (.lload_n 3, 1) := by decide +kernel
theorem dX10_addStop_28 : decode cX10_addStop 28 = .ok (.lastore, 1) := by decide +kernel
theorem dX10_addStop_29 : decode cX10_addStop 29 = .ok (.aload_n 0, 1) := by decide +kernel
theorem dX10_addStop_30 : decode cX10_addStop 30 = .ok (.getfield 23, 3) := by decide +kernel
theorem dX10_addStop_33 : decode cX10_addStop 33 = .ok (.iload 7, 2) := by decide +kernel
theorem dX10_addStop_35 : decode cX10_addStop 35 = .ok (.lload 5, 2) := by decide +kernel
theorem dX10_addStop_37 : decode cX10_addStop 37 = .ok (.lastore, 1) := by decide +kernel
theorem dX10_addStop_38 : decode cX10_addStop 38 = .ok (.aload_n 0, 1) := by decide +kernel
theorem dX10_addStop_39 : decode cX10_addStop 39 = .ok (.getfield 13, 3) := by decide +kernel
theorem dX10_addStop_42 : decode cX10_addStop 42 = .ok (.iload_n 1, 1) := by decide +kernel
theorem dX10_addStop_43 : decode cX10_addStop 43 = .ok (.dup2, 1) := by decide +kernel
theorem dX10_addStop_44 : decode cX10_addStop 44 = .ok (.iaload, 1) := by decide +kernel
theorem dX10_addStop_45 : decode cX10_addStop 45 = .ok (.iconst 1, 1) := by decide +kernel
theorem dX10_addStop_46 : decode cX10_addStop 46 = .ok (.iadd, 1) := by decide +kernel
theorem dX10_addStop_47 : decode cX10_addStop 47 = .ok (.iastore, 1) := by decide +kernel
theorem dX10_addStop_48 : decode cX10_addStop 48 = .ok (.return_, 1) := by decide +kernel
theorem dX10_stop_0 : decode cX10_stop 0 = .ok (.aload_n 0, 1) := by decide +kernel
theorem dX10_stop_1 : decode cX10_stop 1 = .ok (.iload_n 1, 1) := by decide +kernel
theorem dX10_stop_2 : decode cX10_stop 2 = .ok (.invokevirtual 115, 3) := by decide +kernel
theorem dX10_stop_5 : decode cX10_stop 5 = .ok (.ifCond .eq 10, 3) := by decide +kernel
theorem dX10_stop_8 : decode cX10_stop 8 = .ok (.iload_n 2, 1) := by decide +kernel
theorem dX10_stop_9 : decode cX10_stop 9 = .ok (.invokestatic 119, 3) := by decide +kernel
theorem dX10_stop_12 : decode cX10_stop 12 = .ok (.ifCond .ne 7, 3) := by decide +kernel
theorem dX10_stop_15 : decode cX10_stop 15 = .ok (.iconst 1, 1) := by decide +kernel
theorem dX10_stop_16 : decode cX10_stop 16 = .ok (.goto 4, 3) := by decide +kernel
theorem dX10_stop_19 : decode cX10_stop 19 = .ok (.iconst 0, 1) := by decide +kernel
theorem dX10_stop_20 : decode cX10_stop 20 = .ok (.istore 7, 2) := by decide +kernel
theorem dX10_stop_22 : decode cX10_stop 22 = .ok (.aload_n 0, 1) := by decide +kernel
theorem dX10_stop_23 : decode cX10_stop 23 = .ok (.iload 7, 2) := by decide +kernel
theorem dX10_stop_25 : decode cX10_stop 25 = .ok (.lload_n 3, 1) := by decide +kernel
theorem dX10_stop_26 : decode cX10_stop 26 = .ok (.lconst 0, 1) := by decide +kernel
theorem dX10_stop_27 : decode cX10_stop 27 = .ok (.ldc2_w 122, 3) := by decide +kernel
theorem dX10_stop_30 : decode cX10_stop 30 = .ok (.invokestatic 105, 3) := by decide +kernel
theorem dX10_stop_33 : decode cX10_stop 33 = .ok (.ifCond .eq 15, 3) := by decide +kernel
theorem dX10_stop_36 : decode cX10_stop 36 = .ok (.lload 5, 2) := by decide +kernel
theorem dX10_stop_38 : decode cX10_stop 38 = .ok (.lconst 0, 1) := by decide +kernel
theorem dX10_stop_39 : decode cX10_stop 39 = .ok (.ldc2_w 122, 3) := by decide +kernel
theorem dX10_stop_42 : decode cX10_stop 42 = .ok (.invokestatic 105, 3) := by decide +kernel
theorem dX10_stop_45 : decode cX10_stop 45 = .ok (.ifCond .ne 7, 3) := by decide +kernel
theorem dX10_stop_48 : decode cX10_stop 48 = .ok (.iconst 1, 1) := by decide +kernel
theorem dX10_stop_49 : decode cX10_stop 49 = .ok (.goto 4, 3) := by decide +kernel
theorem dX10_stop_52 : decode cX10_stop 52 = .ok (.iconst 0, 1) := by decide +kernel
theorem dX10_stop_53 : decode cX10_stop 53 = .ok (.iload 7, 2) := by decide +kernel
theorem dX10_stop_55 : decode cX10_stop 55 = .ok (.ifCond .ne 18, 3) := by decide +kernel
theorem dX10_stop_58 : decode cX10_stop 58 = .ok (.aload_n 0, 1) := by decide +kernel
theorem dX10_stop_59 : decode cX10_stop 59 = .ok (.getfield 13, 3) := by decide +kernel
theorem dX10_stop_62 : decode cX10_stop 62 = .ok (.iload_n 1, 1) := by decide +kernel
theorem dX10_stop_63 : decode cX10_stop 63 = .ok (.iaload, 1) := by decide +kernel
theorem dX10_stop_64 : decode cX10_stop 64 = .ok (.bipush 12, 2) := by decide +kernel
theorem dX10_stop_66 : decode cX10_stop 66 = .ok (.if_icmp .ne 7, 3) := by decide +kernel
theorem dX10_stop_69 : decode cX10_stop 69 = .ok (.iconst 1, 1) := by decide +kernel
theorem dX10_stop_70 : decode cX10_stop 70 = .ok (.goto 4, 3) := by decide +kernel
theorem dX10_stop_73 : decode cX10_stop 73 = .ok (.iconst 0, 1) := by decide +kernel
theorem dX10_stop_74 : decode cX10_stop 74 = .ok (.invokevirtual 111, 3) := by decide +kernel
theorem dX10_stop_77 : decode cX10_stop 77 = .ok (.ifCond .eq 5, 3) := by decide +kernel
theorem dX10_stop_80 : decode cX10_stop 80 = .ok (.iconst 0, 1) := by decide +kernel
theorem dX10_stop_81 : decode cX10_stop 81 = .ok (.ireturn, 1) := by decide +kernel
theorem dX10_stop_82 : decode cX10_stop 82 = .ok (.lload 5, 2) := by decide +kernel
theorem dX10_stop_84 : decode cX10_stop 84 = .ok (.lload_n 3, 1) := by decide +kernel
theorem dX10_stop_85 : decode cX10_stop 85 = .ok (.lcmp, 1) := by decide +kernel
theorem dX10_stop_86 : decode cX10_stop 86 = .ok (.ifCond .lt 35, 3) := by decide +kernel
theorem dX10_stop_89 : decode cX10_stop 89 = .ok (.aload_n 0, 1) := by decide +kernel
theorem dX10_stop_90 : decode cX10_stop 90 = .ok (.getfield 13, 3) := by decide +kernel
theorem dX10_stop_93 : decode cX10_stop 93 = .ok (.iload_n 1, 1) := by decide +kernel
theorem dX10_stop_94 : decode cX10_stop 94 = .ok (.iaload, 1) := by decide +kernel
theorem dX10_stop_95 : decode cX10_stop 95 = .ok (.ifCond .le 28, 3) := by decide +kernel
theorem dX10_stop_98 : decode cX10_stop 98 = .ok (.lload_n 3, 1) := by decide +kernel
theorem dX10_stop_99 : decode cX10_stop 99 = .ok (.aload_n 0, 1) := by decide +kernel
theorem dX10_stop_100 : decode cX10_stop 100 = .ok (.getfield 23, 3) := by decide +kernel
theorem dX10_stop_103 : decode cX10_stop 103 = .ok (.bipush 12, 2) := by decide +kernel
theorem dX10_stop_105 : decode cX10_stop 105 = .ok (.iload_n 1, 1) := by decide +kernel
theorem dX10_stop_106 : decode cX10_stop 106 = .ok (.imul, 1) := by decide +kernel
theorem dX10_stop_107 : decode cX10_stop 107 = .ok (.aload_n 0, 1) := by decide +kernel
theorem dX10_stop_108 : decode cX10_stop 108 = .ok (.getfield 13, 3) := by decide +kernel
theorem dX10_stop_111 : decode cX10_stop 111 = .ok (.iload_n 1, 1) := by decide +kernel
theorem dX10_stop_112 : decode cX10_stop 112 = .ok (.iaload, 1) := by decide +kernel
theorem dX10_stop_113 : decode cX10_stop 113 = .ok (.iadd, 1) := by decide +kernel
theorem dX10_stop_114 : decode cX10_stop 114 = .ok (.iconst 1, 1) := by decide +kernel
theorem dX10_stop_115 : decode cX10_stop 115 = .ok (.isub, 1) := by decide +kernel
theorem dX10_stop_116 : decode cX10_stop 116 = .ok (.laload, 1) := by decide +kernel
theorem dX10_stop_117 : decode cX10_stop 117 = .ok (.lcmp, 1) := by decide +kernel
theorem dX10_stop_118 : decode cX10_stop 118 = .ok (.ifCond .ge 5, 3) := by decide +kernel
theorem dX10_stop_121 : decode cX10_stop 121 = .ok (.iconst 0, 1) := by decide +kernel
theorem dX10_stop_122 : decode cX10_stop 122 = .ok (.ireturn, 1) := by decide +kernel
theorem dX10_stop_123 : decode cX10_stop 123 = .ok (.aload_n 0, 1) := by decide +kernel
theorem dX10_stop_124 : decode cX10_stop 124 = .ok (.iload_n 1, 1) := by decide +kernel
theorem dX10_stop_125 : decode cX10_stop 125 = .ok (.iload_n 2, 1) := by decide +kernel
theorem dX10_stop_126 : decode cX10_stop 126 = .ok (.lload_n 3, 1) := by decide +kernel
theorem dX10_stop_127 : decode cX10_stop 127 = .ok (.lload 5, 2) := by decide +kernel
theorem dX10_stop_129 : decode cX10_stop 129 = .ok (.invokevirtual 124, 3) := by decide +kernel
theorem dX10_stop_132 : decode cX10_stop 132 = .ok (.iconst 1, 1) := by decide +kernel
theorem dX10_stop_133 : decode cX10_stop 133 = .ok (.ireturn, 1) := by decide +kernel
theorem dX10_exception_0 : decode cX10_exception 0 = .ok (.iconst 0, 1) := by decide +kernel
theorem dX10_exception_1 : decode cX10_exception 1 = .ok (.istore 5, 2) := by decide +kernel
theorem dX10_exception_3 : decode cX10_exception 3 = .ok (.iload 5, 2) := by decide +kernel
theorem dX10_exception_5 : decode cX10_exception 5 = .ok (.aload_n 0, 1) := by decide +kernel
theorem dX10_exception_6 : decode cX10_exception 6 = .ok (.getfield 128, 3) := by decide +kernel
theorem dX10_exception_9 : decode cX10_exception 9 = .ok (.if_icmp .ge 32, 3) := by decide +kernel
theorem dX10_exception_12 : decode cX10_exception 12 = .ok (.aload_n 0, 1) := by decide +kernel
theorem dX10_exception_13 : decode cX10_exception 13 = .ok (.getfield 26, 3) := by decide +kernel
theorem dX10_exception_16 : decode cX10_exception 16 = .ok (.iload 5, 2) := by decide +kernel
theorem dX10_exception_18 : decode cX10_exception 18 = .ok (.iaload, 1) := by decide +kernel
theorem dX10_exception_19 : decode cX10_exception 19 = .ok (.iload_n 1, 1) := by decide +kernel
theorem dX10_exception_20 : decode cX10_exception 20 = .ok (.if_icmp .ne 15, 3) := by decide +kernel
theorem dX10_exception_23 : decode cX10_exception 23 = .ok (.aload_n 0, 1) := by decide +kernel
theorem dX10_exception_24 : decode cX10_exception 24 = .ok (.getfield 29, 3) := by decide +kernel
theorem dX10_exception_27 : decode cX10_exception 27 = .ok (.iload 5, 2) := by decide +kernel
theorem dX10_exception_29 : decode cX10_exception 29 = .ok (.laload, 1) := by decide +kernel
theorem dX10_exception_30 : decode cX10_exception 30 = .ok (.lload_n 2, 1) := by decide +kernel
theorem dX10_exception_31 : decode cX10_exception 31 = .ok (.lcmp, 1) := by decide +kernel
theorem dX10_exception_32 : decode cX10_exception 32 = .ok (.ifCond .eq 9, 3) := by decide +kernel
theorem dX10_exception_35 : decode cX10_exception 35 = .ok (.iinc 5 1, 3) := by decide +kernel
theorem dX10_exception_38 : decode cX10_exception 38 = .ok (.goto (-35), 3) := by decide +kernel
theorem dX10_exception_41 : decode cX10_exception 41 = .ok (.aload_n 0, 1) := by decide +kernel
theorem dX10_exception_42 : decode cX10_exception 42 = .ok (.aload_n 0, 1) := by decide +kernel
theorem dX10_exception_43 : decode cX10_exception 43 = .ok (.iload_n 1, 1) := by decide +kernel
theorem dX10_exception_44 : decode cX10_exception 44 = .ok (.invokevirtual 115, 3) := by decide +kernel
theorem dX10_exception_47 : decode cX10_exception 47 = .ok (.ifCond .ne 7, 3) := by decide +kernel
theorem dX10_exception_50 : decode cX10_exception 50 = .ok (.iconst 1, 1) := by decide +kernel
theorem dX10_exception_51 : decode cX10_exception 51 = .ok (.goto 4, 3) := by decide +kernel
theorem dX10_exception_54 : decode cX10_exception 54 = .ok (.iconst 0, 1) := by decide +kernel
theorem dX10_exception_55 : decode cX10_exception 55 = .ok (.lload_n 2, 1) := by decide +kernel
theorem dX10_exception_56 : decode cX10_exception 56 = .ok (.lconst 0, 1) := by decide +kernel
theorem dX10_exception_57 : decode cX10_exception 57 = .ok (.ldc2_w 131, 3) := by decide +kernel
theorem dX10_exception_60 : decode cX10_exception 60 = .ok (.invokestatic 105, 3) := by decide +kernel
theorem dX10_exception_63 : decode cX10_exception 63 = .ok (.ifCond .ne 7, 3) := by decide +kernel
theorem dX10_exception_66 : decode cX10_exception 66 = .ok (.iconst 1, 1) := by decide +kernel
theorem dX10_exception_67 : decode cX10_exception 67 = .ok (.goto 4, 3) := by decide +kernel
theorem dX10_exception_70 : decode cX10_exception 70 = .ok (.iconst 0, 1) := by decide +kernel
theorem dX10_exception_71 : decode cX10_exception 71 = .ok (.iload 5, 2) := by decide +kernel
theorem dX10_exception_73 : decode cX10_exception 73 = .ok (.bipush 100, 2) := by decide +kernel
theorem dX10_exception_75 : decode cX10_exception 75 = .ok (.if_icmp .ne 7, 3) := by decide +kernel
theorem dX10_exception_78 : decode cX10_exception 78 = .ok (.iconst 1, 1) := by decide +kernel
theorem dX10_exception_79 : decode cX10_exception 79 = .ok (.goto 4, 3) := by decide +kernel
theorem dX10_exception_82 : decode cX10_exception 82 = .ok (.iconst 0, 1) := by decide +kernel
theorem dX10_exception_83 : decode cX10_exception 83 = .ok (.invokevirtual 111, 3) := by decide +kernel
theorem dX10_exception_86 : decode cX10_exception 86 = .ok (.ifCond .eq 5, 3) := by decide +kernel
theorem dX10_exception_89 : decode cX10_exception 89 = .ok (.iconst 0, 1) := by decide +kernel
theorem dX10_exception_90 : decode cX10_exception 90 = .ok (.ireturn, 1) := by decide +kernel
theorem dX10_exception_91 : decode cX10_exception 91 = .ok (.aload_n 0, 1) := by decide +kernel
theorem dX10_exception_92 : decode cX10_exception 92 = .ok (.getfield 26, 3) := by decide +kernel
theorem dX10_exception_95 : decode cX10_exception 95 = .ok (.iload 5, 2) := by decide +kernel
theorem dX10_exception_97 : decode cX10_exception 97 = .ok (.iload_n 1, 1) := by decide +kernel
theorem dX10_exception_98 : decode cX10_exception 98 = .ok (.iastore, 1) := by decide +kernel
theorem dX10_exception_99 : decode cX10_exception 99 = .ok (.aload_n 0, 1) := by decide +kernel
theorem dX10_exception_100 : decode cX10_exception 100 = .ok (.getfield 29, 3) := by decide +kernel
theorem dX10_exception_103 : decode cX10_exception 103 = .ok (.iload 5, 2) := by decide +kernel
theorem dX10_exception_105 : decode cX10_exception 105 = .ok (.lload_n 2, 1) := by decide +kernel
theorem dX10_exception_106 : decode cX10_exception 106 = .ok (.lastore, 1) := by decide +kernel
theorem dX10_exception_107 : decode cX10_exception 107 = .ok (.aload_n 0, 1) := by decide +kernel
theorem dX10_exception_108 : decode cX10_exception 108 = .ok (.getfield 32, 3) := by decide +kernel
theorem dX10_exception_111 : decode cX10_exception 111 = .ok (.iload 5, 2) := by decide +kernel
theorem dX10_exception_113 : decode cX10_exception 113 = .ok (.iload 4, 2) := by decide +kernel
theorem dX10_exception_115 : decode cX10_exception 115 = .ok (.bastore, 1) := by decide +kernel
theorem dX10_exception_116 : decode cX10_exception 116 = .ok (.aload_n 0, 1) := by decide +kernel
theorem dX10_exception_117 : decode cX10_exception 117 = .ok (.iload 5, 2) := by decide +kernel
theorem dX10_exception_119 : decode cX10_exception 119 = .ok (.aload_n 0, 1) := by decide +kernel
theorem dX10_exception_120 : decode cX10_exception 120 = .ok (.getfield 128, 3) := by decide +kernel
theorem dX10_exception_123 : decode cX10_exception 123 = .ok (.if_icmp .ne 12, 3) := by decide +kernel
theorem dX10_exception_126 : decode cX10_exception 126 = .ok (.aload_n 0, 1) := by decide +kernel
theorem dX10_exception_127 : decode cX10_exception 127 = .ok (.getfield 128, 3) := by decide +kernel
theorem dX10_exception_130 : decode cX10_exception 130 = .ok (.iconst 1, 1) := by decide +kernel
theorem dX10_exception_131 : decode cX10_exception 131 = .ok (.iadd, 1) := by decide +kernel
theorem dX10_exception_132 : decode cX10_exception 132 = .ok (.goto 7, 3) := by decide +kernel
theorem dX10_exception_135 : decode cX10_exception 135 = .ok (.aload_n 0, 1) := by decide +kernel
theorem dX10_exception_136 : decode cX10_exception 136 = .ok (.getfield 128, 3) := by decide +kernel
theorem dX10_exception_139 : decode cX10_exception 139 = .ok (.putfield 128, 3) := by decide +kernel
theorem dX10_exception_142 : decode cX10_exception 142 = .ok (.aload_n 0, 1) := by decide +kernel
theorem dX10_exception_143 : decode cX10_exception 143 = .ok (.getfield 128, 3) := by decide +kernel
theorem dX10_exception_146 : decode cX10_exception 146 = .ok (.ireturn, 1) := by decide +kernel
theorem dX10_zone_0 : decode cX10_zone 0 = .ok (.iconst 0, 1) := by decide +kernel
theorem dX10_zone_1 : decode cX10_zone 1 = .ok (.istore 5, 2) := by decide +kernel
theorem dX10_zone_3 : decode cX10_zone 3 = .ok (.iload 5, 2) := by decide +kernel
theorem dX10_zone_5 : decode cX10_zone 5 = .ok (.aload_n 0, 1) := by decide +kernel
theorem dX10_zone_6 : decode cX10_zone 6 = .ok (.getfield 133, 3) := by decide +kernel
theorem dX10_zone_9 : decode cX10_zone 9 = .ok (.if_icmp .ge 32, 3) := by decide +kernel
theorem dX10_zone_12 : decode cX10_zone 12 = .ok (.aload_n 0, 1) := by decide +kernel
theorem dX10_zone_13 : decode cX10_zone 13 = .ok (.getfield 36, 3) := by decide +kernel
theorem dX10_zone_16 : decode cX10_zone 16 = .ok (.iload 5, 2) := by decide +kernel
theorem dX10_zone_18 : decode cX10_zone 18 = .ok (.iaload, 1) := by decide +kernel
theorem dX10_zone_19 : decode cX10_zone 19 = .ok (.iload_n 1, 1) := by decide +kernel
theorem dX10_zone_20 : decode cX10_zone 20 = .ok (.if_icmp .ne 15, 3) := by decide +kernel
theorem dX10_zone_23 : decode cX10_zone 23 = .ok (.aload_n 0, 1) := by decide +kernel
theorem dX10_zone_24 : decode cX10_zone 24 = .ok (.getfield 39, 3) := by decide +kernel
theorem dX10_zone_27 : decode cX10_zone 27 = .ok (.iload 5, 2) := by decide +kernel
theorem dX10_zone_29 : decode cX10_zone 29 = .ok (.laload, 1) := by decide +kernel
theorem dX10_zone_30 : decode cX10_zone 30 = .ok (.lload_n 2, 1) := by decide +kernel
theorem dX10_zone_31 : decode cX10_zone 31 = .ok (.lcmp, 1) := by decide +kernel
theorem dX10_zone_32 : decode cX10_zone 32 = .ok (.ifCond .eq 9, 3) := by decide +kernel
theorem dX10_zone_35 : decode cX10_zone 35 = .ok (.iinc 5 1, 3) := by decide +kernel
theorem dX10_zone_38 : decode cX10_zone 38 = .ok (.goto (-35), 3) := by decide +kernel
theorem dX10_zone_41 : decode cX10_zone 41 = .ok (.aload_n 0, 1) := by decide +kernel
theorem dX10_zone_42 : decode cX10_zone 42 = .ok (.iload_n 1, 1) := by decide +kernel
theorem dX10_zone_43 : decode cX10_zone 43 = .ok (.invokestatic 119, 3) := by decide +kernel
theorem dX10_zone_46 : decode cX10_zone 46 = .ok (.ifCond .ne 7, 3) := by decide +kernel
theorem dX10_zone_49 : decode cX10_zone 49 = .ok (.iconst 1, 1) := by decide +kernel
theorem dX10_zone_50 : decode cX10_zone 50 = .ok (.goto 4, 3) := by decide +kernel
theorem dX10_zone_53 : decode cX10_zone 53 = .ok (.iconst 0, 1) := by decide +kernel
theorem dX10_zone_54 : decode cX10_zone 54 = .ok (.lload_n 2, 1) := by decide +kernel
theorem dX10_zone_55 : decode cX10_zone 55 = .ok (.lconst 0, 1) := by decide +kernel
theorem dX10_zone_56 : decode cX10_zone 56 = .ok (.ldc2_w 136, 3) := by decide +kernel
theorem dX10_zone_59 : decode cX10_zone 59 = .ok (.invokestatic 105, 3) := by decide +kernel
theorem dX10_zone_62 : decode cX10_zone 62 = .ok (.ifCond .eq 18, 3) := by decide +kernel
theorem dX10_zone_65 : decode cX10_zone 65 = .ok (.iload 4, 2) := by decide +kernel
theorem dX10_zone_67 : decode cX10_zone 67 = .ok (.i2l, 1) := by decide +kernel
theorem dX10_zone_68 : decode cX10_zone 68 = .ok (.ldc2_w 138, 3) := by decide +kernel
theorem dX10_zone_71 : decode cX10_zone 71 = .ok (.ldc2_w 140, 3) := by decide +kernel
theorem dX10_zone_74 : decode cX10_zone 74 = .ok (.invokestatic 105, 3) := by decide +kernel
theorem dX10_zone_77 : decode cX10_zone 77 = .ok (.ifCond .ne 7, 3) := by decide +kernel
theorem dX10_zone_80 : decode cX10_zone 80 = .ok (.iconst 1, 1) := by decide +kernel
theorem dX10_zone_81 : decode cX10_zone 81 = .ok (.goto 4, 3) := by decide +kernel
theorem dX10_zone_84 : decode cX10_zone 84 = .ok (.iconst 0, 1) := by decide +kernel
theorem dX10_zone_85 : decode cX10_zone 85 = .ok (.iload 5, 2) := by decide +kernel
theorem dX10_zone_87 : decode cX10_zone 87 = .ok (.bipush 100, 2) := by decide +kernel
theorem dX10_zone_89 : decode cX10_zone 89 = .ok (.if_icmp .ne 7, 3) := by decide +kernel
theorem dX10_zone_92 : decode cX10_zone 92 = .ok (.iconst 1, 1) := by decide +kernel
theorem dX10_zone_93 : decode cX10_zone 93 = .ok (.goto 4, 3) := by decide +kernel
theorem dX10_zone_96 : decode cX10_zone 96 = .ok (.iconst 0, 1) := by decide +kernel
theorem dX10_zone_97 : decode cX10_zone 97 = .ok (.invokevirtual 111, 3) := by decide +kernel
theorem dX10_zone_100 : decode cX10_zone 100 = .ok (.ifCond .eq 5, 3) := by decide +kernel
theorem dX10_zone_103 : decode cX10_zone 103 = .ok (.iconst 0, 1) := by decide +kernel
theorem dX10_zone_104 : decode cX10_zone 104 = .ok (.ireturn, 1) := by decide +kernel
theorem dX10_zone_105 : decode cX10_zone 105 = .ok (.aload_n 0, 1) := by decide +kernel
theorem dX10_zone_106 : decode cX10_zone 106 = .ok (.getfield 36, 3) := by decide +kernel
theorem dX10_zone_109 : decode cX10_zone 109 = .ok (.iload 5, 2) := by decide +kernel
theorem dX10_zone_111 : decode cX10_zone 111 = .ok (.iload_n 1, 1) := by decide +kernel
theorem dX10_zone_112 : decode cX10_zone 112 = .ok (.iastore, 1) := by decide +kernel
theorem dX10_zone_113 : decode cX10_zone 113 = .ok (.aload_n 0, 1) := by decide +kernel
theorem dX10_zone_114 : decode cX10_zone 114 = .ok (.getfield 39, 3) := by decide +kernel
theorem dX10_zone_117 : decode cX10_zone 117 = .ok (.iload 5, 2) := by decide +kernel
theorem dX10_zone_119 : decode cX10_zone 119 = .ok (.lload_n 2, 1) := by decide +kernel
theorem dX10_zone_120 : decode cX10_zone 120 = .ok (.lastore, 1) := by decide +kernel
theorem dX10_zone_121 : decode cX10_zone 121 = .ok (.aload_n 0, 1) := by decide +kernel
theorem dX10_zone_122 : decode cX10_zone 122 = .ok (.getfield 42, 3) := by decide +kernel
theorem dX10_zone_125 : decode cX10_zone 125 = .ok (.iload 5, 2) := by decide +kernel
theorem dX10_zone_127 : decode cX10_zone 127 = .ok (.iload 4, 2) := by decide +kernel
theorem dX10_zone_129 : decode cX10_zone 129 = .ok (.iastore, 1) := by decide +kernel
theorem dX10_zone_130 : decode cX10_zone 130 = .ok (.aload_n 0, 1) := by decide +kernel
theorem dX10_zone_131 : decode cX10_zone 131 = .ok (.iload 5, 2) := by decide +kernel
theorem dX10_zone_133 : decode cX10_zone 133 = .ok (.aload_n 0, 1) := by decide +kernel
theorem dX10_zone_134 : decode cX10_zone 134 = .ok (.getfield 133, 3) := by decide +kernel
theorem dX10_zone_137 : decode cX10_zone 137 = .ok (.if_icmp .ne 12, 3) := by decide +kernel
theorem dX10_zone_140 : decode cX10_zone 140 = .ok (.aload_n 0, 1) := by decide +kernel
theorem dX10_zone_141 : decode cX10_zone 141 = .ok (.getfield 133, 3) := by decide +kernel
theorem dX10_zone_144 : decode cX10_zone 144 = .ok (.iconst 1, 1) := by decide +kernel
theorem dX10_zone_145 : decode cX10_zone 145 = .ok (.iadd, 1) := by decide +kernel
theorem dX10_zone_146 : decode cX10_zone 146 = .ok (.goto 7, 3) := by decide +kernel
theorem dX10_zone_149 : decode cX10_zone 149 = .ok (.aload_n 0, 1) := by decide +kernel
theorem dX10_zone_150 : decode cX10_zone 150 = .ok (.getfield 133, 3) := by decide +kernel
theorem dX10_zone_153 : decode cX10_zone 153 = .ok (.putfield 133, 3) := by decide +kernel
theorem dX10_zone_156 : decode cX10_zone 156 = .ok (.iconst 0, 1) := by decide +kernel
theorem dX10_zone_157 : decode cX10_zone 157 = .ok (.istore 6, 2) := by decide +kernel
theorem dX10_zone_159 : decode cX10_zone 159 = .ok (.iconst 0, 1) := by decide +kernel
theorem dX10_zone_160 : decode cX10_zone 160 = .ok (.istore 7, 2) := by decide +kernel
theorem dX10_zone_162 : decode cX10_zone 162 = .ok (.iload 7, 2) := by decide +kernel
theorem dX10_zone_164 : decode cX10_zone 164 = .ok (.aload_n 0, 1) := by decide +kernel
theorem dX10_zone_165 : decode cX10_zone 165 = .ok (.getfield 133, 3) := by decide +kernel
theorem dX10_zone_168 : decode cX10_zone 168 = .ok (.if_icmp .ge 31, 3) := by decide +kernel
theorem dX10_zone_171 : decode cX10_zone 171 = .ok (.aload_n 0, 1) := by decide +kernel
theorem dX10_zone_172 : decode cX10_zone 172 = .ok (.getfield 36, 3) := by decide +kernel
theorem dX10_zone_175 : decode cX10_zone 175 = .ok (.iload 7, 2) := by decide +kernel
theorem dX10_zone_177 : decode cX10_zone 177 = .ok (.iaload, 1) := by decide +kernel
theorem dX10_zone_178 : decode cX10_zone 178 = .ok (.iload_n 1, 1) := by decide +kernel
theorem dX10_zone_179 : decode cX10_zone 179 = .ok (.if_icmp .ne 10, 3) := by decide +kernel
theorem dX10_zone_182 : decode cX10_zone 182 = .ok (.iload 6, 2) := by decide +kernel
theorem dX10_zone_184 : decode cX10_zone 184 = .ok (.iconst 1, 1) := by decide +kernel
theorem dX10_zone_185 : decode cX10_zone 185 = .ok (.iadd, 1) := by decide +kernel
theorem dX10_zone_186 : decode cX10_zone 186 = .ok (.goto 5, 3) := by decide +kernel
theorem dX10_zone_189 : decode cX10_zone 189 = .ok (.iload 6, 2) := by decide +kernel
theorem dX10_zone_191 : decode cX10_zone 191 = .ok (.istore 6, 2) := by decide +kernel
theorem dX10_zone_193 : decode cX10_zone 193 = .ok (.iinc 7 1, 3) := by decide +kernel
theorem dX10_zone_196 : decode cX10_zone 196 = .ok (.goto (-34), 3) := by decide +kernel
theorem dX10_zone_199 : decode cX10_zone 199 = .ok (.iload 6, 2) := by decide +kernel
theorem dX10_zone_201 : decode cX10_zone 201 = .ok (.ireturn, 1) := by decide +kernel
theorem dX10_least_0 : decode cX10_least 0 = .ok (.aload_n 0, 1) := by decide +kernel
theorem dX10_least_1 : decode cX10_least 1 = .ok (.iload_n 1, 1) := by decide +kernel
theorem dX10_least_2 : decode cX10_least 2 = .ok (.invokestatic 119, 3) := by decide +kernel
theorem dX10_least_5 : decode cX10_least 5 = .ok (.ifCond .ne 7, 3) := by decide +kernel
theorem dX10_least_8 : decode cX10_least 8 = .ok (.iconst 1, 1) := by decide +kernel
theorem dX10_least_9 : decode cX10_least 9 = .ok (.goto 4, 3) := by decide +kernel
theorem dX10_least_12 : decode cX10_least 12 = .ok (.iconst 0, 1) := by decide +kernel
theorem dX10_least_13 : decode cX10_least 13 = .ok (.lload_n 2, 1) := by decide +kernel
theorem dX10_least_14 : decode cX10_least 14 = .ok (.lconst 0, 1) := by decide +kernel
theorem dX10_least_15 : decode cX10_least 15 = .ok (.ldc2_w 142, 3) := by decide +kernel
theorem dX10_least_18 : decode cX10_least 18 = .ok (.invokestatic 105, 3) := by decide +kernel
theorem dX10_least_21 : decode cX10_least 21 = .ok (.ifCond .ne 7, 3) := by decide +kernel
theorem dX10_least_24 : decode cX10_least 24 = .ok (.iconst 1, 1) := by decide +kernel
theorem dX10_least_25 : decode cX10_least 25 = .ok (.goto 4, 3) := by decide +kernel
theorem dX10_least_28 : decode cX10_least 28 = .ok (.iconst 0, 1) := by decide +kernel
theorem dX10_least_29 : decode cX10_least 29 = .ok (.iconst 0, 1) := by decide +kernel
theorem dX10_least_30 : decode cX10_least 30 = .ok (.invokevirtual 111, 3) := by decide +kernel
theorem dX10_least_33 : decode cX10_least 33 = .ok (.ifCond .eq 5, 3) := by decide +kernel
theorem dX10_least_36 : decode cX10_least 36 = .ok (.iconst 0, 1) := by decide +kernel
theorem dX10_least_37 : decode cX10_least 37 = .ok (.ireturn, 1) := by decide +kernel
theorem dX10_least_38 : decode cX10_least 38 = .ok (.aload_n 0, 1) := by decide +kernel
theorem dX10_least_39 : decode cX10_least 39 = .ok (.getfield 57, 3) := by decide +kernel
theorem dX10_least_42 : decode cX10_least 42 = .ok (.iload_n 1, 1) := by decide +kernel
theorem dX10_least_43 : decode cX10_least 43 = .ok (.iaload, 1) := by decide +kernel
theorem dX10_least_44 : decode cX10_least 44 = .ok (.istore 4, 2) := by decide +kernel
theorem dX10_least_46 : decode cX10_least 46 = .ok (.aload_n 0, 1) := by decide +kernel
theorem dX10_least_47 : decode cX10_least 47 = .ok (.getfield 57, 3) := by decide +kernel
theorem dX10_least_50 : decode cX10_least 50 = .ok (.iload_n 1, 1) := by decide +kernel
theorem dX10_least_51 : decode cX10_least 51 = .ok (.lload_n 2, 1) := by decide +kernel
theorem dX10_least_52 : decode cX10_least 52 = .ok (.l2i, 1) := by decide +kernel
theorem dX10_least_53 : decode cX10_least 53 = .ok (.iastore, 1) := by decide +kernel
theorem dX10_least_54 : decode cX10_least 54 = .ok (.iload 4, 2) := by decide +kernel
theorem dX10_least_56 : decode cX10_least 56 = .ok (.ireturn, 1) := by decide +kernel
theorem dX10_change_0 : decode cX10_change 0 = .ok (.aload_n 0, 1) := by decide +kernel
theorem dX10_change_1 : decode cX10_change 1 = .ok (.iload_n 1, 1) := by decide +kernel
theorem dX10_change_2 : decode cX10_change 2 = .ok (.invokevirtual 115, 3) := by decide +kernel
theorem dX10_change_5 : decode cX10_change 5 = .ok (.ifCond .eq 21, 3) := by decide +kernel
theorem dX10_change_8 : decode cX10_change 8 = .ok (.iload_n 2, 1) := by decide +kernel
theorem dX10_change_9 : decode cX10_change 9 = .ok (.i2l, 1) := by decide +kernel
theorem dX10_change_10 : decode cX10_change 10 = .ok (.lconst 0, 1) := by decide +kernel
theorem dX10_change_11 : decode cX10_change 11 = .ok (.aload_n 0, 1) := by decide +kernel
theorem dX10_change_12 : decode cX10_change 12 = .ok (.getfield 13, 3) := by decide +kernel
theorem dX10_change_15 : decode cX10_change 15 = .ok (.iload_n 1, 1) := by decide +kernel
theorem dX10_change_16 : decode cX10_change 16 = .ok (.iaload, 1) := by decide +kernel
theorem dX10_change_17 : decode cX10_change 17 = .ok (.iconst 1, 1) := by decide +kernel
theorem dX10_change_18 : decode cX10_change 18 = .ok (.isub, 1) := by decide +kernel
theorem dX10_change_19 : decode cX10_change 19 = .ok (.i2l, 1) := by decide +kernel
theorem dX10_change_20 : decode cX10_change 20 = .ok (.invokestatic 105, 3) := by decide +kernel
theorem dX10_change_23 : decode cX10_change 23 = .ok (.ifCond .ne 7, 3) := by decide +kernel
theorem dX10_change_26 : decode cX10_change 26 = .ok (.iconst 1, 1) := by decide +kernel
theorem dX10_change_27 : decode cX10_change 27 = .ok (.goto 4, 3) := by decide +kernel
theorem dX10_change_30 : decode cX10_change 30 = .ok (.iconst 0, 1) := by decide +kernel
theorem dX10_change_31 : decode cX10_change 31 = .ok (.istore 7, 2) := by decide +kernel
theorem dX10_change_33 : decode cX10_change 33 = .ok (.aload_n 0, 1) := by decide +kernel
theorem dX10_change_34 : decode cX10_change 34 = .ok (.iload 7, 2) := by decide +kernel
theorem dX10_change_36 : decode cX10_change 36 = .ok (.lload_n 3, 1) := by decide +kernel
theorem dX10_change_37 : decode cX10_change 37 = .ok (.lconst 0, 1) := by decide +kernel
theorem dX10_change_38 : decode cX10_change 38 = .ok (.ldc2_w 142, 3) := by decide +kernel
theorem dX10_change_41 : decode cX10_change 41 = .ok (.invokestatic 105, 3) := by decide +kernel
theorem dX10_change_44 : decode cX10_change 44 = .ok (.ifCond .eq 15, 3) := by decide +kernel
theorem dX10_change_47 : decode cX10_change 47 = .ok (.lload 5, 2) := by decide +kernel
theorem dX10_change_49 : decode cX10_change 49 = .ok (.lconst 0, 1) := by decide +kernel
theorem dX10_change_50 : decode cX10_change 50 = .ok (.ldc2_w 131, 3) := by decide +kernel
theorem dX10_change_53 : decode cX10_change 53 = .ok (.invokestatic 105, 3) := by decide +kernel
theorem dX10_change_56 : decode cX10_change 56 = .ok (.ifCond .ne 7, 3) := by decide +kernel
theorem dX10_change_59 : decode cX10_change 59 = .ok (.iconst 1, 1) := by decide +kernel
theorem dX10_change_60 : decode cX10_change 60 = .ok (.goto 4, 3) := by decide +kernel
theorem dX10_change_63 : decode cX10_change 63 = .ok (.iconst 0, 1) := by decide +kernel
theorem dX10_change_64 : decode cX10_change 64 = .ok (.aload_n 0, 1) := by decide +kernel
theorem dX10_change_65 : decode cX10_change 65 = .ok (.getfield 144, 3) := by decide +kernel
theorem dX10_change_68 : decode cX10_change 68 = .ok (.bipush 100, 2) := by decide +kernel
theorem dX10_change_70 : decode cX10_change 70 = .ok (.if_icmp .ne 7, 3) := by decide +kernel
theorem dX10_change_73 : decode cX10_change 73 = .ok (.iconst 1, 1) := by decide +kernel
theorem dX10_change_74 : decode cX10_change 74 = .ok (.goto 4, 3) := by decide +kernel
theorem dX10_change_77 : decode cX10_change 77 = .ok (.iconst 0, 1) := by decide +kernel
theorem dX10_change_78 : decode cX10_change 78 = .ok (.invokevirtual 111, 3) := by decide +kernel
theorem dX10_change_81 : decode cX10_change 81 = .ok (.ifCond .eq 5, 3) := by decide +kernel
theorem dX10_change_84 : decode cX10_change 84 = .ok (.iconst 0, 1) := by decide +kernel
theorem dX10_change_85 : decode cX10_change 85 = .ok (.ireturn, 1) := by decide +kernel
theorem dX10_change_86 : decode cX10_change 86 = .ok (.aload_n 0, 1) := by decide +kernel
theorem dX10_change_87 : decode cX10_change 87 = .ok (.getfield 45, 3) := by decide +kernel
theorem dX10_change_90 : decode cX10_change 90 = .ok (.aload_n 0, 1) := by decide +kernel
theorem dX10_change_91 : decode cX10_change 91 = .ok (.getfield 144, 3) := by decide +kernel
theorem dX10_change_94 : decode cX10_change 94 = .ok (.iload_n 1, 1) := by decide +kernel
theorem dX10_change_95 : decode cX10_change 95 = .ok (.iastore, 1) := by decide +kernel
theorem dX10_change_96 : decode cX10_change 96 = .ok (.aload_n 0, 1) := by decide +kernel
theorem dX10_change_97 : decode cX10_change 97 = .ok (.getfield 48, 3) := by decide +kernel
theorem dX10_change_100 : decode cX10_change 100 = .ok (.aload_n 0, 1) := by decide +kernel
theorem dX10_change_101 : decode cX10_change 101 = .ok (.getfield 144, 3) := by decide +kernel
theorem dX10_change_104 : decode cX10_change 104 = .ok (.iload_n 2, 1) := by decide +kernel
theorem dX10_change_105 : decode cX10_change 105 = .ok (.iastore, 1) := by decide +kernel
theorem dX10_change_106 : decode cX10_change 106 = .ok (.aload_n 0, 1) := by decide +kernel
theorem dX10_change_107 : decode cX10_change 107 = .ok (.getfield 51, 3) := by decide +kernel
theorem dX10_change_110 : decode cX10_change 110 = .ok (.aload_n 0, 1) := by decide +kernel
theorem dX10_change_111 : decode cX10_change 111 = .ok (.getfield 144, 3) := by decide +kernel
theorem dX10_change_114 : decode cX10_change 114 = .ok (.lload_n 3, 1) := by decide +kernel
theorem dX10_change_115 : decode cX10_change 115 = .ok (.lastore, 1) := by decide +kernel
theorem dX10_change_116 : decode cX10_change 116 = .ok (.aload_n 0, 1) := by decide +kernel
theorem dX10_change_117 : decode cX10_change 117 = .ok (.getfield 54, 3) := by decide +kernel
theorem dX10_change_120 : decode cX10_change 120 = .ok (.aload_n 0, 1) := by decide +kernel
theorem dX10_change_121 : decode cX10_change 121 = .ok (.getfield 144, 3) := by decide +kernel
theorem dX10_change_124 : decode cX10_change 124 = .ok (.lload 5, 2) := by decide +kernel
theorem dX10_change_126 : decode cX10_change 126 = .ok (.lastore, 1) := by decide +kernel
theorem dX10_change_127 : decode cX10_change 127 = .ok (.aload_n 0, 1) := by decide +kernel
theorem dX10_change_128 : decode cX10_change 128 = .ok (.dup, 1) := by decide +kernel
theorem dX10_change_129 : decode cX10_change 129 = .ok (.getfield 144, 3) := by decide +kernel
theorem dX10_change_132 : decode cX10_change 132 = .ok (.iconst 1, 1) := by decide +kernel
theorem dX10_change_133 : decode cX10_change 133 = .ok (.iadd, 1) := by decide +kernel
theorem dX10_change_134 : decode cX10_change 134 = .ok (.putfield 144, 3) := by decide +kernel
theorem dX10_change_137 : decode cX10_change 137 = .ok (.aload_n 0, 1) := by decide +kernel
theorem dX10_change_138 : decode cX10_change 138 = .ok (.getfield 144, 3) := by decide +kernel
theorem dX10_change_141 : decode cX10_change 141 = .ok (.ireturn, 1) := by decide +kernel
theorem dX10_runs_0 : decode cX10_runs 0 = .ok (.lload_n 2, 1) := by decide +kernel
theorem dX10_runs_1 : decode cX10_runs 1 = .ok (.lconst 0, 1) := by decide +kernel
theorem dX10_runs_2 : decode cX10_runs 2 = .ok (.lcmp, 1) := by decide +kernel
theorem dX10_runs_3 : decode cX10_runs 3 = .ok (.ifCond .ge 5, 3) := by decide +kernel
theorem dX10_runs_6 : decode cX10_runs 6 = .ok (.iconst 0, 1) := by decide +kernel
theorem dX10_runs_7 : decode cX10_runs 7 = .ok (.ireturn, 1) := by decide +kernel
theorem dX10_runs_8 : decode cX10_runs 8 = .ok (.iconst 0, 1) := by decide +kernel
theorem dX10_runs_9 : decode cX10_runs 9 = .ok (.istore 4, 2) := by decide +kernel
theorem dX10_runs_11 : decode cX10_runs 11 = .ok (.iload 4, 2) := by decide +kernel
theorem dX10_runs_13 : decode cX10_runs 13 = .ok (.aload_n 0, 1) := by decide +kernel
theorem dX10_runs_14 : decode cX10_runs 14 = .ok (.getfield 128, 3) := by decide +kernel
theorem dX10_runs_17 : decode cX10_runs 17 = .ok (.if_icmp .ge 40, 3) := by decide +kernel
theorem dX10_runs_20 : decode cX10_runs 20 = .ok (.aload_n 0, 1) := by decide +kernel
theorem dX10_runs_21 : decode cX10_runs 21 = .ok (.getfield 26, 3) := by decide +kernel
theorem dX10_runs_24 : decode cX10_runs 24 = .ok (.iload 4, 2) := by decide +kernel
theorem dX10_runs_26 : decode cX10_runs 26 = .ok (.iaload, 1) := by decide +kernel
theorem dX10_runs_27 : decode cX10_runs 27 = .ok (.iload_n 1, 1) := by decide +kernel
theorem dX10_runs_28 : decode cX10_runs 28 = .ok (.if_icmp .ne 23, 3) := by decide +kernel
theorem dX10_runs_31 : decode cX10_runs 31 = .ok (.aload_n 0, 1) := by decide +kernel
theorem dX10_runs_32 : decode cX10_runs 32 = .ok (.getfield 29, 3) := by decide +kernel
theorem dX10_runs_35 : decode cX10_runs 35 = .ok (.iload 4, 2) := by decide +kernel
theorem dX10_runs_37 : decode cX10_runs 37 = .ok (.laload, 1) := by decide +kernel
theorem dX10_runs_38 : decode cX10_runs 38 = .ok (.lload_n 2, 1) := by decide +kernel
theorem dX10_runs_39 : decode cX10_runs 39 = .ok (.lcmp, 1) := by decide +kernel
theorem dX10_runs_40 : decode cX10_runs 40 = .ok (.ifCond .ne 11, 3) := by decide +kernel
theorem dX10_runs_43 : decode cX10_runs 43 = .ok (.aload_n 0, 1) := by decide +kernel
theorem dX10_runs_44 : decode cX10_runs 44 = .ok (.getfield 32, 3) := by decide +kernel
theorem dX10_runs_47 : decode cX10_runs 47 = .ok (.iload 4, 2) := by decide +kernel
theorem dX10_runs_49 : decode cX10_runs 49 = .ok (.baload, 1) := by decide +kernel
theorem dX10_runs_50 : decode cX10_runs 50 = .ok (.ireturn, 1) := by decide +kernel
theorem dX10_runs_51 : decode cX10_runs 51 = .ok (.iinc 4 1, 3) := by decide +kernel
theorem dX10_runs_54 : decode cX10_runs 54 = .ok (.goto (-43), 3) := by decide +kernel
theorem dX10_runs_57 : decode cX10_runs 57 = .ok (.lload_n 2, 1) := by decide +kernel
theorem dX10_runs_58 : decode cX10_runs 58 = .ok (.ldc2_w 147, 3) := by decide +kernel
theorem dX10_runs_61 : decode cX10_runs 61 = .ok (.lrem, 1) := by decide +kernel
theorem dX10_runs_62 : decode cX10_runs 62 = .ok (.l2i, 1) := by decide +kernel
theorem dX10_runs_63 : decode cX10_runs 63 = .ok (.istore 4, 2) := by decide +kernel
theorem dX10_runs_65 : decode cX10_runs 65 = .ok (.aload_n 0, 1) := by decide +kernel
theorem dX10_runs_66 : decode cX10_runs 66 = .ok (.getfield 7, 3) := by decide +kernel
theorem dX10_runs_69 : decode cX10_runs 69 = .ok (.iload_n 1, 1) := by decide +kernel
theorem dX10_runs_70 : decode cX10_runs 70 = .ok (.iaload, 1) := by decide +kernel
theorem dX10_runs_71 : decode cX10_runs 71 = .ok (.iload 4, 2) := by decide +kernel
theorem dX10_runs_73 : decode cX10_runs 73 = .ok (.ishr, 1) := by decide +kernel
theorem dX10_runs_74 : decode cX10_runs 74 = .ok (.iconst 1, 1) := by decide +kernel
theorem dX10_runs_75 : decode cX10_runs 75 = .ok (.iand, 1) := by decide +kernel
theorem dX10_runs_76 : decode cX10_runs 76 = .ok (.iconst 1, 1) := by decide +kernel
theorem dX10_runs_77 : decode cX10_runs 77 = .ok (.if_icmp .ne 7, 3) := by decide +kernel
theorem dX10_runs_80 : decode cX10_runs 80 = .ok (.iconst 1, 1) := by decide +kernel
theorem dX10_runs_81 : decode cX10_runs 81 = .ok (.goto 4, 3) := by decide +kernel
theorem dX10_runs_84 : decode cX10_runs 84 = .ok (.iconst 0, 1) := by decide +kernel
theorem dX10_runs_85 : decode cX10_runs 85 = .ok (.ireturn, 1) := by decide +kernel
theorem dX10_minutesAt_0 : decode cX10_minutesAt 0 = .ok (.iconst (-1), 1) := by decide +kernel
theorem dX10_minutesAt_1 : decode cX10_minutesAt 1 = .ok (.istore 4, 2) := by decide +kernel
theorem dX10_minutesAt_3 : decode cX10_minutesAt 3 = .ok (.iconst 0, 1) := by decide +kernel
theorem dX10_minutesAt_4 : decode cX10_minutesAt 4 = .ok (.istore 5, 2) := by decide +kernel
theorem dX10_minutesAt_6 : decode cX10_minutesAt 6 = .ok (.iload 5, 2) := by decide +kernel
theorem dX10_minutesAt_8 : decode cX10_minutesAt 8 = .ok (.aload_n 0, 1) := by decide +kernel
theorem dX10_minutesAt_9 : decode cX10_minutesAt 9 = .ok (.getfield 133, 3) := by decide +kernel
theorem dX10_minutesAt_12 : decode cX10_minutesAt 12 = .ok (.if_icmp .ge 153, 3) := by decide +kernel
theorem dX10_minutesAt_15 : decode cX10_minutesAt 15 = .ok (.aload_n 0, 1) := by decide +kernel
theorem dX10_minutesAt_16 : decode cX10_minutesAt 16 = .ok (.getfield 36, 3) := by decide +kernel
theorem dX10_minutesAt_19 : decode cX10_minutesAt 19 = .ok (.iload 5, 2) := by decide +kernel
theorem dX10_minutesAt_21 : decode cX10_minutesAt 21 = .ok (.iaload, 1) := by decide +kernel
theorem dX10_minutesAt_22 : decode cX10_minutesAt 22 = .ok (.iload_n 1, 1) := by decide +kernel
theorem dX10_minutesAt_23 : decode cX10_minutesAt 23 = .ok (.if_icmp .ne 136, 3) := by decide +kernel
theorem dX10_minutesAt_26 : decode cX10_minutesAt 26 = .ok (.aload_n 0, 1) := by decide +kernel
theorem dX10_minutesAt_27 : decode cX10_minutesAt 27 = .ok (.getfield 39, 3) := by decide +kernel
theorem dX10_minutesAt_30 : decode cX10_minutesAt 30 = .ok (.iload 5, 2) := by decide +kernel
theorem dX10_minutesAt_32 : decode cX10_minutesAt 32 = .ok (.laload, 1) := by decide +kernel
theorem dX10_minutesAt_33 : decode cX10_minutesAt 33 = .ok (.ldc2_w 149, 3) := by decide +kernel
theorem dX10_minutesAt_36 : decode cX10_minutesAt 36 = .ok (.lload_n 2, 1) := by decide +kernel
theorem dX10_minutesAt_37 : decode cX10_minutesAt 37 = .ok (.lmul, 1) := by decide +kernel
theorem dX10_minutesAt_38 : decode cX10_minutesAt 38 = .ok (.lcmp, 1) := by decide +kernel
theorem dX10_minutesAt_39 : decode cX10_minutesAt 39 = .ok (.ifCond .gt 7, 3) := by decide +kernel
theorem dX10_minutesAt_42 : decode cX10_minutesAt 42 = .ok (.iconst 1, 1) := by decide +kernel
theorem dX10_minutesAt_43 : decode cX10_minutesAt 43 = .ok (.goto 4, 3) := by decide +kernel
theorem dX10_minutesAt_46 : decode cX10_minutesAt 46 = .ok (.iconst 0, 1) := by decide +kernel
theorem dX10_minutesAt_47 : decode cX10_minutesAt 47 = .ok (.istore 6, 2) := by decide +kernel
theorem dX10_minutesAt_49 : decode cX10_minutesAt 49 = .ok (.iload 4, 2) := by decide +kernel
theorem dX10_minutesAt_51 : decode cX10_minutesAt 51 = .ok (.ifCond .lt 23, 3) := by decide +kernel
theorem dX10_minutesAt_54 : decode cX10_minutesAt 54 = .ok (.aload_n 0, 1) := by decide +kernel
theorem dX10_minutesAt_55 : decode cX10_minutesAt 55 = .ok (.getfield 39, 3) := by decide +kernel
theorem dX10_minutesAt_58 : decode cX10_minutesAt 58 = .ok (.iload 4, 2) := by decide +kernel
theorem dX10_minutesAt_60 : decode cX10_minutesAt 60 = .ok (.laload, 1) := by decide +kernel
theorem dX10_minutesAt_61 : decode cX10_minutesAt 61 = .ok (.ldc2_w 149, 3) := by decide +kernel
theorem dX10_minutesAt_64 : decode cX10_minutesAt 64 = .ok (.lload_n 2, 1) := by decide +kernel
theorem dX10_minutesAt_65 : decode cX10_minutesAt 65 = .ok (.lmul, 1) := by decide +kernel
theorem dX10_minutesAt_66 : decode cX10_minutesAt 66 = .ok (.lcmp, 1) := by decide +kernel
theorem dX10_minutesAt_67 : decode cX10_minutesAt 67 = .ok (.ifCond .gt 7, 3) := by decide +kernel
theorem dX10_minutesAt_70 : decode cX10_minutesAt 70 = .ok (.iconst 1, 1) := by decide +kernel
theorem dX10_minutesAt_71 : decode cX10_minutesAt 71 = .ok (.goto 4, 3) := by decide +kernel
theorem dX10_minutesAt_74 : decode cX10_minutesAt 74 = .ok (.iconst 0, 1) := by decide +kernel
theorem dX10_minutesAt_75 : decode cX10_minutesAt 75 = .ok (.istore 7, 2) := by decide +kernel
theorem dX10_minutesAt_77 : decode cX10_minutesAt 77 = .ok (.iload 4, 2) := by decide +kernel
theorem dX10_minutesAt_79 : decode cX10_minutesAt 79 = .ok (.ifCond .lt 59, 3) := by decide +kernel
theorem dX10_minutesAt_82 : decode cX10_minutesAt 82 = .ok (.iload 6, 2) := by decide +kernel
theorem dX10_minutesAt_84 : decode cX10_minutesAt 84 = .ok (.ifCond .eq 26, 3) := by decide +kernel
theorem dX10_minutesAt_87 : decode cX10_minutesAt 87 = .ok (.iload 7, 2) := by decide +kernel
theorem dX10_minutesAt_89 : decode cX10_minutesAt 89 = .ok (.ifCond .eq 49, 3) := by decide +kernel
theorem dX10_minutesAt_92 : decode cX10_minutesAt 92 = .ok (.aload_n 0, 1) := by decide +kernel
theorem dX10_minutesAt_93 : decode cX10_minutesAt 93 = .ok (.getfield 39, 3) := by decide +kernel
theorem dX10_minutesAt_96 : decode cX10_minutesAt 96 = .ok (.iload 5, 2) := by decide +kernel
theorem dX10_minutesAt_98 : decode cX10_minutesAt 98 = .ok (.laload, 1) := by decide +kernel
theorem dX10_minutesAt_99 : decode cX10_minutesAt 99 = .ok (.aload_n 0, 1) := by decide +kernel
theorem dX10_minutesAt_100 : decode cX10_minutesAt 100 = .ok (.getfield 39, 3) := by decide +kernel
theorem dX10_minutesAt_103 : decode cX10_minutesAt 103 = .ok (.iload 4, 2) := by decide +kernel
theorem dX10_minutesAt_105 : decode cX10_minutesAt 105 = .ok (.laload, 1) := by decide +kernel
theorem dX10_minutesAt_106 : decode cX10_minutesAt 106 = .ok (.lcmp, 1) := by decide +kernel
theorem dX10_minutesAt_107 : decode cX10_minutesAt 107 = .ok (.ifCond .gt 31, 3) := by decide +kernel
theorem dX10_minutesAt_110 : decode cX10_minutesAt 110 = .ok (.iload 6, 2) := by decide +kernel
theorem dX10_minutesAt_112 : decode cX10_minutesAt 112 = .ok (.ifCond .ne 30, 3) := by decide +kernel
theorem dX10_minutesAt_115 : decode cX10_minutesAt 115 = .ok (.iload 7, 2) := by decide +kernel
theorem dX10_minutesAt_117 : decode cX10_minutesAt 117 = .ok (.ifCond .ne 25, 3) := by decide +kernel
theorem dX10_minutesAt_120 : decode cX10_minutesAt 120 = .ok (.aload_n 0, 1) := by decide +kernel
theorem dX10_minutesAt_121 : decode cX10_minutesAt 121 = .ok (.getfield 39, 3) := by decide +kernel
theorem dX10_minutesAt_124 : decode cX10_minutesAt 124 = .ok (.iload 5, 2) := by decide +kernel
theorem dX10_minutesAt_126 : decode cX10_minutesAt 126 = .ok (.laload, 1) := by decide +kernel
theorem dX10_minutesAt_127 : decode cX10_minutesAt 127 = .ok (.aload_n 0, 1) := by decide +kernel
theorem dX10_minutesAt_128 : decode cX10_minutesAt 128 = .ok (.getfield 39, 3) := by decide +kernel
theorem dX10_minutesAt_131 : decode cX10_minutesAt 131 = .ok (.iload 4, 2) := by decide +kernel
theorem dX10_minutesAt_133 : decode cX10_minutesAt 133 = .ok (.laload, 1) := by decide +kernel
theorem dX10_minutesAt_134 : decode cX10_minutesAt 134 = .ok (.lcmp, 1) := by decide +kernel
theorem dX10_minutesAt_135 : decode cX10_minutesAt 135 = .ok (.ifCond .ge 7, 3) := by decide +kernel
theorem dX10_minutesAt_138 : decode cX10_minutesAt 138 = .ok (.iconst 1, 1) := by decide +kernel
theorem dX10_minutesAt_139 : decode cX10_minutesAt 139 = .ok (.goto 4, 3) := by decide +kernel
theorem dX10_minutesAt_142 : decode cX10_minutesAt 142 = .ok (.iconst 0, 1) := by decide +kernel
theorem dX10_minutesAt_143 : decode cX10_minutesAt 143 = .ok (.istore 8, 2) := by decide +kernel
theorem dX10_minutesAt_145 : decode cX10_minutesAt 145 = .ok (.iload 8, 2) := by decide +kernel
theorem dX10_minutesAt_147 : decode cX10_minutesAt 147 = .ok (.ifCond .eq 8, 3) := by decide +kernel
theorem dX10_minutesAt_150 : decode cX10_minutesAt 150 = .ok (.iload 5, 2) := by decide +kernel
theorem dX10_minutesAt_152 : decode cX10_minutesAt 152 = .ok (.goto 5, 3) := by decide +kernel
theorem dX10_minutesAt_155 : decode cX10_minutesAt 155 = .ok (.iload 4, 2) := by decide +kernel
theorem dX10_minutesAt_157 : decode cX10_minutesAt 157 = .ok (.istore 4, 2) := by decide +kernel
theorem dX10_minutesAt_159 : decode cX10_minutesAt 159 = .ok (.iinc 5 1, 3) := by decide +kernel
theorem dX10_minutesAt_162 : decode cX10_minutesAt 162 = .ok (.goto (-156), 3) := by decide +kernel
theorem dX10_minutesAt_165 : decode cX10_minutesAt 165 = .ok (.iload 4, 2) := by decide +kernel
theorem dX10_minutesAt_167 : decode cX10_minutesAt 167 = .ok (.ifCond .ge 7, 3) := by decide +kernel
theorem dX10_minutesAt_170 : decode cX10_minutesAt 170 = .ok (.iconst 0, 1) := by decide +kernel
theorem dX10_minutesAt_171 : decode cX10_minutesAt 171 = .ok (.goto 10, 3) := by decide +kernel
theorem dX10_minutesAt_174 : decode cX10_minutesAt 174 = .ok (.aload_n 0, 1) := by decide +kernel
theorem dX10_minutesAt_175 : decode cX10_minutesAt 175 = .ok (.getfield 42, 3) := by decide +kernel
theorem dX10_minutesAt_178 : decode cX10_minutesAt 178 = .ok (.iload 4, 2) := by decide +kernel
theorem dX10_minutesAt_180 : decode cX10_minutesAt 180 = .ok (.iaload, 1) := by decide +kernel
theorem dX10_minutesAt_181 : decode cX10_minutesAt 181 = .ok (.ireturn, 1) := by decide +kernel
theorem dX10_lateAt_0 : decode cX10_lateAt 0 = .ok (.lconst 0, 1) := by decide +kernel
theorem dX10_lateAt_1 : decode cX10_lateAt 1 = .ok (.lstore 5, 2) := by decide +kernel
theorem dX10_lateAt_3 : decode cX10_lateAt 3 = .ok (.iconst 0, 1) := by decide +kernel
theorem dX10_lateAt_4 : decode cX10_lateAt 4 = .ok (.istore 7, 2) := by decide +kernel
theorem dX10_lateAt_6 : decode cX10_lateAt 6 = .ok (.iload 7, 2) := by decide +kernel
theorem dX10_lateAt_8 : decode cX10_lateAt 8 = .ok (.aload_n 0, 1) := by decide +kernel
theorem dX10_lateAt_9 : decode cX10_lateAt 9 = .ok (.getfield 144, 3) := by decide +kernel
theorem dX10_lateAt_12 : decode cX10_lateAt 12 = .ok (.if_icmp .ge 60, 3) := by decide +kernel
theorem dX10_lateAt_15 : decode cX10_lateAt 15 = .ok (.aload_n 0, 1) := by decide +kernel
theorem dX10_lateAt_16 : decode cX10_lateAt 16 = .ok (.getfield 45, 3) := by decide +kernel
theorem dX10_lateAt_19 : decode cX10_lateAt 19 = .ok (.iload 7, 2) := by decide +kernel
theorem dX10_lateAt_21 : decode cX10_lateAt 21 = .ok (.iaload, 1) := by decide +kernel
theorem dX10_lateAt_22 : decode cX10_lateAt 22 = .ok (.iload_n 1, 1) := by decide +kernel
theorem dX10_lateAt_23 : decode cX10_lateAt 23 = .ok (.if_icmp .ne 39, 3) := by decide +kernel
theorem dX10_lateAt_26 : decode cX10_lateAt 26 = .ok (.aload_n 0, 1) := by decide +kernel
theorem dX10_lateAt_27 : decode cX10_lateAt 27 = .ok (.getfield 54, 3) := by decide +kernel
