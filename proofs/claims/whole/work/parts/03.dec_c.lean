theorem dX5_reading_25 : decode cX5_reading 25 = .ok (.iaload, 1) := by decide +kernel
theorem dX5_reading_26 : decode cX5_reading 26 = .ok (.istore_n 3, 1) := by decide +kernel
theorem dX5_reading_27 : decode cX5_reading 27 = .ok (.iload_n 2, 1) := by decide +kernel
theorem dX5_reading_28 : decode cX5_reading 28 = .ok (.ifCond .lt 14, 3) := by decide +kernel
theorem dX5_reading_31 : decode cX5_reading 31 = .ok (.iload_n 2, 1) := by decide +kernel
theorem dX5_reading_32 : decode cX5_reading 32 = .ok (.iload_n 3, 1) := by decide +kernel
theorem dX5_reading_33 : decode cX5_reading 33 = .ok (.if_icmp .ge 9, 3) := by decide +kernel
theorem dX5_reading_36 : decode cX5_reading 36 = .ok (.iload_n 2, 1) := by decide +kernel
theorem dX5_reading_37 : decode cX5_reading 37 = .ok (.bipush 16, 2) := by decide +kernel
theorem dX5_reading_39 : decode cX5_reading 39 = .ok (.if_icmp .lt 10, 3) := by decide +kernel
theorem dX5_reading_42 : decode cX5_reading 42 = .ok (.aload_n 0, 1) := by decide +kernel
theorem dX5_reading_43 : decode cX5_reading 43 = .ok (.iconst 2, 1) := by decide +kernel
theorem dX5_reading_44 : decode cX5_reading 44 = .ok (.invokevirtual 161, 3) := by decide +kernel
theorem dX5_reading_47 : decode cX5_reading 47 = .ok (.i2l, 1) := by decide +kernel
theorem dX5_reading_48 : decode cX5_reading 48 = .ok (.lreturn, 1) := by decide +kernel
theorem dX5_reading_49 : decode cX5_reading 49 = .ok (.aload_n 0, 1) := by decide +kernel
theorem dX5_reading_50 : decode cX5_reading 50 = .ok (.getfield 35, 3) := by decide +kernel
theorem dX5_reading_53 : decode cX5_reading 53 = .ok (.bipush 16, 2) := by decide +kernel
theorem dX5_reading_55 : decode cX5_reading 55 = .ok (.iload_n 1, 1) := by decide +kernel
theorem dX5_reading_56 : decode cX5_reading 56 = .ok (.imul, 1) := by decide +kernel
theorem dX5_reading_57 : decode cX5_reading 57 = .ok (.iload_n 3, 1) := by decide +kernel
theorem dX5_reading_58 : decode cX5_reading 58 = .ok (.iconst 1, 1) := by decide +kernel
theorem dX5_reading_59 : decode cX5_reading 59 = .ok (.isub, 1) := by decide +kernel
theorem dX5_reading_60 : decode cX5_reading 60 = .ok (.iload_n 2, 1) := by decide +kernel
theorem dX5_reading_61 : decode cX5_reading 61 = .ok (.isub, 1) := by decide +kernel
theorem dX5_reading_62 : decode cX5_reading 62 = .ok (.bipush 16, 2) := by decide +kernel
theorem dX5_reading_64 : decode cX5_reading 64 = .ok (.irem, 1) := by decide +kernel
theorem dX5_reading_65 : decode cX5_reading 65 = .ok (.iadd, 1) := by decide +kernel
theorem dX5_reading_66 : decode cX5_reading 66 = .ok (.laload, 1) := by decide +kernel
theorem dX5_reading_67 : decode cX5_reading 67 = .ok (.lreturn, 1) := by decide +kernel
theorem dX5_tell_0 : decode cX5_tell 0 = .ok (.aload_n 0, 1) := by decide +kernel
theorem dX5_tell_1 : decode cX5_tell 1 = .ok (.iconst 0, 1) := by decide +kernel
theorem dX5_tell_2 : decode cX5_tell 2 = .ok (.putfield 53, 3) := by decide +kernel
theorem dX5_tell_5 : decode cX5_tell 5 = .ok (.aload_n 0, 1) := by decide +kernel
theorem dX5_tell_6 : decode cX5_tell 6 = .ok (.iload_n 1, 1) := by decide +kernel
theorem dX5_tell_7 : decode cX5_tell 7 = .ok (.invokevirtual 170, 3) := by decide +kernel
theorem dX5_tell_10 : decode cX5_tell 10 = .ok (.ifCond .ne 10, 3) := by decide +kernel
theorem dX5_tell_13 : decode cX5_tell 13 = .ok (.aload_n 0, 1) := by decide +kernel
theorem dX5_tell_14 : decode cX5_tell 14 = .ok (.iconst 1, 1) := by decide +kernel
theorem dX5_tell_15 : decode cX5_tell 15 = .ok (.invokevirtual 161, 3) := by decide +kernel
theorem dX5_tell_18 : decode cX5_tell 18 = .ok (.i2l, 1) := by decide +kernel
theorem dX5_tell_19 : decode cX5_tell 19 = .ok (.lreturn, 1) := by decide +kernel
theorem dX5_tell_20 : decode cX5_tell 20 = .ok (.iload_n 2, 1) := by decide +kernel
theorem dX5_tell_21 : decode cX5_tell 21 = .ok (.ifCond .lt 8, 3) := by decide +kernel
theorem dX5_tell_24 : decode cX5_tell 24 = .ok (.iload_n 2, 1) := by decide +kernel
theorem dX5_tell_25 : decode cX5_tell 25 = .ok (.iconst 3, 1) := by decide +kernel
theorem dX5_tell_26 : decode cX5_tell 26 = .ok (.if_icmp .le 10, 3) := by decide +kernel
theorem dX5_tell_29 : decode cX5_tell 29 = .ok (.aload_n 0, 1) := by decide +kernel
theorem dX5_tell_30 : decode cX5_tell 30 = .ok (.iconst 2, 1) := by decide +kernel
theorem dX5_tell_31 : decode cX5_tell 31 = .ok (.invokevirtual 161, 3) := by decide +kernel
theorem dX5_tell_34 : decode cX5_tell 34 = .ok (.i2l, 1) := by decide +kernel
theorem dX5_tell_35 : decode cX5_tell 35 = .ok (.lreturn, 1) := by decide +kernel
theorem dX5_tell_36 : decode cX5_tell 36 = .ok (.aload_n 0, 1) := by decide +kernel
theorem dX5_tell_37 : decode cX5_tell 37 = .ok (.getfield 32, 3) := by decide +kernel
theorem dX5_tell_40 : decode cX5_tell 40 = .ok (.iload_n 1, 1) := by decide +kernel
theorem dX5_tell_41 : decode cX5_tell 41 = .ok (.iaload, 1) := by decide +kernel
theorem dX5_tell_42 : decode cX5_tell 42 = .ok (.ifCond .ne 10, 3) := by decide +kernel
theorem dX5_tell_45 : decode cX5_tell 45 = .ok (.aload_n 0, 1) := by decide +kernel
theorem dX5_tell_46 : decode cX5_tell 46 = .ok (.iconst 3, 1) := by decide +kernel
theorem dX5_tell_47 : decode cX5_tell 47 = .ok (.invokevirtual 161, 3) := by decide +kernel
theorem dX5_tell_50 : decode cX5_tell 50 = .ok (.i2l, 1) := by decide +kernel
theorem dX5_tell_51 : decode cX5_tell 51 = .ok (.lreturn, 1) := by decide +kernel
theorem dX5_tell_52 : decode cX5_tell 52 = .ok (.iload_n 2, 1) := by decide +kernel
theorem dX5_tell_53 : decode cX5_tell 53 = .ok (.ifCond .ne 12, 3) := by decide +kernel
theorem dX5_tell_56 : decode cX5_tell 56 = .ok (.aload_n 0, 1) := by decide +kernel
theorem dX5_tell_57 : decode cX5_tell 57 = .ok (.getfield 38, 3) := by decide +kernel
theorem dX5_tell_60 : decode cX5_tell 60 = .ok (.iload_n 1, 1) := by decide +kernel
theorem dX5_tell_61 : decode cX5_tell 61 = .ok (.laload, 1) := by decide +kernel
theorem dX5_tell_62 : decode cX5_tell 62 = .ok (.goto 37, 3) := by decide +kernel
theorem dX5_tell_65 : decode cX5_tell 65 = .ok (.iload_n 2, 1) := by decide +kernel
theorem dX5_tell_66 : decode cX5_tell 66 = .ok (.iconst 1, 1) := by decide +kernel
theorem dX5_tell_67 : decode cX5_tell 67 = .ok (.if_icmp .ne 12, 3) := by decide +kernel
theorem dX5_tell_70 : decode cX5_tell 70 = .ok (.aload_n 0, 1) := by decide +kernel
theorem dX5_tell_71 : decode cX5_tell 71 = .ok (.getfield 41, 3) := by decide +kernel
theorem dX5_tell_74 : decode cX5_tell 74 = .ok (.iload_n 1, 1) := by decide +kernel
theorem dX5_tell_75 : decode cX5_tell 75 = .ok (.laload, 1) := by decide +kernel
theorem dX5_tell_76 : decode cX5_tell 76 = .ok (.goto 23, 3) := by decide +kernel
theorem dX5_tell_79 : decode cX5_tell 79 = .ok (.iload_n 2, 1) := by decide +kernel
theorem dX5_tell_80 : decode cX5_tell 80 = .ok (.iconst 2, 1) := by decide +kernel
theorem dX5_tell_81 : decode cX5_tell 81 = .ok (.if_icmp .ne 12, 3) := by decide +kernel
theorem dX5_tell_84 : decode cX5_tell 84 = .ok (.aload_n 0, 1) := by decide +kernel
theorem dX5_tell_85 : decode cX5_tell 85 = .ok (.getfield 44, 3) := by decide +kernel
theorem dX5_tell_88 : decode cX5_tell 88 = .ok (.iload_n 1, 1) := by decide +kernel
theorem dX5_tell_89 : decode cX5_tell 89 = .ok (.laload, 1) := by decide +kernel
theorem dX5_tell_90 : decode cX5_tell 90 = .ok (.goto 9, 3) := by decide +kernel
theorem dX5_tell_93 : decode cX5_tell 93 = .ok (.aload_n 0, 1) := by decide +kernel
theorem dX5_tell_94 : decode cX5_tell 94 = .ok (.getfield 47, 3) := by decide +kernel
theorem dX5_tell_97 : decode cX5_tell 97 = .ok (.iload_n 1, 1) := by decide +kernel
theorem dX5_tell_98 : decode cX5_tell 98 = .ok (.laload, 1) := by decide +kernel
theorem dX5_tell_99 : decode cX5_tell 99 = .ok (.lreturn, 1) := by decide +kernel
theorem dX5_whole_0 : decode cX5_whole 0 = .ok (.aload_n 0, 1) := by decide +kernel
theorem dX5_whole_1 : decode cX5_whole 1 = .ok (.iconst 0, 1) := by decide +kernel
theorem dX5_whole_2 : decode cX5_whole 2 = .ok (.putfield 53, 3) := by decide +kernel
theorem dX5_whole_5 : decode cX5_whole 5 = .ok (.aload_n 0, 1) := by decide +kernel
theorem dX5_whole_6 : decode cX5_whole 6 = .ok (.iload_n 1, 1) := by decide +kernel
theorem dX5_whole_7 : decode cX5_whole 7 = .ok (.invokevirtual 170, 3) := by decide +kernel
theorem dX5_whole_10 : decode cX5_whole 10 = .ok (.ifCond .ne 9, 3) := by decide +kernel
theorem dX5_whole_13 : decode cX5_whole 13 = .ok (.aload_n 0, 1) := by decide +kernel
theorem dX5_whole_14 : decode cX5_whole 14 = .ok (.iconst 1, 1) := by decide +kernel
theorem dX5_whole_15 : decode cX5_whole 15 = .ok (.invokevirtual 161, 3) := by decide +kernel
theorem dX5_whole_18 : decode cX5_whole 18 = .ok (.ireturn, 1) := by decide +kernel
theorem dX5_whole_19 : decode cX5_whole 19 = .ok (.aload_n 0, 1) := by decide +kernel
theorem dX5_whole_20 : decode cX5_whole 20 = .ok (.getfield 32, 3) := by decide +kernel
theorem dX5_whole_23 : decode cX5_whole 23 = .ok (.iload_n 1, 1) := by decide +kernel
theorem dX5_whole_24 : decode cX5_whole 24 = .ok (.iaload, 1) := by decide +kernel
theorem dX5_whole_25 : decode cX5_whole 25 = .ok (.ifCond .ne 9, 3) := by decide +kernel
theorem dX5_whole_28 : decode cX5_whole 28 = .ok (.aload_n 0, 1) := by decide +kernel
theorem dX5_whole_29 : decode cX5_whole 29 = .ok (.iconst 2, 1) := by decide +kernel
theorem dX5_whole_30 : decode cX5_whole 30 = .ok (.invokevirtual 161, 3) := by decide +kernel
theorem dX5_whole_33 : decode cX5_whole 33 = .ok (.ireturn, 1) := by decide +kernel
theorem dX5_whole_34 : decode cX5_whole 34 = .ok (.aload_n 0, 1) := by decide +kernel
theorem dX5_whole_35 : decode cX5_whole 35 = .ok (.iload_n 1, 1) := by decide +kernel
theorem dX5_whole_36 : decode cX5_whole 36 = .ok (.invokevirtual 191, 3) := by decide +kernel
theorem dX5_whole_39 : decode cX5_whole 39 = .ok (.lstore_n 2, 1) := by decide +kernel
theorem dX5_whole_40 : decode cX5_whole 40 = .ok (.aload_n 0, 1) := by decide +kernel
theorem dX5_whole_41 : decode cX5_whole 41 = .ok (.getfield 7, 3) := by decide +kernel
theorem dX5_whole_44 : decode cX5_whole 44 = .ok (.iload_n 1, 1) := by decide +kernel
theorem dX5_whole_45 : decode cX5_whole 45 = .ok (.iaload, 1) := by decide +kernel
theorem dX5_whole_46 : decode cX5_whole 46 = .ok (.iconst 2, 1) := by decide +kernel
theorem dX5_whole_47 : decode cX5_whole 47 = .ok (.if_icmp .ne 9, 3) := by decide +kernel
theorem dX5_whole_50 : decode cX5_whole 50 = .ok (.lload_n 2, 1) := by decide +kernel
theorem dX5_whole_51 : decode cX5_whole 51 = .ok (.invokestatic 146, 3) := by decide +kernel
theorem dX5_whole_54 : decode cX5_whole 54 = .ok (.f2i, 1) := by decide +kernel
theorem dX5_whole_55 : decode cX5_whole 55 = .ok (.ireturn, 1) := by decide +kernel
theorem dX5_whole_56 : decode cX5_whole 56 = .ok (.aload_n 0, 1) := by decide +kernel
theorem dX5_whole_57 : decode cX5_whole 57 = .ok (.getfield 7, 3) := by decide +kernel
theorem dX5_whole_60 : decode cX5_whole 60 = .ok (.iload_n 1, 1) := by decide +kernel
theorem dX5_whole_61 : decode cX5_whole 61 = .ok (.iaload, 1) := by decide +kernel
theorem dX5_whole_62 : decode cX5_whole 62 = .ok (.iconst 3, 1) := by decide +kernel
theorem dX5_whole_63 : decode cX5_whole 63 = .ok (.if_icmp .ne 9, 3) := by decide +kernel
theorem dX5_whole_66 : decode cX5_whole 66 = .ok (.lload_n 2, 1) := by decide +kernel
theorem dX5_whole_67 : decode cX5_whole 67 = .ok (.invokestatic 154, 3) := by decide +kernel
theorem dX5_whole_70 : decode cX5_whole 70 = .ok (.d2i, 1) := by decide +kernel
theorem dX5_whole_71 : decode cX5_whole 71 = .ok (.ireturn, 1) := by decide +kernel
theorem dX5_whole_72 : decode cX5_whole 72 = .ok (.lload_n 2, 1) := by decide +kernel
theorem dX5_whole_73 : decode cX5_whole 73 = .ok (.ldc2_w 164, 3) := by decide +kernel
theorem dX5_whole_76 : decode cX5_whole 76 = .ok (.lcmp, 1) := by decide +kernel
theorem dX5_whole_77 : decode cX5_whole 77 = .ok (.ifCond .ge 9, 3) := by decide +kernel
theorem dX5_whole_80 : decode cX5_whole 80 = .ok (.ldc2_w 164, 3) := by decide +kernel
theorem dX5_whole_83 : decode cX5_whole 83 = .ok (.goto 18, 3) := by decide +kernel
theorem dX5_whole_86 : decode cX5_whole 86 = .ok (.lload_n 2, 1) := by decide +kernel
theorem dX5_whole_87 : decode cX5_whole 87 = .ok (.ldc2_w 166, 3) := by decide +kernel
theorem dX5_whole_90 : decode cX5_whole 90 = .ok (.lcmp, 1) := by decide +kernel
theorem dX5_whole_91 : decode cX5_whole 91 = .ok (.ifCond .le 9, 3) := by decide +kernel
theorem dX5_whole_94 : decode cX5_whole 94 = .ok (.ldc2_w 166, 3) := by decide +kernel
theorem dX5_whole_97 : decode cX5_whole 97 = .ok (.goto 4, 3) := by decide +kernel
theorem dX5_whole_100 : decode cX5_whole 100 = .ok (.lload_n 2, 1) := by decide +kernel
theorem dX5_whole_101 : decode cX5_whole 101 = .ok (.l2i, 1) := by decide +kernel
theorem dX5_whole_102 : decode cX5_whole 102 = .ok (.ireturn, 1) := by decide +kernel
theorem dX5_widest_0 : decode cX5_widest 0 = .ok (.aload_n 0, 1) := by decide +kernel
theorem dX5_widest_1 : decode cX5_widest 1 = .ok (.iconst 0, 1) := by decide +kernel
theorem dX5_widest_2 : decode cX5_widest 2 = .ok (.putfield 53, 3) := by decide +kernel
theorem dX5_widest_5 : decode cX5_widest 5 = .ok (.iload_n 1, 1) := by decide +kernel
theorem dX5_widest_6 : decode cX5_widest 6 = .ok (.ifCond .lt 8, 3) := by decide +kernel
theorem dX5_widest_9 : decode cX5_widest 9 = .ok (.iload_n 1, 1) := by decide +kernel
theorem dX5_widest_10 : decode cX5_widest 10 = .ok (.iconst 3, 1) := by decide +kernel
theorem dX5_widest_11 : decode cX5_widest 11 = .ok (.if_icmp .le 10, 3) := by decide +kernel
theorem dX5_widest_14 : decode cX5_widest 14 = .ok (.aload_n 0, 1) := by decide +kernel
theorem dX5_widest_15 : decode cX5_widest 15 = .ok (.iconst 1, 1) := by decide +kernel
theorem dX5_widest_16 : decode cX5_widest 16 = .ok (.invokevirtual 161, 3) := by decide +kernel
theorem dX5_widest_19 : decode cX5_widest 19 = .ok (.i2l, 1) := by decide +kernel
theorem dX5_widest_20 : decode cX5_widest 20 = .ok (.lreturn, 1) := by decide +kernel
theorem dX5_widest_21 : decode cX5_widest 21 = .ok (.iconst 0, 1) := by decide +kernel
theorem dX5_widest_22 : decode cX5_widest 22 = .ok (.istore_n 2, 1) := by decide +kernel
theorem dX5_widest_23 : decode cX5_widest 23 = .ok (.lconst 0, 1) := by decide +kernel
theorem dX5_widest_24 : decode cX5_widest 24 = .ok (.lstore_n 3, 1) := by decide +kernel
theorem dX5_widest_25 : decode cX5_widest 25 = .ok (.iconst 0, 1) := by decide +kernel
theorem dX5_widest_26 : decode cX5_widest 26 = .ok (.istore 5, 2) := by decide +kernel
theorem dX5_widest_28 : decode cX5_widest 28 = .ok (.iload 5, 2) := by decide +kernel
theorem dX5_widest_30 : decode cX5_widest 30 = .ok (.aload_n 0, 1) := by decide +kernel
theorem dX5_widest_31 : decode cX5_widest 31 = .ok (.getfield 57, 3) := by decide +kernel
theorem dX5_widest_34 : decode cX5_widest 34 = .ok (.if_icmp .ge 59, 3) := by decide +kernel
theorem dX5_widest_37 : decode cX5_widest 37 = .ok (.aload_n 0, 1) := by decide +kernel
theorem dX5_widest_38 : decode cX5_widest 38 = .ok (.getfield 7, 3) := by decide +kernel
theorem dX5_widest_41 : decode cX5_widest 41 = .ok (.iload 5, 2) := by decide +kernel
theorem dX5_widest_43 : decode cX5_widest 43 = .ok (.iaload, 1) := by decide +kernel
theorem dX5_widest_44 : decode cX5_widest 44 = .ok (.iload_n 1, 1) := by decide +kernel
theorem dX5_widest_45 : decode cX5_widest 45 = .ok (.if_icmp .ne 42, 3) := by decide +kernel
theorem dX5_widest_48 : decode cX5_widest 48 = .ok (.aload_n 0, 1) := by decide +kernel
theorem dX5_widest_49 : decode cX5_widest 49 = .ok (.getfield 32, 3) := by decide +kernel
theorem dX5_widest_52 : decode cX5_widest 52 = .ok (.iload 5, 2) := by decide +kernel
theorem dX5_widest_54 : decode cX5_widest 54 = .ok (.iaload, 1) := by decide +kernel
theorem dX5_widest_55 : decode cX5_widest 55 = .ok (.ifCond .le 32, 3) := by decide +kernel
theorem dX5_widest_58 : decode cX5_widest 58 = .ok (.iload_n 2, 1) := by decide +kernel
theorem dX5_widest_59 : decode cX5_widest 59 = .ok (.ifCond .eq 18, 3) := by decide +kernel
theorem dX5_widest_62 : decode cX5_widest 62 = .ok (.iload_n 1, 1) := by decide +kernel
theorem dX5_widest_63 : decode cX5_widest 63 = .ok (.lload_n 3, 1) := by decide +kernel
theorem dX5_widest_64 : decode cX5_widest 64 = .ok (.aload_n 0, 1) := by decide +kernel
theorem dX5_widest_65 : decode cX5_widest 65 = .ok (.getfield 44, 3) := by decide +kernel
theorem dX5_widest_68 : decode cX5_widest 68 = .ok (.iload 5, 2) := by decide +kernel
theorem dX5_widest_70 : decode cX5_widest 70 = .ok (.laload, 1) := by decide +kernel
theorem dX5_widest_71 : decode cX5_widest 71 = .ok (.invokestatic 123, 3) := by decide +kernel
theorem dX5_widest_74 : decode cX5_widest 74 = .ok (.goto 10, 3) := by decide +kernel
theorem dX5_widest_77 : decode cX5_widest 77 = .ok (.aload_n 0, 1) := by decide +kernel
theorem dX5_widest_78 : decode cX5_widest 78 = .ok (.getfield 44, 3) := by decide +kernel
theorem dX5_widest_81 : decode cX5_widest 81 = .ok (.iload 5, 2) := by decide +kernel
theorem dX5_widest_83 : decode cX5_widest 83 = .ok (.laload, 1) := by decide +kernel
theorem dX5_widest_84 : decode cX5_widest 84 = .ok (.lstore_n 3, 1) := by decide +kernel
theorem dX5_widest_85 : decode cX5_widest 85 = .ok (.iconst 1, 1) := by decide +kernel
theorem dX5_widest_86 : decode cX5_widest 86 = .ok (.istore_n 2, 1) := by decide +kernel
theorem dX5_widest_87 : decode cX5_widest 87 = .ok (.iinc 5 1, 3) := by decide +kernel
theorem dX5_widest_90 : decode cX5_widest 90 = .ok (.goto (-62), 3) := by decide +kernel
theorem dX5_widest_93 : decode cX5_widest 93 = .ok (.iload_n 2, 1) := by decide +kernel
theorem dX5_widest_94 : decode cX5_widest 94 = .ok (.ifCond .eq 7, 3) := by decide +kernel
theorem dX5_widest_97 : decode cX5_widest 97 = .ok (.lload_n 3, 1) := by decide +kernel
theorem dX5_widest_98 : decode cX5_widest 98 = .ok (.goto 9, 3) := by decide +kernel
theorem dX5_widest_101 : decode cX5_widest 101 = .ok (.aload_n 0, 1) := by decide +kernel
theorem dX5_widest_102 : decode cX5_widest 102 = .ok (.iconst 2, 1) := by decide +kernel
theorem dX5_widest_103 : decode cX5_widest 103 = .ok (.invokevirtual 161, 3) := by decide +kernel
theorem dX5_widest_106 : decode cX5_widest 106 = .ok (.i2l, 1) := by decide +kernel
theorem dX5_widest_107 : decode cX5_widest 107 = .ok (.lreturn, 1) := by decide +kernel
theorem dX5_alarms_0 : decode cX5_alarms 0 = .ok (.aload_n 0, 1) := by decide +kernel
theorem dX5_alarms_1 : decode cX5_alarms 1 = .ok (.iconst 0, 1) := by decide +kernel
theorem dX5_alarms_2 : decode cX5_alarms 2 = .ok (.putfield 53, 3) := by decide +kernel
theorem dX5_alarms_5 : decode cX5_alarms 5 = .ok (.aload_n 0, 1) := by decide +kernel
theorem dX5_alarms_6 : decode cX5_alarms 6 = .ok (.iload_n 1, 1) := by decide +kernel
theorem dX5_alarms_7 : decode cX5_alarms 7 = .ok (.invokevirtual 170, 3) := by decide +kernel
theorem dX5_alarms_10 : decode cX5_alarms 10 = .ok (.ifCond .eq 12, 3) := by decide +kernel
theorem dX5_alarms_13 : decode cX5_alarms 13 = .ok (.aload_n 0, 1) := by decide +kernel
theorem dX5_alarms_14 : decode cX5_alarms 14 = .ok (.getfield 50, 3) := by decide +kernel
theorem dX5_alarms_17 : decode cX5_alarms 17 = .ok (.iload_n 1, 1) := by decide +kernel
theorem dX5_alarms_18 : decode cX5_alarms 18 = .ok (.iaload, 1) := by decide +kernel
theorem dX5_alarms_19 : decode cX5_alarms 19 = .ok (.goto 8, 3) := by decide +kernel
theorem dX5_alarms_22 : decode cX5_alarms 22 = .ok (.aload_n 0, 1) := by decide +kernel
theorem dX5_alarms_23 : decode cX5_alarms 23 = .ok (.iconst 1, 1) := by decide +kernel
theorem dX5_alarms_24 : decode cX5_alarms 24 = .ok (.invokevirtual 161, 3) := by decide +kernel
theorem dX5_alarms_27 : decode cX5_alarms 27 = .ok (.ireturn, 1) := by decide +kernel
theorem dX5_count_0 : decode cX5_count 0 = .ok (.aload_n 0, 1) := by decide +kernel
theorem dX5_count_1 : decode cX5_count 1 = .ok (.iconst 0, 1) := by decide +kernel
theorem dX5_count_2 : decode cX5_count 2 = .ok (.putfield 53, 3) := by decide +kernel
theorem dX5_count_5 : decode cX5_count 5 = .ok (.iload_n 1, 1) := by decide +kernel
theorem dX5_count_6 : decode cX5_count 6 = .ok (.tableswitch 50 0 3 #[30, 35, 40, 45], 30) := by decide +kernel
theorem dX5_count_36 : decode cX5_count 36 = .ok (.aload_n 0, 1) := by decide +kernel
theorem dX5_count_37 : decode cX5_count 37 = .ok (.getfield 57, 3) := by decide +kernel
theorem dX5_count_40 : decode cX5_count 40 = .ok (.ireturn, 1) := by decide +kernel
theorem dX5_count_41 : decode cX5_count 41 = .ok (.aload_n 0, 1) := by decide +kernel
theorem dX5_count_42 : decode cX5_count 42 = .ok (.getfield 210, 3) := by decide +kernel
theorem dX5_count_45 : decode cX5_count 45 = .ok (.ireturn, 1) := by decide +kernel
theorem dX5_count_46 : decode cX5_count 46 = .ok (.aload_n 0, 1) := by decide +kernel
theorem dX5_count_47 : decode cX5_count 47 = .ok (.getfield 213, 3) := by decide +kernel
theorem dX5_count_50 : decode cX5_count 50 = .ok (.ireturn, 1) := by decide +kernel
theorem dX5_count_51 : decode cX5_count 51 = .ok (.aload_n 0, 1) := by decide +kernel
theorem dX5_count_52 : decode cX5_count 52 = .ok (.getfield 198, 3) := by decide +kernel
theorem dX5_count_55 : decode cX5_count 55 = .ok (.ireturn, 1) := by decide +kernel
theorem dX5_count_56 : decode cX5_count 56 = .ok (.iconst (-1), 1) := by decide +kernel
theorem dX5_count_57 : decode cX5_count 57 = .ok (.ireturn, 1) := by decide +kernel
theorem dJxe99ae_isNaN_b9ae7_0 : decode cJxe99ae_isNaN_b9ae7 0 = .ok (.dload_n 0, 1) := by decide +kernel
theorem dJxe99ae_isNaN_b9ae7_1 : decode cJxe99ae_isNaN_b9ae7 1 = .ok (.dload_n 0, 1) := by decide +kernel
theorem dJxe99ae_isNaN_b9ae7_2 : decode cJxe99ae_isNaN_b9ae7 2 = .ok (.dcmp .l, 1) := by decide +kernel
theorem dJxe99ae_isNaN_b9ae7_3 : decode cJxe99ae_isNaN_b9ae7 3 = .ok (.ifCond .eq 7, 3) := by decide +kernel
theorem dJxe99ae_isNaN_b9ae7_6 : decode cJxe99ae_isNaN_b9ae7 6 = .ok (.iconst 1, 1) := by decide +kernel
theorem dJxe99ae_isNaN_b9ae7_7 : decode cJxe99ae_isNaN_b9ae7 7 = .ok (.goto 4, 3) := by decide +kernel
theorem dJxe99ae_isNaN_b9ae7_10 : decode cJxe99ae_isNaN_b9ae7 10 = .ok (.iconst 0, 1) := by decide +kernel
theorem dJxe99ae_isNaN_b9ae7_11 : decode cJxe99ae_isNaN_b9ae7 11 = .ok (.ireturn, 1) := by decide +kernel
theorem dJxe99ae_doubleToLongBits_ccdee_0 : decode cJxe99ae_doubleToLongBits_ccdee 0 = .ok (.dload_n 0, 1) := by decide +kernel
theorem dJxe99ae_doubleToLongBits_ccdee_1 : decode cJxe99ae_doubleToLongBits_ccdee 1 = .ok (.invokestatic 122, 3) := by decide +kernel
theorem dJxe99ae_doubleToLongBits_ccdee_4 : decode cJxe99ae_doubleToLongBits_ccdee 4 = .ok (.ifCond .ne 8, 3) := by decide +kernel
theorem dJxe99ae_doubleToLongBits_ccdee_7 : decode cJxe99ae_doubleToLongBits_ccdee 7 = .ok (.dload_n 0, 1) := by decide +kernel
theorem dJxe99ae_doubleToLongBits_ccdee_8 : decode cJxe99ae_doubleToLongBits_ccdee 8 = .ok (.invokestatic 134, 3) := by decide +kernel
theorem dJxe99ae_doubleToLongBits_ccdee_11 : decode cJxe99ae_doubleToLongBits_ccdee 11 = .ok (.lreturn, 1) := by decide +kernel
theorem dJxe99ae_doubleToLongBits_ccdee_12 : decode cJxe99ae_doubleToLongBits_ccdee 12 = .ok (.ldc2_w 137, 3) := by decide +kernel
theorem dJxe99ae_doubleToLongBits_ccdee_15 : decode cJxe99ae_doubleToLongBits_ccdee 15 = .ok (.lreturn, 1) := by decide +kernel
theorem dJxf58ca_isNaN_12338_0 : decode cJxf58ca_isNaN_12338 0 = .ok (.fload_n 0, 1) := by decide +kernel
theorem dJxf58ca_isNaN_12338_1 : decode cJxf58ca_isNaN_12338 1 = .ok (.fload_n 0, 1) := by decide +kernel
theorem dJxf58ca_isNaN_12338_2 : decode cJxf58ca_isNaN_12338 2 = .ok (.fcmp .l, 1) := by decide +kernel
theorem dJxf58ca_isNaN_12338_3 : decode cJxf58ca_isNaN_12338 3 = .ok (.ifCond .eq 7, 3) := by decide +kernel
theorem dJxf58ca_isNaN_12338_6 : decode cJxf58ca_isNaN_12338 6 = .ok (.iconst 1, 1) := by decide +kernel
theorem dJxf58ca_isNaN_12338_7 : decode cJxf58ca_isNaN_12338 7 = .ok (.goto 4, 3) := by decide +kernel
theorem dJxf58ca_isNaN_12338_10 : decode cJxf58ca_isNaN_12338 10 = .ok (.iconst 0, 1) := by decide +kernel
theorem dJxf58ca_isNaN_12338_11 : decode cJxf58ca_isNaN_12338 11 = .ok (.ireturn, 1) := by decide +kernel
theorem dJxf58ca_floatToIntBits_5c35a_0 : decode cJxf58ca_floatToIntBits_5c35a 0 = .ok (.fload_n 0, 1) := by decide +kernel
theorem dJxf58ca_floatToIntBits_5c35a_1 : decode cJxf58ca_floatToIntBits_5c35a 1 = .ok (.invokestatic 59, 3) := by decide +kernel
theorem dJxf58ca_floatToIntBits_5c35a_4 : decode cJxf58ca_floatToIntBits_5c35a 4 = .ok (.ifCond .ne 8, 3) := by decide +kernel
theorem dJxf58ca_floatToIntBits_5c35a_7 : decode cJxf58ca_floatToIntBits_5c35a 7 = .ok (.fload_n 0, 1) := by decide +kernel
theorem dJxf58ca_floatToIntBits_5c35a_8 : decode cJxf58ca_floatToIntBits_5c35a 8 = .ok (.invokestatic 74, 3) := by decide +kernel
theorem dJxf58ca_floatToIntBits_5c35a_11 : decode cJxf58ca_floatToIntBits_5c35a 11 = .ok (.ireturn, 1) := by decide +kernel
theorem dJxf58ca_floatToIntBits_5c35a_12 : decode cJxf58ca_floatToIntBits_5c35a 12 = .ok (.ldc 77, 2) := by decide +kernel
theorem dJxf58ca_floatToIntBits_5c35a_14 : decode cJxf58ca_floatToIntBits_5c35a 14 = .ok (.ireturn, 1) := by decide +kernel
theorem dJ9_max_f86c9_0 : decode cJ9_max_f86c9 0 = .ok (.lload_n 0, 1) := by decide +kernel
theorem dJ9_max_f86c9_1 : decode cJ9_max_f86c9 1 = .ok (.lload_n 2, 1) := by decide +kernel
theorem dJ9_max_f86c9_2 : decode cJ9_max_f86c9 2 = .ok (.lcmp, 1) := by decide +kernel
theorem dJ9_max_f86c9_3 : decode cJ9_max_f86c9 3 = .ok (.ifCond .lt 7, 3) := by decide +kernel
theorem dJ9_max_f86c9_6 : decode cJ9_max_f86c9 6 = .ok (.lload_n 0, 1) := by decide +kernel
theorem dJ9_max_f86c9_7 : decode cJ9_max_f86c9 7 = .ok (.goto 4, 3) := by decide +kernel
theorem dJ9_max_f86c9_10 : decode cJ9_max_f86c9 10 = .ok (.lload_n 2, 1) := by decide +kernel
theorem dJ9_max_f86c9_11 : decode cJ9_max_f86c9 11 = .ok (.lreturn, 1) := by decide +kernel
theorem dJ9_min_7cf53_0 : decode cJ9_min_7cf53 0 = .ok (.iload_n 0, 1) := by decide +kernel
theorem dJ9_min_7cf53_1 : decode cJ9_min_7cf53 1 = .ok (.iload_n 1, 1) := by decide +kernel
theorem dJ9_min_7cf53_2 : decode cJ9_min_7cf53 2 = .ok (.if_icmp .gt 7, 3) := by decide +kernel
theorem dJ9_min_7cf53_5 : decode cJ9_min_7cf53 5 = .ok (.iload_n 0, 1) := by decide +kernel
theorem dJ9_min_7cf53_6 : decode cJ9_min_7cf53 6 = .ok (.goto 4, 3) := by decide +kernel
theorem dJ9_min_7cf53_9 : decode cJ9_min_7cf53 9 = .ok (.iload_n 1, 1) := by decide +kernel
theorem dJ9_min_7cf53_10 : decode cJ9_min_7cf53 10 = .ok (.ireturn, 1) := by decide +kernel
theorem dJ9_min_f86c9_0 : decode cJ9_min_f86c9 0 = .ok (.lload_n 0, 1) := by decide +kernel
theorem dJ9_min_f86c9_1 : decode cJ9_min_f86c9 1 = .ok (.lload_n 2, 1) := by decide +kernel
theorem dJ9_min_f86c9_2 : decode cJ9_min_f86c9 2 = .ok (.lcmp, 1) := by decide +kernel
theorem dJ9_min_f86c9_3 : decode cJ9_min_f86c9 3 = .ok (.ifCond .gt 7, 3) := by decide +kernel
theorem dJ9_min_f86c9_6 : decode cJ9_min_f86c9 6 = .ok (.lload_n 0, 1) := by decide +kernel
theorem dJ9_min_f86c9_7 : decode cJ9_min_f86c9 7 = .ok (.goto 4, 3) := by decide +kernel
theorem dJ9_min_f86c9_10 : decode cJ9_min_f86c9 10 = .ok (.lload_n 2, 1) := by decide +kernel
theorem dJ9_min_f86c9_11 : decode cJ9_min_f86c9 11 = .ok (.lreturn, 1) := by decide +kernel
theorem dL_mount_0 : decode cL_mount 0 = .ok (.aload_n 2, 1) := by decide +kernel
theorem dL_mount_1 : decode cL_mount 1 = .ok (.iconst 0, 1) := by decide +kernel
theorem dL_mount_2 : decode cL_mount 2 = .ok (.aload_n 0, 1) := by decide +kernel
theorem dL_mount_3 : decode cL_mount 3 = .ok (.iload_n 1, 1) := by decide +kernel
theorem dL_mount_4 : decode cL_mount 4 = .ok (.invokevirtual 7, 3) := by decide +kernel
theorem dL_mount_7 : decode cL_mount 7 = .ok (.i2l, 1) := by decide +kernel
theorem dL_mount_8 : decode cL_mount 8 = .ok (.lastore, 1) := by decide +kernel
theorem dL_mount_9 : decode cL_mount 9 = .ok (.goto 9, 3) := by decide +kernel
theorem dL_mount_12 : decode cL_mount 12 = .ok (.astore_n 3, 1) := by decide +kernel
theorem dL_mount_13 : decode cL_mount 13 = .ok (.iconst 1, 1) := by decide +kernel
theorem dL_mount_14 : decode cL_mount 14 = .ok (.ireturn, 1) := by decide +kernel
theorem dL_mount_15 : decode cL_mount 15 = .ok (.astore_n 3, 1) := by decide +kernel
theorem dL_mount_16 : decode cL_mount 16 = .ok (.iconst 2, 1) := by decide +kernel
theorem dL_mount_17 : decode cL_mount 17 = .ok (.ireturn, 1) := by decide +kernel
theorem dL_mount_18 : decode cL_mount 18 = .ok (.iconst 0, 1) := by decide +kernel
theorem dL_mount_19 : decode cL_mount 19 = .ok (.ireturn, 1) := by decide +kernel
theorem dL_step_0 : decode cL_step 0 = .ok (.aload 5, 2) := by decide +kernel
theorem dL_step_2 : decode cL_step 2 = .ok (.iconst 0, 1) := by decide +kernel
theorem dL_step_3 : decode cL_step 3 = .ok (.aload_n 0, 1) := by decide +kernel
theorem dL_step_4 : decode cL_step 4 = .ok (.iload_n 1, 1) := by decide +kernel
theorem dL_step_5 : decode cL_step 5 = .ok (.iload_n 2, 1) := by decide +kernel
theorem dL_step_6 : decode cL_step 6 = .ok (.lload_n 3, 1) := by decide +kernel
theorem dL_step_7 : decode cL_step 7 = .ok (.invokevirtual 17, 3) := by decide +kernel
theorem dL_step_10 : decode cL_step 10 = .ok (.i2l, 1) := by decide +kernel
theorem dL_step_11 : decode cL_step 11 = .ok (.lastore, 1) := by decide +kernel
theorem dL_step_12 : decode cL_step 12 = .ok (.goto 15, 3) := by decide +kernel
theorem dL_step_15 : decode cL_step 15 = .ok (.astore 6, 2) := by decide +kernel
theorem dL_step_17 : decode cL_step 17 = .ok (.iconst 1, 1) := by decide +kernel
theorem dL_step_18 : decode cL_step 18 = .ok (.ireturn, 1) := by decide +kernel
theorem dL_step_19 : decode cL_step 19 = .ok (.astore 6, 2) := by decide +kernel
theorem dL_step_21 : decode cL_step 21 = .ok (.iconst 2, 1) := by decide +kernel
theorem dL_step_22 : decode cL_step 22 = .ok (.ireturn, 1) := by decide +kernel
theorem dL_step_23 : decode cL_step 23 = .ok (.astore 6, 2) := by decide +kernel
theorem dL_step_25 : decode cL_step 25 = .ok (.iconst 3, 1) := by decide +kernel
theorem dL_step_26 : decode cL_step 26 = .ok (.ireturn, 1) := by decide +kernel
theorem dL_step_27 : decode cL_step 27 = .ok (.iconst 0, 1) := by decide +kernel
theorem dL_step_28 : decode cL_step 28 = .ok (.ireturn, 1) := by decide +kernel
theorem dL_follow_0 : decode cL_follow 0 = .ok (.aload 4, 2) := by decide +kernel
theorem dL_follow_2 : decode cL_follow 2 = .ok (.iconst 0, 1) := by decide +kernel
theorem dL_follow_3 : decode cL_follow 3 = .ok (.aload_n 0, 1) := by decide +kernel
theorem dL_follow_4 : decode cL_follow 4 = .ok (.iload_n 1, 1) := by decide +kernel
theorem dL_follow_5 : decode cL_follow 5 = .ok (.iload_n 2, 1) := by decide +kernel
theorem dL_follow_6 : decode cL_follow 6 = .ok (.iload_n 3, 1) := by decide +kernel
theorem dL_follow_7 : decode cL_follow 7 = .ok (.invokevirtual 25, 3) := by decide +kernel
theorem dL_follow_10 : decode cL_follow 10 = .ok (.i2l, 1) := by decide +kernel
theorem dL_follow_11 : decode cL_follow 11 = .ok (.lastore, 1) := by decide +kernel
theorem dL_follow_12 : decode cL_follow 12 = .ok (.goto 15, 3) := by decide +kernel
theorem dL_follow_15 : decode cL_follow 15 = .ok (.astore 5, 2) := by decide +kernel
theorem dL_follow_17 : decode cL_follow 17 = .ok (.iconst 1, 1) := by decide +kernel
theorem dL_follow_18 : decode cL_follow 18 = .ok (.ireturn, 1) := by decide +kernel
theorem dL_follow_19 : decode cL_follow 19 = .ok (.astore 5, 2) := by decide +kernel
theorem dL_follow_21 : decode cL_follow 21 = .ok (.iconst 2, 1) := by decide +kernel
theorem dL_follow_22 : decode cL_follow 22 = .ok (.ireturn, 1) := by decide +kernel
theorem dL_follow_23 : decode cL_follow 23 = .ok (.astore 5, 2) := by decide +kernel
theorem dL_follow_25 : decode cL_follow 25 = .ok (.iconst 3, 1) := by decide +kernel
theorem dL_follow_26 : decode cL_follow 26 = .ok (.ireturn, 1) := by decide +kernel
theorem dL_follow_27 : decode cL_follow 27 = .ok (.iconst 0, 1) := by decide +kernel
theorem dL_follow_28 : decode cL_follow 28 = .ok (.ireturn, 1) := by decide +kernel
theorem dL_read_0 : decode cL_read 0 = .ok (.aload 4, 2) := by decide +kernel
theorem dL_read_2 : decode cL_read 2 = .ok (.iconst 0, 1) := by decide +kernel
theorem dL_read_3 : decode cL_read 3 = .ok (.aload_n 0, 1) := by decide +kernel
theorem dL_read_4 : decode cL_read 4 = .ok (.iload_n 1, 1) := by decide +kernel
theorem dL_read_5 : decode cL_read 5 = .ok (.lload_n 2, 1) := by decide +kernel
theorem dL_read_6 : decode cL_read 6 = .ok (.invokevirtual 29, 3) := by decide +kernel
theorem dL_read_9 : decode cL_read 9 = .ok (.lastore, 1) := by decide +kernel
theorem dL_read_10 : decode cL_read 10 = .ok (.goto 11, 3) := by decide +kernel
theorem dL_read_13 : decode cL_read 13 = .ok (.astore 5, 2) := by decide +kernel
theorem dL_read_15 : decode cL_read 15 = .ok (.iconst 1, 1) := by decide +kernel
theorem dL_read_16 : decode cL_read 16 = .ok (.ireturn, 1) := by decide +kernel
theorem dL_read_17 : decode cL_read 17 = .ok (.astore 5, 2) := by decide +kernel
theorem dL_read_19 : decode cL_read 19 = .ok (.iconst 2, 1) := by decide +kernel
theorem dL_read_20 : decode cL_read 20 = .ok (.ireturn, 1) := by decide +kernel
theorem dL_read_21 : decode cL_read 21 = .ok (.iconst 0, 1) := by decide +kernel
theorem dL_read_22 : decode cL_read 22 = .ok (.ireturn, 1) := by decide +kernel
theorem dL_reading_0 : decode cL_reading 0 = .ok (.aload_n 3, 1) := by decide +kernel
theorem dL_reading_1 : decode cL_reading 1 = .ok (.iconst 0, 1) := by decide +kernel
theorem dL_reading_2 : decode cL_reading 2 = .ok (.aload_n 0, 1) := by decide +kernel
theorem dL_reading_3 : decode cL_reading 3 = .ok (.iload_n 1, 1) := by decide +kernel
theorem dL_reading_4 : decode cL_reading 4 = .ok (.iload_n 2, 1) := by decide +kernel
theorem dL_reading_5 : decode cL_reading 5 = .ok (.invokevirtual 33, 3) := by decide +kernel
theorem dL_reading_8 : decode cL_reading 8 = .ok (.lastore, 1) := by decide +kernel
theorem dL_reading_9 : decode cL_reading 9 = .ok (.goto 11, 3) := by decide +kernel
theorem dL_reading_12 : decode cL_reading 12 = .ok (.astore 4, 2) := by decide +kernel
theorem dL_reading_14 : decode cL_reading 14 = .ok (.iconst 1, 1) := by decide +kernel
theorem dL_reading_15 : decode cL_reading 15 = .ok (.ireturn, 1) := by decide +kernel
theorem dL_reading_16 : decode cL_reading 16 = .ok (.astore 4, 2) := by decide +kernel
theorem dL_reading_18 : decode cL_reading 18 = .ok (.iconst 2, 1) := by decide +kernel
theorem dL_reading_19 : decode cL_reading 19 = .ok (.ireturn, 1) := by decide +kernel
theorem dL_reading_20 : decode cL_reading 20 = .ok (.iconst 0, 1) := by decide +kernel
theorem dL_reading_21 : decode cL_reading 21 = .ok (.ireturn, 1) := by decide +kernel
theorem dL_tell_0 : decode cL_tell 0 = .ok (.aload_n 3, 1) := by decide +kernel
theorem dL_tell_1 : decode cL_tell 1 = .ok (.iconst 0, 1) := by decide +kernel
theorem dL_tell_2 : decode cL_tell 2 = .ok (.aload_n 0, 1) := by decide +kernel
theorem dL_tell_3 : decode cL_tell 3 = .ok (.iload_n 1, 1) := by decide +kernel
theorem dL_tell_4 : decode cL_tell 4 = .ok (.iload_n 2, 1) := by decide +kernel
theorem dL_tell_5 : decode cL_tell 5 = .ok (.invokevirtual 39, 3) := by decide +kernel
theorem dL_tell_8 : decode cL_tell 8 = .ok (.lastore, 1) := by decide +kernel
theorem dL_tell_9 : decode cL_tell 9 = .ok (.goto 15, 3) := by decide +kernel
theorem dL_tell_12 : decode cL_tell 12 = .ok (.astore 4, 2) := by decide +kernel
theorem dL_tell_14 : decode cL_tell 14 = .ok (.iconst 1, 1) := by decide +kernel
theorem dL_tell_15 : decode cL_tell 15 = .ok (.ireturn, 1) := by decide +kernel
theorem dL_tell_16 : decode cL_tell 16 = .ok (.astore 4, 2) := by decide +kernel
theorem dL_tell_18 : decode cL_tell 18 = .ok (.iconst 2, 1) := by decide +kernel
theorem dL_tell_19 : decode cL_tell 19 = .ok (.ireturn, 1) := by decide +kernel
theorem dL_tell_20 : decode cL_tell 20 = .ok (.astore 4, 2) := by decide +kernel
theorem dL_tell_22 : decode cL_tell 22 = .ok (.iconst 3, 1) := by decide +kernel
theorem dL_tell_23 : decode cL_tell 23 = .ok (.ireturn, 1) := by decide +kernel
theorem dL_tell_24 : decode cL_tell 24 = .ok (.iconst 0, 1) := by decide +kernel
theorem dL_tell_25 : decode cL_tell 25 = .ok (.ireturn, 1) := by decide +kernel
theorem dL_whole_0 : decode cL_whole 0 = .ok (.aload_n 2, 1) := by decide +kernel
theorem dL_whole_1 : decode cL_whole 1 = .ok (.iconst 0, 1) := by decide +kernel
theorem dL_whole_2 : decode cL_whole 2 = .ok (.aload_n 0, 1) := by decide +kernel
theorem dL_whole_3 : decode cL_whole 3 = .ok (.iload_n 1, 1) := by decide +kernel
theorem dL_whole_4 : decode cL_whole 4 = .ok (.invokevirtual 42, 3) := by decide +kernel
theorem dL_whole_7 : decode cL_whole 7 = .ok (.i2l, 1) := by decide +kernel
theorem dL_whole_8 : decode cL_whole 8 = .ok (.lastore, 1) := by decide +kernel
theorem dL_whole_9 : decode cL_whole 9 = .ok (.goto 9, 3) := by decide +kernel
theorem dL_whole_12 : decode cL_whole 12 = .ok (.astore_n 3, 1) := by decide +kernel
theorem dL_whole_13 : decode cL_whole 13 = .ok (.iconst 1, 1) := by decide +kernel
theorem dL_whole_14 : decode cL_whole 14 = .ok (.ireturn, 1) := by decide +kernel
theorem dL_whole_15 : decode cL_whole 15 = .ok (.astore_n 3, 1) := by decide +kernel
theorem dL_whole_16 : decode cL_whole 16 = .ok (.iconst 2, 1) := by decide +kernel
theorem dL_whole_17 : decode cL_whole 17 = .ok (.ireturn, 1) := by decide +kernel
theorem dL_whole_18 : decode cL_whole 18 = .ok (.iconst 0, 1) := by decide +kernel
theorem dL_whole_19 : decode cL_whole 19 = .ok (.ireturn, 1) := by decide +kernel
theorem dL_limits_0 : decode cL_limits 0 = .ok (.aload 6, 2) := by decide +kernel
theorem dL_limits_2 : decode cL_limits 2 = .ok (.iconst 0, 1) := by decide +kernel
theorem dL_limits_3 : decode cL_limits 3 = .ok (.aload_n 0, 1) := by decide +kernel
theorem dL_limits_4 : decode cL_limits 4 = .ok (.iload_n 1, 1) := by decide +kernel
theorem dL_limits_5 : decode cL_limits 5 = .ok (.lload_n 2, 1) := by decide +kernel
theorem dL_limits_6 : decode cL_limits 6 = .ok (.lload 4, 2) := by decide +kernel
theorem dL_limits_8 : decode cL_limits 8 = .ok (.invokevirtual 45, 3) := by decide +kernel
theorem dL_limits_11 : decode cL_limits 11 = .ok (.ifCond .eq 7, 3) := by decide +kernel
theorem dL_limits_14 : decode cL_limits 14 = .ok (.lconst 1, 1) := by decide +kernel
theorem dL_limits_15 : decode cL_limits 15 = .ok (.goto 4, 3) := by decide +kernel
theorem dL_limits_18 : decode cL_limits 18 = .ok (.lconst 0, 1) := by decide +kernel
theorem dL_limits_19 : decode cL_limits 19 = .ok (.lastore, 1) := by decide +kernel
theorem dL_limits_20 : decode cL_limits 20 = .ok (.goto 11, 3) := by decide +kernel
theorem dL_limits_23 : decode cL_limits 23 = .ok (.astore 7, 2) := by decide +kernel
theorem dL_limits_25 : decode cL_limits 25 = .ok (.iconst 1, 1) := by decide +kernel
theorem dL_limits_26 : decode cL_limits 26 = .ok (.ireturn, 1) := by decide +kernel
theorem dL_limits_27 : decode cL_limits 27 = .ok (.astore 7, 2) := by decide +kernel
theorem dL_limits_29 : decode cL_limits 29 = .ok (.iconst 2, 1) := by decide +kernel
theorem dL_limits_30 : decode cL_limits 30 = .ok (.ireturn, 1) := by decide +kernel
theorem dL_limits_31 : decode cL_limits 31 = .ok (.iconst 0, 1) := by decide +kernel
theorem dL_limits_32 : decode cL_limits 32 = .ok (.ireturn, 1) := by decide +kernel
theorem dL_widest_0 : decode cL_widest 0 = .ok (.aload_n 2, 1) := by decide +kernel
theorem dL_widest_1 : decode cL_widest 1 = .ok (.iconst 0, 1) := by decide +kernel
theorem dL_widest_2 : decode cL_widest 2 = .ok (.aload_n 0, 1) := by decide +kernel
theorem dL_widest_3 : decode cL_widest 3 = .ok (.iload_n 1, 1) := by decide +kernel
theorem dL_widest_4 : decode cL_widest 4 = .ok (.invokevirtual 49, 3) := by decide +kernel
theorem dL_widest_7 : decode cL_widest 7 = .ok (.lastore, 1) := by decide +kernel
theorem dL_widest_8 : decode cL_widest 8 = .ok (.goto 9, 3) := by decide +kernel
theorem dL_widest_11 : decode cL_widest 11 = .ok (.astore_n 3, 1) := by decide +kernel
theorem dL_widest_12 : decode cL_widest 12 = .ok (.iconst 1, 1) := by decide +kernel
theorem dL_widest_13 : decode cL_widest 13 = .ok (.ireturn, 1) := by decide +kernel
theorem dL_widest_14 : decode cL_widest 14 = .ok (.astore_n 3, 1) := by decide +kernel
theorem dL_widest_15 : decode cL_widest 15 = .ok (.iconst 2, 1) := by decide +kernel
theorem dL_widest_16 : decode cL_widest 16 = .ok (.ireturn, 1) := by decide +kernel
theorem dL_widest_17 : decode cL_widest 17 = .ok (.iconst 0, 1) := by decide +kernel
theorem dL_widest_18 : decode cL_widest 18 = .ok (.ireturn, 1) := by decide +kernel
theorem dL_forget_0 : decode cL_forget 0 = .ok (.aload_n 2, 1) := by decide +kernel
theorem dL_forget_1 : decode cL_forget 1 = .ok (.iconst 0, 1) := by decide +kernel
theorem dL_forget_2 : decode cL_forget 2 = .ok (.aload_n 0, 1) := by decide +kernel
theorem dL_forget_3 : decode cL_forget 3 = .ok (.iload_n 1, 1) := by decide +kernel
theorem dL_forget_4 : decode cL_forget 4 = .ok (.invokevirtual 53, 3) := by decide +kernel
theorem dL_forget_7 : decode cL_forget 7 = .ok (.i2l, 1) := by decide +kernel
theorem dL_forget_8 : decode cL_forget 8 = .ok (.lastore, 1) := by decide +kernel
theorem dL_forget_9 : decode cL_forget 9 = .ok (.goto 6, 3) := by decide +kernel
theorem dL_forget_12 : decode cL_forget 12 = .ok (.astore_n 3, 1) := by decide +kernel
theorem dL_forget_13 : decode cL_forget 13 = .ok (.iconst 1, 1) := by decide +kernel
theorem dL_forget_14 : decode cL_forget 14 = .ok (.ireturn, 1) := by decide +kernel
theorem dL_forget_15 : decode cL_forget 15 = .ok (.iconst 0, 1) := by decide +kernel
theorem dL_forget_16 : decode cL_forget 16 = .ok (.ireturn, 1) := by decide +kernel
theorem dL_alarms_0 : decode cL_alarms 0 = .ok (.aload_n 2, 1) := by decide +kernel
theorem dL_alarms_1 : decode cL_alarms 1 = .ok (.iconst 0, 1) := by decide +kernel
theorem dL_alarms_2 : decode cL_alarms 2 = .ok (.aload_n 0, 1) := by decide +kernel
theorem dL_alarms_3 : decode cL_alarms 3 = .ok (.iload_n 1, 1) := by decide +kernel
theorem dL_alarms_4 : decode cL_alarms 4 = .ok (.invokevirtual 56, 3) := by decide +kernel
theorem dL_alarms_7 : decode cL_alarms 7 = .ok (.i2l, 1) := by decide +kernel
theorem dL_alarms_8 : decode cL_alarms 8 = .ok (.lastore, 1) := by decide +kernel
theorem dL_alarms_9 : decode cL_alarms 9 = .ok (.goto 6, 3) := by decide +kernel
theorem dL_alarms_12 : decode cL_alarms 12 = .ok (.astore_n 3, 1) := by decide +kernel
theorem dL_alarms_13 : decode cL_alarms 13 = .ok (.iconst 1, 1) := by decide +kernel
theorem dL_alarms_14 : decode cL_alarms 14 = .ok (.ireturn, 1) := by decide +kernel
theorem dL_alarms_15 : decode cL_alarms 15 = .ok (.iconst 0, 1) := by decide +kernel
theorem dL_alarms_16 : decode cL_alarms 16 = .ok (.ireturn, 1) := by decide +kernel
theorem dL_law_0 : decode cL_law 0 = .ok (.new 8, 3) := by decide +kernel
theorem dL_law_3 : decode cL_law 3 = .ok (.dup, 1) := by decide +kernel
theorem dL_law_4 : decode cL_law 4 = .ok (.invokespecial 59, 3) := by decide +kernel
theorem dL_law_7 : decode cL_law 7 = .ok (.astore_n 1, 1) := by decide +kernel
theorem dL_law_8 : decode cL_law 8 = .ok (.new 60, 3) := by decide +kernel
theorem dL_law_11 : decode cL_law 11 = .ok (.dup, 1) := by decide +kernel
theorem dL_law_12 : decode cL_law 12 = .ok (.invokespecial 62, 3) := by decide +kernel
theorem dL_law_15 : decode cL_law 15 = .ok (.astore_n 2, 1) := by decide +kernel
theorem dL_law_16 : decode cL_law 16 = .ok (.iconst 1, 1) := by decide +kernel
theorem dL_law_17 : decode cL_law 17 = .ok (.newarray .long, 2) := by decide +kernel
theorem dL_law_19 : decode cL_law 19 = .ok (.astore_n 3, 1) := by decide +kernel
theorem dL_law_20 : decode cL_law 20 = .ok (.iconst 0, 1) := by decide +kernel
theorem dL_law_21 : decode cL_law 21 = .ok (.istore 4, 2) := by decide +kernel
theorem dL_law_23 : decode cL_law 23 = .ok (.iload 4, 2) := by decide +kernel
theorem dL_law_25 : decode cL_law 25 = .ok (.aload_n 0, 1) := by decide +kernel
theorem dL_law_26 : decode cL_law 26 = .ok (.arraylength, 1) := by decide +kernel
theorem dL_law_27 : decode cL_law 27 = .ok (.bipush 6, 2) := by decide +kernel
theorem dL_law_29 : decode cL_law 29 = .ok (.isub, 1) := by decide +kernel
theorem dL_law_30 : decode cL_law 30 = .ok (.if_icmp .gt 960, 3) := by decide +kernel
theorem dL_law_33 : decode cL_law 33 = .ok (.aload_n 0, 1) := by decide +kernel
theorem dL_law_34 : decode cL_law 34 = .ok (.iload 4, 2) := by decide +kernel
theorem dL_law_36 : decode cL_law 36 = .ok (.iaload, 1) := by decide +kernel
theorem dL_law_37 : decode cL_law 37 = .ok (.bipush 15, 2) := by decide +kernel
theorem dL_law_39 : decode cL_law 39 = .ok (.iand, 1) := by decide +kernel
theorem dL_law_40 : decode cL_law 40 = .ok (.tableswitch 944 0 11 #[64, 120, 232, 312, 411, 478, 545, 601, 752, 807, 863, 919], 64) := by decide +kernel
theorem dL_law_104 : decode cL_law 104 = .ok (.aload_n 1, 1) := by decide +kernel
theorem dL_law_105 : decode cL_law 105 = .ok (.aload_n 0, 1) := by decide +kernel
theorem dL_law_106 : decode cL_law 106 = .ok (.iload 4, 2) := by decide +kernel
theorem dL_law_108 : decode cL_law 108 = .ok (.iconst 1, 1) := by decide +kernel
theorem dL_law_109 : decode cL_law 109 = .ok (.iadd, 1) := by decide +kernel
theorem dL_law_110 : decode cL_law 110 = .ok (.iaload, 1) := by decide +kernel
theorem dL_law_111 : decode cL_law 111 = .ok (.aload_n 3, 1) := by decide +kernel
theorem dL_law_112 : decode cL_law 112 = .ok (.invokestatic 63, 3) := by decide +kernel
theorem dL_law_115 : decode cL_law 115 = .ok (.istore 5, 2) := by decide +kernel
theorem dL_law_117 : decode cL_law 117 = .ok (.aload_n 2, 1) := by decide +kernel
theorem dL_law_118 : decode cL_law 118 = .ok (.aload_n 0, 1) := by decide +kernel
theorem dL_law_119 : decode cL_law 119 = .ok (.iload 4, 2) := by decide +kernel
theorem dL_law_121 : decode cL_law 121 = .ok (.iconst 1, 1) := by decide +kernel
theorem dL_law_122 : decode cL_law 122 = .ok (.iadd, 1) := by decide +kernel
theorem dL_law_123 : decode cL_law 123 = .ok (.iaload, 1) := by decide +kernel
theorem dL_law_124 : decode cL_law 124 = .ok (.invokevirtual 68, 3) := by decide +kernel
theorem dL_law_127 : decode cL_law 127 = .ok (.istore 6, 2) := by decide +kernel
theorem dL_law_129 : decode cL_law 129 = .ok (.aload_n 2, 1) := by decide +kernel
theorem dL_law_130 : decode cL_law 130 = .ok (.invokevirtual 69, 3) := by decide +kernel
theorem dL_law_133 : decode cL_law 133 = .ok (.iload 5, 2) := by decide +kernel
theorem dL_law_135 : decode cL_law 135 = .ok (.if_icmp .eq 5, 3) := by decide +kernel
theorem dL_law_138 : decode cL_law 138 = .ok (.iconst 0, 1) := by decide +kernel
theorem dL_law_139 : decode cL_law 139 = .ok (.ireturn, 1) := by decide +kernel
theorem dL_law_140 : decode cL_law 140 = .ok (.iload 5, 2) := by decide +kernel
theorem dL_law_142 : decode cL_law 142 = .ok (.ifCond .ne 15, 3) := by decide +kernel
theorem dL_law_145 : decode cL_law 145 = .ok (.aload_n 3, 1) := by decide +kernel
theorem dL_law_146 : decode cL_law 146 = .ok (.iconst 0, 1) := by decide +kernel
theorem dL_law_147 : decode cL_law 147 = .ok (.laload, 1) := by decide +kernel
theorem dL_law_148 : decode cL_law 148 = .ok (.iload 6, 2) := by decide +kernel
theorem dL_law_150 : decode cL_law 150 = .ok (.i2l, 1) := by decide +kernel
theorem dL_law_151 : decode cL_law 151 = .ok (.lcmp, 1) := by decide +kernel
theorem dL_law_152 : decode cL_law 152 = .ok (.ifCond .eq 5, 3) := by decide +kernel
theorem dL_law_155 : decode cL_law 155 = .ok (.iconst 0, 1) := by decide +kernel
theorem dL_law_156 : decode cL_law 156 = .ok (.ireturn, 1) := by decide +kernel
theorem dL_law_157 : decode cL_law 157 = .ok (.goto 827, 3) := by decide +kernel
theorem dL_law_160 : decode cL_law 160 = .ok (.aload_n 1, 1) := by decide +kernel
theorem dL_law_161 : decode cL_law 161 = .ok (.aload_n 0, 1) := by decide +kernel
theorem dL_law_162 : decode cL_law 162 = .ok (.iload 4, 2) := by decide +kernel
theorem dL_law_164 : decode cL_law 164 = .ok (.iconst 1, 1) := by decide +kernel
theorem dL_law_165 : decode cL_law 165 = .ok (.iadd, 1) := by decide +kernel
theorem dL_law_166 : decode cL_law 166 = .ok (.iaload, 1) := by decide +kernel
theorem dL_law_167 : decode cL_law 167 = .ok (.aload_n 0, 1) := by decide +kernel
theorem dL_law_168 : decode cL_law 168 = .ok (.iload 4, 2) := by decide +kernel
theorem dL_law_170 : decode cL_law 170 = .ok (.iconst 2, 1) := by decide +kernel
theorem dL_law_171 : decode cL_law 171 = .ok (.iadd, 1) := by decide +kernel
theorem dL_law_172 : decode cL_law 172 = .ok (.iaload, 1) := by decide +kernel
theorem dL_law_173 : decode cL_law 173 = .ok (.aload_n 0, 1) := by decide +kernel
theorem dL_law_174 : decode cL_law 174 = .ok (.iload 4, 2) := by decide +kernel
theorem dL_law_176 : decode cL_law 176 = .ok (.iconst 3, 1) := by decide +kernel
theorem dL_law_177 : decode cL_law 177 = .ok (.iadd, 1) := by decide +kernel
theorem dL_law_178 : decode cL_law 178 = .ok (.iaload, 1) := by decide +kernel
theorem dL_law_179 : decode cL_law 179 = .ok (.i2l, 1) := by decide +kernel
theorem dL_law_180 : decode cL_law 180 = .ok (.bipush 32, 2) := by decide +kernel
theorem dL_law_182 : decode cL_law 182 = .ok (.lshl, 1) := by decide +kernel
theorem dL_law_183 : decode cL_law 183 = .ok (.aload_n 0, 1) := by decide +kernel
theorem dL_law_184 : decode cL_law 184 = .ok (.iload 4, 2) := by decide +kernel
theorem dL_law_186 : decode cL_law 186 = .ok (.iconst 4, 1) := by decide +kernel
theorem dL_law_187 : decode cL_law 187 = .ok (.iadd, 1) := by decide +kernel
theorem dL_law_188 : decode cL_law 188 = .ok (.iaload, 1) := by decide +kernel
theorem dL_law_189 : decode cL_law 189 = .ok (.i2l, 1) := by decide +kernel
theorem dL_law_190 : decode cL_law 190 = .ok (.ldc2_w 73, 3) := by decide +kernel
theorem dL_law_193 : decode cL_law 193 = .ok (.land, 1) := by decide +kernel
theorem dL_law_194 : decode cL_law 194 = .ok (.lor, 1) := by decide +kernel
theorem dL_law_195 : decode cL_law 195 = .ok (.aload_n 3, 1) := by decide +kernel
theorem dL_law_196 : decode cL_law 196 = .ok (.invokestatic 75, 3) := by decide +kernel
theorem dL_law_199 : decode cL_law 199 = .ok (.istore 5, 2) := by decide +kernel
theorem dL_law_201 : decode cL_law 201 = .ok (.aload_n 2, 1) := by decide +kernel
theorem dL_law_202 : decode cL_law 202 = .ok (.aload_n 0, 1) := by decide +kernel
theorem dL_law_203 : decode cL_law 203 = .ok (.iload 4, 2) := by decide +kernel
theorem dL_law_205 : decode cL_law 205 = .ok (.iconst 1, 1) := by decide +kernel
theorem dL_law_206 : decode cL_law 206 = .ok (.iadd, 1) := by decide +kernel
theorem dL_law_207 : decode cL_law 207 = .ok (.iaload, 1) := by decide +kernel
theorem dL_law_208 : decode cL_law 208 = .ok (.aload_n 0, 1) := by decide +kernel
theorem dL_law_209 : decode cL_law 209 = .ok (.iload 4, 2) := by decide +kernel
theorem dL_law_211 : decode cL_law 211 = .ok (.iconst 2, 1) := by decide +kernel
theorem dL_law_212 : decode cL_law 212 = .ok (.iadd, 1) := by decide +kernel
theorem dL_law_213 : decode cL_law 213 = .ok (.iaload, 1) := by decide +kernel
theorem dL_law_214 : decode cL_law 214 = .ok (.aload_n 0, 1) := by decide +kernel
theorem dL_law_215 : decode cL_law 215 = .ok (.iload 4, 2) := by decide +kernel
theorem dL_law_217 : decode cL_law 217 = .ok (.iconst 3, 1) := by decide +kernel
theorem dL_law_218 : decode cL_law 218 = .ok (.iadd, 1) := by decide +kernel
theorem dL_law_219 : decode cL_law 219 = .ok (.iaload, 1) := by decide +kernel
theorem dL_law_220 : decode cL_law 220 = .ok (.i2l, 1) := by decide +kernel
theorem dL_law_221 : decode cL_law 221 = .ok (.bipush 32, 2) := by decide +kernel
theorem dL_law_223 : decode cL_law 223 = .ok (.lshl, 1) := by decide +kernel
theorem dL_law_224 : decode cL_law 224 = .ok (.aload_n 0, 1) := by decide +kernel
theorem dL_law_225 : decode cL_law 225 = .ok (.iload 4, 2) := by decide +kernel
theorem dL_law_227 : decode cL_law 227 = .ok (.iconst 4, 1) := by decide +kernel
theorem dL_law_228 : decode cL_law 228 = .ok (.iadd, 1) := by decide +kernel
theorem dL_law_229 : decode cL_law 229 = .ok (.iaload, 1) := by decide +kernel
theorem dL_law_230 : decode cL_law 230 = .ok (.i2l, 1) := by decide +kernel
theorem dL_law_231 : decode cL_law 231 = .ok (.ldc2_w 73, 3) := by decide +kernel
theorem dL_law_234 : decode cL_law 234 = .ok (.land, 1) := by decide +kernel
theorem dL_law_235 : decode cL_law 235 = .ok (.lor, 1) := by decide +kernel
theorem dL_law_236 : decode cL_law 236 = .ok (.invokevirtual 78, 3) := by decide +kernel
theorem dL_law_239 : decode cL_law 239 = .ok (.istore 6, 2) := by decide +kernel
theorem dL_law_241 : decode cL_law 241 = .ok (.aload_n 2, 1) := by decide +kernel
theorem dL_law_242 : decode cL_law 242 = .ok (.invokevirtual 69, 3) := by decide +kernel
theorem dL_law_245 : decode cL_law 245 = .ok (.iload 5, 2) := by decide +kernel
theorem dL_law_247 : decode cL_law 247 = .ok (.if_icmp .eq 5, 3) := by decide +kernel
theorem dL_law_250 : decode cL_law 250 = .ok (.iconst 0, 1) := by decide +kernel
theorem dL_law_251 : decode cL_law 251 = .ok (.ireturn, 1) := by decide +kernel
theorem dL_law_252 : decode cL_law 252 = .ok (.iload 5, 2) := by decide +kernel
theorem dL_law_254 : decode cL_law 254 = .ok (.ifCond .ne 15, 3) := by decide +kernel
theorem dL_law_257 : decode cL_law 257 = .ok (.aload_n 3, 1) := by decide +kernel
theorem dL_law_258 : decode cL_law 258 = .ok (.iconst 0, 1) := by decide +kernel
theorem dL_law_259 : decode cL_law 259 = .ok (.laload, 1) := by decide +kernel
theorem dL_law_260 : decode cL_law 260 = .ok (.iload 6, 2) := by decide +kernel
theorem dL_law_262 : decode cL_law 262 = .ok (.i2l, 1) := by decide +kernel
theorem dL_law_263 : decode cL_law 263 = .ok (.lcmp, 1) := by decide +kernel
theorem dL_law_264 : decode cL_law 264 = .ok (.ifCond .eq 5, 3) := by decide +kernel
theorem dL_law_267 : decode cL_law 267 = .ok (.iconst 0, 1) := by decide +kernel
theorem dL_law_268 : decode cL_law 268 = .ok (.ireturn, 1) := by decide +kernel
theorem dL_law_269 : decode cL_law 269 = .ok (.goto 715, 3) := by decide +kernel
theorem dL_law_272 : decode cL_law 272 = .ok (.aload_n 1, 1) := by decide +kernel
theorem dL_law_273 : decode cL_law 273 = .ok (.aload_n 0, 1) := by decide +kernel
theorem dL_law_274 : decode cL_law 274 = .ok (.iload 4, 2) := by decide +kernel
theorem dL_law_276 : decode cL_law 276 = .ok (.iconst 1, 1) := by decide +kernel
theorem dL_law_277 : decode cL_law 277 = .ok (.iadd, 1) := by decide +kernel
theorem dL_law_278 : decode cL_law 278 = .ok (.iaload, 1) := by decide +kernel
theorem dL_law_279 : decode cL_law 279 = .ok (.aload_n 0, 1) := by decide +kernel
theorem dL_law_280 : decode cL_law 280 = .ok (.iload 4, 2) := by decide +kernel
theorem dL_law_282 : decode cL_law 282 = .ok (.iconst 2, 1) := by decide +kernel
theorem dL_law_283 : decode cL_law 283 = .ok (.iadd, 1) := by decide +kernel
theorem dL_law_284 : decode cL_law 284 = .ok (.iaload, 1) := by decide +kernel
theorem dL_law_285 : decode cL_law 285 = .ok (.aload_n 0, 1) := by decide +kernel
theorem dL_law_286 : decode cL_law 286 = .ok (.iload 4, 2) := by decide +kernel
theorem dL_law_288 : decode cL_law 288 = .ok (.iconst 3, 1) := by decide +kernel
theorem dL_law_289 : decode cL_law 289 = .ok (.iadd, 1) := by decide +kernel
theorem dL_law_290 : decode cL_law 290 = .ok (.iaload, 1) := by decide +kernel
theorem dL_law_291 : decode cL_law 291 = .ok (.aload_n 3, 1) := by decide +kernel
theorem dL_law_292 : decode cL_law 292 = .ok (.invokestatic 79, 3) := by decide +kernel
theorem dL_law_295 : decode cL_law 295 = .ok (.istore 5, 2) := by decide +kernel
theorem dL_law_297 : decode cL_law 297 = .ok (.aload_n 2, 1) := by decide +kernel
theorem dL_law_298 : decode cL_law 298 = .ok (.aload_n 0, 1) := by decide +kernel
theorem dL_law_299 : decode cL_law 299 = .ok (.iload 4, 2) := by decide +kernel
theorem dL_law_301 : decode cL_law 301 = .ok (.iconst 1, 1) := by decide +kernel
theorem dL_law_302 : decode cL_law 302 = .ok (.iadd, 1) := by decide +kernel
theorem dL_law_303 : decode cL_law 303 = .ok (.iaload, 1) := by decide +kernel
theorem dL_law_304 : decode cL_law 304 = .ok (.aload_n 0, 1) := by decide +kernel
theorem dL_law_305 : decode cL_law 305 = .ok (.iload 4, 2) := by decide +kernel
theorem dL_law_307 : decode cL_law 307 = .ok (.iconst 2, 1) := by decide +kernel
theorem dL_law_308 : decode cL_law 308 = .ok (.iadd, 1) := by decide +kernel
theorem dL_law_309 : decode cL_law 309 = .ok (.iaload, 1) := by decide +kernel
theorem dL_law_310 : decode cL_law 310 = .ok (.aload_n 0, 1) := by decide +kernel
theorem dL_law_311 : decode cL_law 311 = .ok (.iload 4, 2) := by decide +kernel
theorem dL_law_313 : decode cL_law 313 = .ok (.iconst 3, 1) := by decide +kernel
theorem dL_law_314 : decode cL_law 314 = .ok (.iadd, 1) := by decide +kernel
theorem dL_law_315 : decode cL_law 315 = .ok (.iaload, 1) := by decide +kernel
theorem dL_law_316 : decode cL_law 316 = .ok (.invokevirtual 82, 3) := by decide +kernel
theorem dL_law_319 : decode cL_law 319 = .ok (.istore 6, 2) := by decide +kernel
theorem dL_law_321 : decode cL_law 321 = .ok (.aload_n 2, 1) := by decide +kernel
theorem dL_law_322 : decode cL_law 322 = .ok (.invokevirtual 69, 3) := by decide +kernel
theorem dL_law_325 : decode cL_law 325 = .ok (.iload 5, 2) := by decide +kernel
theorem dL_law_327 : decode cL_law 327 = .ok (.if_icmp .eq 5, 3) := by decide +kernel
theorem dL_law_330 : decode cL_law 330 = .ok (.iconst 0, 1) := by decide +kernel
theorem dL_law_331 : decode cL_law 331 = .ok (.ireturn, 1) := by decide +kernel
theorem dL_law_332 : decode cL_law 332 = .ok (.iload 5, 2) := by decide +kernel
theorem dL_law_334 : decode cL_law 334 = .ok (.ifCond .ne 15, 3) := by decide +kernel
theorem dL_law_337 : decode cL_law 337 = .ok (.aload_n 3, 1) := by decide +kernel
theorem dL_law_338 : decode cL_law 338 = .ok (.iconst 0, 1) := by decide +kernel
theorem dL_law_339 : decode cL_law 339 = .ok (.laload, 1) := by decide +kernel
theorem dL_law_340 : decode cL_law 340 = .ok (.iload 6, 2) := by decide +kernel
theorem dL_law_342 : decode cL_law 342 = .ok (.i2l, 1) := by decide +kernel
theorem dL_law_343 : decode cL_law 343 = .ok (.lcmp, 1) := by decide +kernel
theorem dL_law_344 : decode cL_law 344 = .ok (.ifCond .eq 5, 3) := by decide +kernel
theorem dL_law_347 : decode cL_law 347 = .ok (.iconst 0, 1) := by decide +kernel
theorem dL_law_348 : decode cL_law 348 = .ok (.ireturn, 1) := by decide +kernel
theorem dL_law_349 : decode cL_law 349 = .ok (.goto 635, 3) := by decide +kernel
theorem dL_law_352 : decode cL_law 352 = .ok (.aload_n 1, 1) := by decide +kernel
theorem dL_law_353 : decode cL_law 353 = .ok (.aload_n 0, 1) := by decide +kernel
theorem dL_law_354 : decode cL_law 354 = .ok (.iload 4, 2) := by decide +kernel
theorem dL_law_356 : decode cL_law 356 = .ok (.iconst 1, 1) := by decide +kernel
theorem dL_law_357 : decode cL_law 357 = .ok (.iadd, 1) := by decide +kernel
theorem dL_law_358 : decode cL_law 358 = .ok (.iaload, 1) := by decide +kernel
theorem dL_law_359 : decode cL_law 359 = .ok (.aload_n 0, 1) := by decide +kernel
theorem dL_law_360 : decode cL_law 360 = .ok (.iload 4, 2) := by decide +kernel
theorem dL_law_362 : decode cL_law 362 = .ok (.iconst 2, 1) := by decide +kernel
theorem dL_law_363 : decode cL_law 363 = .ok (.iadd, 1) := by decide +kernel
theorem dL_law_364 : decode cL_law 364 = .ok (.iaload, 1) := by decide +kernel
theorem dL_law_365 : decode cL_law 365 = .ok (.i2l, 1) := by decide +kernel
theorem dL_law_366 : decode cL_law 366 = .ok (.bipush 32, 2) := by decide +kernel
theorem dL_law_368 : decode cL_law 368 = .ok (.lshl, 1) := by decide +kernel
theorem dL_law_369 : decode cL_law 369 = .ok (.aload_n 0, 1) := by decide +kernel
theorem dL_law_370 : decode cL_law 370 = .ok (.iload 4, 2) := by decide +kernel
theorem dL_law_372 : decode cL_law 372 = .ok (.iconst 3, 1) := by decide +kernel
theorem dL_law_373 : decode cL_law 373 = .ok (.iadd, 1) := by decide +kernel
theorem dL_law_374 : decode cL_law 374 = .ok (.iaload, 1) := by decide +kernel
theorem dL_law_375 : decode cL_law 375 = .ok (.i2l, 1) := by decide +kernel
theorem dL_law_376 : decode cL_law 376 = .ok (.ldc2_w 73, 3) := by decide +kernel
theorem dL_law_379 : decode cL_law 379 = .ok (.land, 1) := by decide +kernel
theorem dL_law_380 : decode cL_law 380 = .ok (.lor, 1) := by decide +kernel
theorem dL_law_381 : decode cL_law 381 = .ok (.aload_n 3, 1) := by decide +kernel
theorem dL_law_382 : decode cL_law 382 = .ok (.invokestatic 83, 3) := by decide +kernel
theorem dL_law_385 : decode cL_law 385 = .ok (.istore 5, 2) := by decide +kernel
theorem dL_law_387 : decode cL_law 387 = .ok (.aload_n 2, 1) := by decide +kernel
theorem dL_law_388 : decode cL_law 388 = .ok (.aload_n 0, 1) := by decide +kernel
theorem dL_law_389 : decode cL_law 389 = .ok (.iload 4, 2) := by decide +kernel
theorem dL_law_391 : decode cL_law 391 = .ok (.iconst 1, 1) := by decide +kernel
theorem dL_law_392 : decode cL_law 392 = .ok (.iadd, 1) := by decide +kernel
theorem dL_law_393 : decode cL_law 393 = .ok (.iaload, 1) := by decide +kernel
theorem dL_law_394 : decode cL_law 394 = .ok (.aload_n 0, 1) := by decide +kernel
theorem dL_law_395 : decode cL_law 395 = .ok (.iload 4, 2) := by decide +kernel
theorem dL_law_397 : decode cL_law 397 = .ok (.iconst 2, 1) := by decide +kernel
theorem dL_law_398 : decode cL_law 398 = .ok (.iadd, 1) := by decide +kernel
theorem dL_law_399 : decode cL_law 399 = .ok (.iaload, 1) := by decide +kernel
theorem dL_law_400 : decode cL_law 400 = .ok (.i2l, 1) := by decide +kernel
theorem dL_law_401 : decode cL_law 401 = .ok (.bipush 32, 2) := by decide +kernel
theorem dL_law_403 : decode cL_law 403 = .ok (.lshl, 1) := by decide +kernel
theorem dL_law_404 : decode cL_law 404 = .ok (.aload_n 0, 1) := by decide +kernel
theorem dL_law_405 : decode cL_law 405 = .ok (.iload 4, 2) := by decide +kernel
theorem dL_law_407 : decode cL_law 407 = .ok (.iconst 3, 1) := by decide +kernel
theorem dL_law_408 : decode cL_law 408 = .ok (.iadd, 1) := by decide +kernel
theorem dL_law_409 : decode cL_law 409 = .ok (.iaload, 1) := by decide +kernel
theorem dL_law_410 : decode cL_law 410 = .ok (.i2l, 1) := by decide +kernel
theorem dL_law_411 : decode cL_law 411 = .ok (.ldc2_w 73, 3) := by decide +kernel
theorem dL_law_414 : decode cL_law 414 = .ok (.land, 1) := by decide +kernel
theorem dL_law_415 : decode cL_law 415 = .ok (.lor, 1) := by decide +kernel
theorem dL_law_416 : decode cL_law 416 = .ok (.invokevirtual 86, 3) := by decide +kernel
theorem dL_law_419 : decode cL_law 419 = .ok (.lstore 6, 2) := by decide +kernel
theorem dL_law_421 : decode cL_law 421 = .ok (.aload_n 2, 1) := by decide +kernel
theorem dL_law_422 : decode cL_law 422 = .ok (.invokevirtual 69, 3) := by decide +kernel
theorem dL_law_425 : decode cL_law 425 = .ok (.iload 5, 2) := by decide +kernel
theorem dL_law_427 : decode cL_law 427 = .ok (.if_icmp .eq 5, 3) := by decide +kernel
theorem dL_law_430 : decode cL_law 430 = .ok (.iconst 0, 1) := by decide +kernel
theorem dL_law_431 : decode cL_law 431 = .ok (.ireturn, 1) := by decide +kernel
theorem dL_law_432 : decode cL_law 432 = .ok (.iload 5, 2) := by decide +kernel
theorem dL_law_434 : decode cL_law 434 = .ok (.ifCond .ne 14, 3) := by decide +kernel
theorem dL_law_437 : decode cL_law 437 = .ok (.aload_n 3, 1) := by decide +kernel
theorem dL_law_438 : decode cL_law 438 = .ok (.iconst 0, 1) := by decide +kernel
theorem dL_law_439 : decode cL_law 439 = .ok (.laload, 1) := by decide +kernel
theorem dL_law_440 : decode cL_law 440 = .ok (.lload 6, 2) := by decide +kernel
theorem dL_law_442 : decode cL_law 442 = .ok (.lcmp, 1) := by decide +kernel
theorem dL_law_443 : decode cL_law 443 = .ok (.ifCond .eq 5, 3) := by decide +kernel
theorem dL_law_446 : decode cL_law 446 = .ok (.iconst 0, 1) := by decide +kernel
theorem dL_law_447 : decode cL_law 447 = .ok (.ireturn, 1) := by decide +kernel
theorem dL_law_448 : decode cL_law 448 = .ok (.goto 536, 3) := by decide +kernel
theorem dL_law_451 : decode cL_law 451 = .ok (.aload_n 1, 1) := by decide +kernel
theorem dL_law_452 : decode cL_law 452 = .ok (.aload_n 0, 1) := by decide +kernel
theorem dL_law_453 : decode cL_law 453 = .ok (.iload 4, 2) := by decide +kernel
theorem dL_law_455 : decode cL_law 455 = .ok (.iconst 1, 1) := by decide +kernel
theorem dL_law_456 : decode cL_law 456 = .ok (.iadd, 1) := by decide +kernel
theorem dL_law_457 : decode cL_law 457 = .ok (.iaload, 1) := by decide +kernel
theorem dL_law_458 : decode cL_law 458 = .ok (.aload_n 0, 1) := by decide +kernel
theorem dL_law_459 : decode cL_law 459 = .ok (.iload 4, 2) := by decide +kernel
theorem dL_law_461 : decode cL_law 461 = .ok (.iconst 2, 1) := by decide +kernel
theorem dL_law_462 : decode cL_law 462 = .ok (.iadd, 1) := by decide +kernel
theorem dL_law_463 : decode cL_law 463 = .ok (.iaload, 1) := by decide +kernel
theorem dL_law_464 : decode cL_law 464 = .ok (.aload_n 3, 1) := by decide +kernel
theorem dL_law_465 : decode cL_law 465 = .ok (.invokestatic 87, 3) := by decide +kernel
theorem dL_law_468 : decode cL_law 468 = .ok (.istore 5, 2) := by decide +kernel
theorem dL_law_470 : decode cL_law 470 = .ok (.aload_n 2, 1) := by decide +kernel
theorem dL_law_471 : decode cL_law 471 = .ok (.aload_n 0, 1) := by decide +kernel
theorem dL_law_472 : decode cL_law 472 = .ok (.iload 4, 2) := by decide +kernel
theorem dL_law_474 : decode cL_law 474 = .ok (.iconst 1, 1) := by decide +kernel
theorem dL_law_475 : decode cL_law 475 = .ok (.iadd, 1) := by decide +kernel
theorem dL_law_476 : decode cL_law 476 = .ok (.iaload, 1) := by decide +kernel
theorem dL_law_477 : decode cL_law 477 = .ok (.aload_n 0, 1) := by decide +kernel
theorem dL_law_478 : decode cL_law 478 = .ok (.iload 4, 2) := by decide +kernel
theorem dL_law_480 : decode cL_law 480 = .ok (.iconst 2, 1) := by decide +kernel
theorem dL_law_481 : decode cL_law 481 = .ok (.iadd, 1) := by decide +kernel
theorem dL_law_482 : decode cL_law 482 = .ok (.iaload, 1) := by decide +kernel
theorem dL_law_483 : decode cL_law 483 = .ok (.invokevirtual 90, 3) := by decide +kernel
theorem dL_law_486 : decode cL_law 486 = .ok (.lstore 6, 2) := by decide +kernel
theorem dL_law_488 : decode cL_law 488 = .ok (.aload_n 2, 1) := by decide +kernel
theorem dL_law_489 : decode cL_law 489 = .ok (.invokevirtual 69, 3) := by decide +kernel
theorem dL_law_492 : decode cL_law 492 = .ok (.iload 5, 2) := by decide +kernel
theorem dL_law_494 : decode cL_law 494 = .ok (.if_icmp .eq 5, 3) := by decide +kernel
theorem dL_law_497 : decode cL_law 497 = .ok (.iconst 0, 1) := by decide +kernel
theorem dL_law_498 : decode cL_law 498 = .ok (.ireturn, 1) := by decide +kernel
theorem dL_law_499 : decode cL_law 499 = .ok (.iload 5, 2) := by decide +kernel
theorem dL_law_501 : decode cL_law 501 = .ok (.ifCond .ne 14, 3) := by decide +kernel
theorem dL_law_504 : decode cL_law 504 = .ok (.aload_n 3, 1) := by decide +kernel
theorem dL_law_505 : decode cL_law 505 = .ok (.iconst 0, 1) := by decide +kernel
theorem dL_law_506 : decode cL_law 506 = .ok (.laload, 1) := by decide +kernel
theorem dL_law_507 : decode cL_law 507 = .ok (.lload 6, 2) := by decide +kernel
theorem dL_law_509 : decode cL_law 509 = .ok (.lcmp, 1) := by decide +kernel
theorem dL_law_510 : decode cL_law 510 = .ok (.ifCond .eq 5, 3) := by decide +kernel
theorem dL_law_513 : decode cL_law 513 = .ok (.iconst 0, 1) := by decide +kernel
theorem dL_law_514 : decode cL_law 514 = .ok (.ireturn, 1) := by decide +kernel
theorem dL_law_515 : decode cL_law 515 = .ok (.goto 469, 3) := by decide +kernel
theorem dL_law_518 : decode cL_law 518 = .ok (.aload_n 1, 1) := by decide +kernel
theorem dL_law_519 : decode cL_law 519 = .ok (.aload_n 0, 1) := by decide +kernel
theorem dL_law_520 : decode cL_law 520 = .ok (.iload 4, 2) := by decide +kernel
theorem dL_law_522 : decode cL_law 522 = .ok (.iconst 1, 1) := by decide +kernel
theorem dL_law_523 : decode cL_law 523 = .ok (.iadd, 1) := by decide +kernel
theorem dL_law_524 : decode cL_law 524 = .ok (.iaload, 1) := by decide +kernel
theorem dL_law_525 : decode cL_law 525 = .ok (.aload_n 0, 1) := by decide +kernel
theorem dL_law_526 : decode cL_law 526 = .ok (.iload 4, 2) := by decide +kernel
theorem dL_law_528 : decode cL_law 528 = .ok (.iconst 2, 1) := by decide +kernel
theorem dL_law_529 : decode cL_law 529 = .ok (.iadd, 1) := by decide +kernel
theorem dL_law_530 : decode cL_law 530 = .ok (.iaload, 1) := by decide +kernel
theorem dL_law_531 : decode cL_law 531 = .ok (.aload_n 3, 1) := by decide +kernel
theorem dL_law_532 : decode cL_law 532 = .ok (.invokestatic 91, 3) := by decide +kernel
theorem dL_law_535 : decode cL_law 535 = .ok (.istore 5, 2) := by decide +kernel
theorem dL_law_537 : decode cL_law 537 = .ok (.aload_n 2, 1) := by decide +kernel
theorem dL_law_538 : decode cL_law 538 = .ok (.aload_n 0, 1) := by decide +kernel
theorem dL_law_539 : decode cL_law 539 = .ok (.iload 4, 2) := by decide +kernel
theorem dL_law_541 : decode cL_law 541 = .ok (.iconst 1, 1) := by decide +kernel
theorem dL_law_542 : decode cL_law 542 = .ok (.iadd, 1) := by decide +kernel
theorem dL_law_543 : decode cL_law 543 = .ok (.iaload, 1) := by decide +kernel
theorem dL_law_544 : decode cL_law 544 = .ok (.aload_n 0, 1) := by decide +kernel
theorem dL_law_545 : decode cL_law 545 = .ok (.iload 4, 2) := by decide +kernel
theorem dL_law_547 : decode cL_law 547 = .ok (.iconst 2, 1) := by decide +kernel
theorem dL_law_548 : decode cL_law 548 = .ok (.iadd, 1) := by decide +kernel
theorem dL_law_549 : decode cL_law 549 = .ok (.iaload, 1) := by decide +kernel
theorem dL_law_550 : decode cL_law 550 = .ok (.invokevirtual 93, 3) := by decide +kernel
theorem dL_law_553 : decode cL_law 553 = .ok (.lstore 6, 2) := by decide +kernel
theorem dL_law_555 : decode cL_law 555 = .ok (.aload_n 2, 1) := by decide +kernel
theorem dL_law_556 : decode cL_law 556 = .ok (.invokevirtual 69, 3) := by decide +kernel
theorem dL_law_559 : decode cL_law 559 = .ok (.iload 5, 2) := by decide +kernel
theorem dL_law_561 : decode cL_law 561 = .ok (.if_icmp .eq 5, 3) := by decide +kernel
theorem dL_law_564 : decode cL_law 564 = .ok (.iconst 0, 1) := by decide +kernel
theorem dL_law_565 : decode cL_law 565 = .ok (.ireturn, 1) := by decide +kernel
theorem dL_law_566 : decode cL_law 566 = .ok (.iload 5, 2) := by decide +kernel
theorem dL_law_568 : decode cL_law 568 = .ok (.ifCond .ne 14, 3) := by decide +kernel
theorem dL_law_571 : decode cL_law 571 = .ok (.aload_n 3, 1) := by decide +kernel
theorem dL_law_572 : decode cL_law 572 = .ok (.iconst 0, 1) := by decide +kernel
theorem dL_law_573 : decode cL_law 573 = .ok (.laload, 1) := by decide +kernel
theorem dL_law_574 : decode cL_law 574 = .ok (.lload 6, 2) := by decide +kernel
theorem dL_law_576 : decode cL_law 576 = .ok (.lcmp, 1) := by decide +kernel
theorem dL_law_577 : decode cL_law 577 = .ok (.ifCond .eq 5, 3) := by decide +kernel
theorem dL_law_580 : decode cL_law 580 = .ok (.iconst 0, 1) := by decide +kernel
theorem dL_law_581 : decode cL_law 581 = .ok (.ireturn, 1) := by decide +kernel
theorem dL_law_582 : decode cL_law 582 = .ok (.goto 402, 3) := by decide +kernel
theorem dL_law_585 : decode cL_law 585 = .ok (.aload_n 1, 1) := by decide +kernel
theorem dL_law_586 : decode cL_law 586 = .ok (.aload_n 0, 1) := by decide +kernel
theorem dL_law_587 : decode cL_law 587 = .ok (.iload 4, 2) := by decide +kernel
theorem dL_law_589 : decode cL_law 589 = .ok (.iconst 1, 1) := by decide +kernel
theorem dL_law_590 : decode cL_law 590 = .ok (.iadd, 1) := by decide +kernel
theorem dL_law_591 : decode cL_law 591 = .ok (.iaload, 1) := by decide +kernel
theorem dL_law_592 : decode cL_law 592 = .ok (.aload_n 3, 1) := by decide +kernel
theorem dL_law_593 : decode cL_law 593 = .ok (.invokestatic 94, 3) := by decide +kernel
theorem dL_law_596 : decode cL_law 596 = .ok (.istore 5, 2) := by decide +kernel
theorem dL_law_598 : decode cL_law 598 = .ok (.aload_n 2, 1) := by decide +kernel
theorem dL_law_599 : decode cL_law 599 = .ok (.aload_n 0, 1) := by decide +kernel
theorem dL_law_600 : decode cL_law 600 = .ok (.iload 4, 2) := by decide +kernel
theorem dL_law_602 : decode cL_law 602 = .ok (.iconst 1, 1) := by decide +kernel
theorem dL_law_603 : decode cL_law 603 = .ok (.iadd, 1) := by decide +kernel
theorem dL_law_604 : decode cL_law 604 = .ok (.iaload, 1) := by decide +kernel
theorem dL_law_605 : decode cL_law 605 = .ok (.invokevirtual 96, 3) := by decide +kernel
theorem dL_law_608 : decode cL_law 608 = .ok (.istore 6, 2) := by decide +kernel
theorem dL_law_610 : decode cL_law 610 = .ok (.aload_n 2, 1) := by decide +kernel
theorem dL_law_611 : decode cL_law 611 = .ok (.invokevirtual 69, 3) := by decide +kernel
theorem dL_law_614 : decode cL_law 614 = .ok (.iload 5, 2) := by decide +kernel
theorem dL_law_616 : decode cL_law 616 = .ok (.if_icmp .eq 5, 3) := by decide +kernel
theorem dL_law_619 : decode cL_law 619 = .ok (.iconst 0, 1) := by decide +kernel
theorem dL_law_620 : decode cL_law 620 = .ok (.ireturn, 1) := by decide +kernel
theorem dL_law_621 : decode cL_law 621 = .ok (.iload 5, 2) := by decide +kernel
theorem dL_law_623 : decode cL_law 623 = .ok (.ifCond .ne 15, 3) := by decide +kernel
theorem dL_law_626 : decode cL_law 626 = .ok (.aload_n 3, 1) := by decide +kernel
theorem dL_law_627 : decode cL_law 627 = .ok (.iconst 0, 1) := by decide +kernel
theorem dL_law_628 : decode cL_law 628 = .ok (.laload, 1) := by decide +kernel
theorem dL_law_629 : decode cL_law 629 = .ok (.iload 6, 2) := by decide +kernel
theorem dL_law_631 : decode cL_law 631 = .ok (.i2l, 1) := by decide +kernel
theorem dL_law_632 : decode cL_law 632 = .ok (.lcmp, 1) := by decide +kernel
theorem dL_law_633 : decode cL_law 633 = .ok (.ifCond .eq 5, 3) := by decide +kernel
theorem dL_law_636 : decode cL_law 636 = .ok (.iconst 0, 1) := by decide +kernel
theorem dL_law_637 : decode cL_law 637 = .ok (.ireturn, 1) := by decide +kernel
theorem dL_law_638 : decode cL_law 638 = .ok (.goto 346, 3) := by decide +kernel
theorem dL_law_641 : decode cL_law 641 = .ok (.aload_n 1, 1) := by decide +kernel
theorem dL_law_642 : decode cL_law 642 = .ok (.aload_n 0, 1) := by decide +kernel
theorem dL_law_643 : decode cL_law 643 = .ok (.iload 4, 2) := by decide +kernel
theorem dL_law_645 : decode cL_law 645 = .ok (.iconst 1, 1) := by decide +kernel
theorem dL_law_646 : decode cL_law 646 = .ok (.iadd, 1) := by decide +kernel
theorem dL_law_647 : decode cL_law 647 = .ok (.iaload, 1) := by decide +kernel
theorem dL_law_648 : decode cL_law 648 = .ok (.aload_n 0, 1) := by decide +kernel
theorem dL_law_649 : decode cL_law 649 = .ok (.iload 4, 2) := by decide +kernel
theorem dL_law_651 : decode cL_law 651 = .ok (.iconst 2, 1) := by decide +kernel
theorem dL_law_652 : decode cL_law 652 = .ok (.iadd, 1) := by decide +kernel
theorem dL_law_653 : decode cL_law 653 = .ok (.iaload, 1) := by decide +kernel
theorem dL_law_654 : decode cL_law 654 = .ok (.i2l, 1) := by decide +kernel
theorem dL_law_655 : decode cL_law 655 = .ok (.bipush 32, 2) := by decide +kernel
theorem dL_law_657 : decode cL_law 657 = .ok (.lshl, 1) := by decide +kernel
theorem dL_law_658 : decode cL_law 658 = .ok (.aload_n 0, 1) := by decide +kernel
theorem dL_law_659 : decode cL_law 659 = .ok (.iload 4, 2) := by decide +kernel
theorem dL_law_661 : decode cL_law 661 = .ok (.iconst 3, 1) := by decide +kernel
theorem dL_law_662 : decode cL_law 662 = .ok (.iadd, 1) := by decide +kernel
theorem dL_law_663 : decode cL_law 663 = .ok (.iaload, 1) := by decide +kernel
theorem dL_law_664 : decode cL_law 664 = .ok (.i2l, 1) := by decide +kernel
theorem dL_law_665 : decode cL_law 665 = .ok (.ldc2_w 73, 3) := by decide +kernel
theorem dL_law_668 : decode cL_law 668 = .ok (.land, 1) := by decide +kernel
theorem dL_law_669 : decode cL_law 669 = .ok (.lor, 1) := by decide +kernel
theorem dL_law_670 : decode cL_law 670 = .ok (.aload_n 0, 1) := by decide +kernel
theorem dL_law_671 : decode cL_law 671 = .ok (.iload 4, 2) := by decide +kernel
theorem dL_law_673 : decode cL_law 673 = .ok (.iconst 4, 1) := by decide +kernel
theorem dL_law_674 : decode cL_law 674 = .ok (.iadd, 1) := by decide +kernel
theorem dL_law_675 : decode cL_law 675 = .ok (.iaload, 1) := by decide +kernel
theorem dL_law_676 : decode cL_law 676 = .ok (.i2l, 1) := by decide +kernel
theorem dL_law_677 : decode cL_law 677 = .ok (.bipush 32, 2) := by decide +kernel
theorem dL_law_679 : decode cL_law 679 = .ok (.lshl, 1) := by decide +kernel
theorem dL_law_680 : decode cL_law 680 = .ok (.aload_n 0, 1) := by decide +kernel
theorem dL_law_681 : decode cL_law 681 = .ok (.iload 4, 2) := by decide +kernel
theorem dL_law_683 : decode cL_law 683 = .ok (.iconst 5, 1) := by decide +kernel
theorem dL_law_684 : decode cL_law 684 = .ok (.iadd, 1) := by decide +kernel
theorem dL_law_685 : decode cL_law 685 = .ok (.iaload, 1) := by decide +kernel
theorem dL_law_686 : decode cL_law 686 = .ok (.i2l, 1) := by decide +kernel
theorem dL_law_687 : decode cL_law 687 = .ok (.ldc2_w 73, 3) := by decide +kernel
theorem dL_law_690 : decode cL_law 690 = .ok (.land, 1) := by decide +kernel
theorem dL_law_691 : decode cL_law 691 = .ok (.lor, 1) := by decide +kernel
theorem dL_law_692 : decode cL_law 692 = .ok (.aload_n 3, 1) := by decide +kernel
theorem dL_law_693 : decode cL_law 693 = .ok (.invokestatic 97, 3) := by decide +kernel
theorem dL_law_696 : decode cL_law 696 = .ok (.istore 5, 2) := by decide +kernel
theorem dL_law_698 : decode cL_law 698 = .ok (.aload_n 2, 1) := by decide +kernel
theorem dL_law_699 : decode cL_law 699 = .ok (.aload_n 0, 1) := by decide +kernel
theorem dL_law_700 : decode cL_law 700 = .ok (.iload 4, 2) := by decide +kernel
theorem dL_law_702 : decode cL_law 702 = .ok (.iconst 1, 1) := by decide +kernel
theorem dL_law_703 : decode cL_law 703 = .ok (.iadd, 1) := by decide +kernel
theorem dL_law_704 : decode cL_law 704 = .ok (.iaload, 1) := by decide +kernel
theorem dL_law_705 : decode cL_law 705 = .ok (.aload_n 0, 1) := by decide +kernel
theorem dL_law_706 : decode cL_law 706 = .ok (.iload 4, 2) := by decide +kernel
theorem dL_law_708 : decode cL_law 708 = .ok (.iconst 2, 1) := by decide +kernel
theorem dL_law_709 : decode cL_law 709 = .ok (.iadd, 1) := by decide +kernel
theorem dL_law_710 : decode cL_law 710 = .ok (.iaload, 1) := by decide +kernel
theorem dL_law_711 : decode cL_law 711 = .ok (.i2l, 1) := by decide +kernel
theorem dL_law_712 : decode cL_law 712 = .ok (.bipush 32, 2) := by decide +kernel
theorem dL_law_714 : decode cL_law 714 = .ok (.lshl, 1) := by decide +kernel
theorem dL_law_715 : decode cL_law 715 = .ok (.aload_n 0, 1) := by decide +kernel
theorem dL_law_716 : decode cL_law 716 = .ok (.iload 4, 2) := by decide +kernel
theorem dL_law_718 : decode cL_law 718 = .ok (.iconst 3, 1) := by decide +kernel
theorem dL_law_719 : decode cL_law 719 = .ok (.iadd, 1) := by decide +kernel
theorem dL_law_720 : decode cL_law 720 = .ok (.iaload, 1) := by decide +kernel
theorem dL_law_721 : decode cL_law 721 = .ok (.i2l, 1) := by decide +kernel
theorem dL_law_722 : decode cL_law 722 = .ok (.ldc2_w 73, 3) := by decide +kernel
theorem dL_law_725 : decode cL_law 725 = .ok (.land, 1) := by decide +kernel
theorem dL_law_726 : decode cL_law 726 = .ok (.lor, 1) := by decide +kernel
theorem dL_law_727 : decode cL_law 727 = .ok (.aload_n 0, 1) := by decide +kernel
theorem dL_law_728 : decode cL_law 728 = .ok (.iload 4, 2) := by decide +kernel
theorem dL_law_730 : decode cL_law 730 = .ok (.iconst 4, 1) := by decide +kernel
theorem dL_law_731 : decode cL_law 731 = .ok (.iadd, 1) := by decide +kernel
theorem dL_law_732 : decode cL_law 732 = .ok (.iaload, 1) := by decide +kernel
theorem dL_law_733 : decode cL_law 733 = .ok (.i2l, 1) := by decide +kernel
theorem dL_law_734 : decode cL_law 734 = .ok (.bipush 32, 2) := by decide +kernel
theorem dL_law_736 : decode cL_law 736 = .ok (.lshl, 1) := by decide +kernel
theorem dL_law_737 : decode cL_law 737 = .ok (.aload_n 0, 1) := by decide +kernel
theorem dL_law_738 : decode cL_law 738 = .ok (.iload 4, 2) := by decide +kernel
theorem dL_law_740 : decode cL_law 740 = .ok (.iconst 5, 1) := by decide +kernel
theorem dL_law_741 : decode cL_law 741 = .ok (.iadd, 1) := by decide +kernel
theorem dL_law_742 : decode cL_law 742 = .ok (.iaload, 1) := by decide +kernel
theorem dL_law_743 : decode cL_law 743 = .ok (.i2l, 1) := by decide +kernel
theorem dL_law_744 : decode cL_law 744 = .ok (.ldc2_w 73, 3) := by decide +kernel
theorem dL_law_747 : decode cL_law 747 = .ok (.land, 1) := by decide +kernel
theorem dL_law_748 : decode cL_law 748 = .ok (.lor, 1) := by decide +kernel
theorem dL_law_749 : decode cL_law 749 = .ok (.invokevirtual 100, 3) := by decide +kernel
theorem dL_law_752 : decode cL_law 752 = .ok (.istore 6, 2) := by decide +kernel
theorem dL_law_754 : decode cL_law 754 = .ok (.aload_n 2, 1) := by decide +kernel
theorem dL_law_755 : decode cL_law 755 = .ok (.invokevirtual 69, 3) := by decide +kernel
theorem dL_law_758 : decode cL_law 758 = .ok (.iload 5, 2) := by decide +kernel
theorem dL_law_760 : decode cL_law 760 = .ok (.if_icmp .eq 5, 3) := by decide +kernel
theorem dL_law_763 : decode cL_law 763 = .ok (.iconst 0, 1) := by decide +kernel
theorem dL_law_764 : decode cL_law 764 = .ok (.ireturn, 1) := by decide +kernel
theorem dL_law_765 : decode cL_law 765 = .ok (.iload 5, 2) := by decide +kernel
theorem dL_law_767 : decode cL_law 767 = .ok (.ifCond .ne 22, 3) := by decide +kernel
theorem dL_law_770 : decode cL_law 770 = .ok (.aload_n 3, 1) := by decide +kernel
theorem dL_law_771 : decode cL_law 771 = .ok (.iconst 0, 1) := by decide +kernel
theorem dL_law_772 : decode cL_law 772 = .ok (.laload, 1) := by decide +kernel
theorem dL_law_773 : decode cL_law 773 = .ok (.iload 6, 2) := by decide +kernel
theorem dL_law_775 : decode cL_law 775 = .ok (.ifCond .eq 7, 3) := by decide +kernel
theorem dL_law_778 : decode cL_law 778 = .ok (.lconst 1, 1) := by decide +kernel
theorem dL_law_779 : decode cL_law 779 = .ok (.goto 4, 3) := by decide +kernel
theorem dL_law_782 : decode cL_law 782 = .ok (.lconst 0, 1) := by decide +kernel
theorem dL_law_783 : decode cL_law 783 = .ok (.lcmp, 1) := by decide +kernel
theorem dL_law_784 : decode cL_law 784 = .ok (.ifCond .eq 5, 3) := by decide +kernel
theorem dL_law_787 : decode cL_law 787 = .ok (.iconst 0, 1) := by decide +kernel
theorem dL_law_788 : decode cL_law 788 = .ok (.ireturn, 1) := by decide +kernel
theorem dL_law_789 : decode cL_law 789 = .ok (.goto 195, 3) := by decide +kernel
theorem dL_law_792 : decode cL_law 792 = .ok (.aload_n 1, 1) := by decide +kernel
theorem dL_law_793 : decode cL_law 793 = .ok (.aload_n 0, 1) := by decide +kernel
theorem dL_law_794 : decode cL_law 794 = .ok (.iload 4, 2) := by decide +kernel
theorem dL_law_796 : decode cL_law 796 = .ok (.iconst 1, 1) := by decide +kernel
theorem dL_law_797 : decode cL_law 797 = .ok (.iadd, 1) := by decide +kernel
theorem dL_law_798 : decode cL_law 798 = .ok (.iaload, 1) := by decide +kernel
theorem dL_law_799 : decode cL_law 799 = .ok (.aload_n 3, 1) := by decide +kernel
theorem dL_law_800 : decode cL_law 800 = .ok (.invokestatic 101, 3) := by decide +kernel
theorem dL_law_803 : decode cL_law 803 = .ok (.istore 5, 2) := by decide +kernel
theorem dL_law_805 : decode cL_law 805 = .ok (.aload_n 2, 1) := by decide +kernel
theorem dL_law_806 : decode cL_law 806 = .ok (.aload_n 0, 1) := by decide +kernel
theorem dL_law_807 : decode cL_law 807 = .ok (.iload 4, 2) := by decide +kernel
theorem dL_law_809 : decode cL_law 809 = .ok (.iconst 1, 1) := by decide +kernel
theorem dL_law_810 : decode cL_law 810 = .ok (.iadd, 1) := by decide +kernel
theorem dL_law_811 : decode cL_law 811 = .ok (.iaload, 1) := by decide +kernel
theorem dL_law_812 : decode cL_law 812 = .ok (.invokevirtual 103, 3) := by decide +kernel
theorem dL_law_815 : decode cL_law 815 = .ok (.lstore 6, 2) := by decide +kernel
theorem dL_law_817 : decode cL_law 817 = .ok (.aload_n 2, 1) := by decide +kernel
theorem dL_law_818 : decode cL_law 818 = .ok (.invokevirtual 69, 3) := by decide +kernel
theorem dL_law_821 : decode cL_law 821 = .ok (.iload 5, 2) := by decide +kernel
theorem dL_law_823 : decode cL_law 823 = .ok (.if_icmp .eq 5, 3) := by decide +kernel
theorem dL_law_826 : decode cL_law 826 = .ok (.iconst 0, 1) := by decide +kernel
theorem dL_law_827 : decode cL_law 827 = .ok (.ireturn, 1) := by decide +kernel
theorem dL_law_828 : decode cL_law 828 = .ok (.iload 5, 2) := by decide +kernel
theorem dL_law_830 : decode cL_law 830 = .ok (.ifCond .ne 14, 3) := by decide +kernel
theorem dL_law_833 : decode cL_law 833 = .ok (.aload_n 3, 1) := by decide +kernel
theorem dL_law_834 : decode cL_law 834 = .ok (.iconst 0, 1) := by decide +kernel
theorem dL_law_835 : decode cL_law 835 = .ok (.laload, 1) := by decide +kernel
theorem dL_law_836 : decode cL_law 836 = .ok (.lload 6, 2) := by decide +kernel
theorem dL_law_838 : decode cL_law 838 = .ok (.lcmp, 1) := by decide +kernel
theorem dL_law_839 : decode cL_law 839 = .ok (.ifCond .eq 5, 3) := by decide +kernel
theorem dL_law_842 : decode cL_law 842 = .ok (.iconst 0, 1) := by decide +kernel
theorem dL_law_843 : decode cL_law 843 = .ok (.ireturn, 1) := by decide +kernel
theorem dL_law_844 : decode cL_law 844 = .ok (.goto 140, 3) := by decide +kernel
theorem dL_law_847 : decode cL_law 847 = .ok (.aload_n 1, 1) := by decide +kernel
theorem dL_law_848 : decode cL_law 848 = .ok (.aload_n 0, 1) := by decide +kernel
theorem dL_law_849 : decode cL_law 849 = .ok (.iload 4, 2) := by decide +kernel
theorem dL_law_851 : decode cL_law 851 = .ok (.iconst 1, 1) := by decide +kernel
theorem dL_law_852 : decode cL_law 852 = .ok (.iadd, 1) := by decide +kernel
theorem dL_law_853 : decode cL_law 853 = .ok (.iaload, 1) := by decide +kernel
theorem dL_law_854 : decode cL_law 854 = .ok (.aload_n 3, 1) := by decide +kernel
theorem dL_law_855 : decode cL_law 855 = .ok (.invokestatic 104, 3) := by decide +kernel
theorem dL_law_858 : decode cL_law 858 = .ok (.istore 5, 2) := by decide +kernel
theorem dL_law_860 : decode cL_law 860 = .ok (.aload_n 2, 1) := by decide +kernel
theorem dL_law_861 : decode cL_law 861 = .ok (.aload_n 0, 1) := by decide +kernel
theorem dL_law_862 : decode cL_law 862 = .ok (.iload 4, 2) := by decide +kernel
theorem dL_law_864 : decode cL_law 864 = .ok (.iconst 1, 1) := by decide +kernel
theorem dL_law_865 : decode cL_law 865 = .ok (.iadd, 1) := by decide +kernel
theorem dL_law_866 : decode cL_law 866 = .ok (.iaload, 1) := by decide +kernel
theorem dL_law_867 : decode cL_law 867 = .ok (.invokevirtual 106, 3) := by decide +kernel
theorem dL_law_870 : decode cL_law 870 = .ok (.istore 6, 2) := by decide +kernel
theorem dL_law_872 : decode cL_law 872 = .ok (.aload_n 2, 1) := by decide +kernel
theorem dL_law_873 : decode cL_law 873 = .ok (.invokevirtual 69, 3) := by decide +kernel
theorem dL_law_876 : decode cL_law 876 = .ok (.iload 5, 2) := by decide +kernel
theorem dL_law_878 : decode cL_law 878 = .ok (.if_icmp .eq 5, 3) := by decide +kernel
theorem dL_law_881 : decode cL_law 881 = .ok (.iconst 0, 1) := by decide +kernel
theorem dL_law_882 : decode cL_law 882 = .ok (.ireturn, 1) := by decide +kernel
theorem dL_law_883 : decode cL_law 883 = .ok (.iload 5, 2) := by decide +kernel
theorem dL_law_885 : decode cL_law 885 = .ok (.ifCond .ne 15, 3) := by decide +kernel
theorem dL_law_888 : decode cL_law 888 = .ok (.aload_n 3, 1) := by decide +kernel
theorem dL_law_889 : decode cL_law 889 = .ok (.iconst 0, 1) := by decide +kernel
theorem dL_law_890 : decode cL_law 890 = .ok (.laload, 1) := by decide +kernel
theorem dL_law_891 : decode cL_law 891 = .ok (.iload 6, 2) := by decide +kernel
theorem dL_law_893 : decode cL_law 893 = .ok (.i2l, 1) := by decide +kernel
theorem dL_law_894 : decode cL_law 894 = .ok (.lcmp, 1) := by decide +kernel
theorem dL_law_895 : decode cL_law 895 = .ok (.ifCond .eq 5, 3) := by decide +kernel
theorem dL_law_898 : decode cL_law 898 = .ok (.iconst 0, 1) := by decide +kernel
theorem dL_law_899 : decode cL_law 899 = .ok (.ireturn, 1) := by decide +kernel
theorem dL_law_900 : decode cL_law 900 = .ok (.goto 84, 3) := by decide +kernel
theorem dL_law_903 : decode cL_law 903 = .ok (.aload_n 1, 1) := by decide +kernel
theorem dL_law_904 : decode cL_law 904 = .ok (.aload_n 0, 1) := by decide +kernel
theorem dL_law_905 : decode cL_law 905 = .ok (.iload 4, 2) := by decide +kernel
theorem dL_law_907 : decode cL_law 907 = .ok (.iconst 1, 1) := by decide +kernel
theorem dL_law_908 : decode cL_law 908 = .ok (.iadd, 1) := by decide +kernel
theorem dL_law_909 : decode cL_law 909 = .ok (.iaload, 1) := by decide +kernel
theorem dL_law_910 : decode cL_law 910 = .ok (.aload_n 3, 1) := by decide +kernel
theorem dL_law_911 : decode cL_law 911 = .ok (.invokestatic 107, 3) := by decide +kernel
theorem dL_law_914 : decode cL_law 914 = .ok (.istore 5, 2) := by decide +kernel
theorem dL_law_916 : decode cL_law 916 = .ok (.aload_n 2, 1) := by decide +kernel
theorem dL_law_917 : decode cL_law 917 = .ok (.aload_n 0, 1) := by decide +kernel
theorem dL_law_918 : decode cL_law 918 = .ok (.iload 4, 2) := by decide +kernel
theorem dL_law_920 : decode cL_law 920 = .ok (.iconst 1, 1) := by decide +kernel
theorem dL_law_921 : decode cL_law 921 = .ok (.iadd, 1) := by decide +kernel
theorem dL_law_922 : decode cL_law 922 = .ok (.iaload, 1) := by decide +kernel
theorem dL_law_923 : decode cL_law 923 = .ok (.invokevirtual 109, 3) := by decide +kernel
theorem dL_law_926 : decode cL_law 926 = .ok (.istore 6, 2) := by decide +kernel
theorem dL_law_928 : decode cL_law 928 = .ok (.aload_n 2, 1) := by decide +kernel
theorem dL_law_929 : decode cL_law 929 = .ok (.invokevirtual 69, 3) := by decide +kernel
theorem dL_law_932 : decode cL_law 932 = .ok (.iload 5, 2) := by decide +kernel
theorem dL_law_934 : decode cL_law 934 = .ok (.if_icmp .eq 5, 3) := by decide +kernel
theorem dL_law_937 : decode cL_law 937 = .ok (.iconst 0, 1) := by decide +kernel
theorem dL_law_938 : decode cL_law 938 = .ok (.ireturn, 1) := by decide +kernel
theorem dL_law_939 : decode cL_law 939 = .ok (.iload 5, 2) := by decide +kernel
theorem dL_law_941 : decode cL_law 941 = .ok (.ifCond .ne 15, 3) := by decide +kernel
theorem dL_law_944 : decode cL_law 944 = .ok (.aload_n 3, 1) := by decide +kernel
theorem dL_law_945 : decode cL_law 945 = .ok (.iconst 0, 1) := by decide +kernel
theorem dL_law_946 : decode cL_law 946 = .ok (.laload, 1) := by decide +kernel
theorem dL_law_947 : decode cL_law 947 = .ok (.iload 6, 2) := by decide +kernel
theorem dL_law_949 : decode cL_law 949 = .ok (.i2l, 1) := by decide +kernel
theorem dL_law_950 : decode cL_law 950 = .ok (.lcmp, 1) := by decide +kernel
theorem dL_law_951 : decode cL_law 951 = .ok (.ifCond .eq 5, 3) := by decide +kernel
theorem dL_law_954 : decode cL_law 954 = .ok (.iconst 0, 1) := by decide +kernel
theorem dL_law_955 : decode cL_law 955 = .ok (.ireturn, 1) := by decide +kernel
theorem dL_law_956 : decode cL_law 956 = .ok (.goto 28, 3) := by decide +kernel
theorem dL_law_959 : decode cL_law 959 = .ok (.aload_n 1, 1) := by decide +kernel
theorem dL_law_960 : decode cL_law 960 = .ok (.aload_n 0, 1) := by decide +kernel
theorem dL_law_961 : decode cL_law 961 = .ok (.iload 4, 2) := by decide +kernel
theorem dL_law_963 : decode cL_law 963 = .ok (.iconst 1, 1) := by decide +kernel
theorem dL_law_964 : decode cL_law 964 = .ok (.iadd, 1) := by decide +kernel
theorem dL_law_965 : decode cL_law 965 = .ok (.iaload, 1) := by decide +kernel
theorem dL_law_966 : decode cL_law 966 = .ok (.invokevirtual 110, 3) := by decide +kernel
theorem dL_law_969 : decode cL_law 969 = .ok (.aload_n 2, 1) := by decide +kernel
theorem dL_law_970 : decode cL_law 970 = .ok (.aload_n 0, 1) := by decide +kernel
theorem dL_law_971 : decode cL_law 971 = .ok (.iload 4, 2) := by decide +kernel
theorem dL_law_973 : decode cL_law 973 = .ok (.iconst 1, 1) := by decide +kernel
theorem dL_law_974 : decode cL_law 974 = .ok (.iadd, 1) := by decide +kernel
theorem dL_law_975 : decode cL_law 975 = .ok (.iaload, 1) := by decide +kernel
theorem dL_law_976 : decode cL_law 976 = .ok (.invokevirtual 113, 3) := by decide +kernel
theorem dL_law_979 : decode cL_law 979 = .ok (.if_icmp .eq 5, 3) := by decide +kernel
theorem dL_law_982 : decode cL_law 982 = .ok (.iconst 0, 1) := by decide +kernel
theorem dL_law_983 : decode cL_law 983 = .ok (.ireturn, 1) := by decide +kernel
theorem dL_law_984 : decode cL_law 984 = .ok (.iinc 4 6, 3) := by decide +kernel
theorem dL_law_987 : decode cL_law 987 = .ok (.goto (-964), 3) := by decide +kernel
theorem dL_law_990 : decode cL_law 990 = .ok (.iconst 1, 1) := by decide +kernel
theorem dL_law_991 : decode cL_law 991 = .ok (.ireturn, 1) := by decide +kernel
