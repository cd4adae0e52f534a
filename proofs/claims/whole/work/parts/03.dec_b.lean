theorem dX4_limits_20 : decode cX4_limits 20 = .ok (.lstore 8, 2) := by decide +kernel
theorem dX4_limits_22 : decode cX4_limits 22 = .ok (.aload 7, 2) := by decide +kernel
theorem dX4_limits_24 : decode cX4_limits 24 = .ok (.lload 4, 2) := by decide +kernel
theorem dX4_limits_26 : decode cX4_limits 26 = .ok (.invokevirtual 57, 3) := by decide +kernel
theorem dX4_limits_29 : decode cX4_limits 29 = .ok (.lstore 10, 2) := by decide +kernel
theorem dX4_limits_31 : decode cX4_limits 31 = .ok (.aload 7, 2) := by decide +kernel
theorem dX4_limits_33 : decode cX4_limits 33 = .ok (.lload 8, 2) := by decide +kernel
theorem dX4_limits_35 : decode cX4_limits 35 = .ok (.invokevirtual 64, 3) := by decide +kernel
theorem dX4_limits_38 : decode cX4_limits 38 = .ok (.ifCond .eq 13, 3) := by decide +kernel
theorem dX4_limits_41 : decode cX4_limits 41 = .ok (.aload 7, 2) := by decide +kernel
theorem dX4_limits_43 : decode cX4_limits 43 = .ok (.lload 10, 2) := by decide +kernel
theorem dX4_limits_45 : decode cX4_limits 45 = .ok (.invokevirtual 64, 3) := by decide +kernel
theorem dX4_limits_48 : decode cX4_limits 48 = .ok (.ifCond .ne 13, 3) := by decide +kernel
theorem dX4_limits_51 : decode cX4_limits 51 = .ok (.new 19, 3) := by decide +kernel
theorem dX4_limits_54 : decode cX4_limits 54 = .ok (.dup, 1) := by decide +kernel
theorem dX4_limits_55 : decode cX4_limits 55 = .ok (.ldc 153, 2) := by decide +kernel
theorem dX4_limits_57 : decode cX4_limits 57 = .ok (.invokespecial 23, 3) := by decide +kernel
theorem dX4_limits_60 : decode cX4_limits 60 = .ok (.athrow, 1) := by decide +kernel
theorem dX4_limits_61 : decode cX4_limits 61 = .ok (.aload 6, 2) := by decide +kernel
theorem dX4_limits_63 : decode cX4_limits 63 = .ok (.lload 8, 2) := by decide +kernel
theorem dX4_limits_65 : decode cX4_limits 65 = .ok (.putfield 155, 3) := by decide +kernel
theorem dX4_limits_68 : decode cX4_limits 68 = .ok (.aload 6, 2) := by decide +kernel
theorem dX4_limits_70 : decode cX4_limits 70 = .ok (.lload 10, 2) := by decide +kernel
theorem dX4_limits_72 : decode cX4_limits 72 = .ok (.putfield 158, 3) := by decide +kernel
theorem dX4_limits_75 : decode cX4_limits 75 = .ok (.aload 7, 2) := by decide +kernel
theorem dX4_limits_77 : decode cX4_limits 77 = .ok (.lload 8, 2) := by decide +kernel
theorem dX4_limits_79 : decode cX4_limits 79 = .ok (.lload 10, 2) := by decide +kernel
theorem dX4_limits_81 : decode cX4_limits 81 = .ok (.invokevirtual 161, 3) := by decide +kernel
theorem dX4_limits_84 : decode cX4_limits 84 = .ok (.ifCond .ne 7, 3) := by decide +kernel
theorem dX4_limits_87 : decode cX4_limits 87 = .ok (.iconst 1, 1) := by decide +kernel
theorem dX4_limits_88 : decode cX4_limits 88 = .ok (.goto 4, 3) := by decide +kernel
theorem dX4_limits_91 : decode cX4_limits 91 = .ok (.iconst 0, 1) := by decide +kernel
theorem dX4_limits_92 : decode cX4_limits 92 = .ok (.ireturn, 1) := by decide +kernel
theorem dX4_widest_0 : decode cX4_widest 0 = .ok (.iload_n 1, 1) := by decide +kernel
theorem dX4_widest_1 : decode cX4_widest 1 = .ok (.invokestatic 15, 3) := by decide +kernel
theorem dX4_widest_4 : decode cX4_widest 4 = .ok (.ifCond .ne 13, 3) := by decide +kernel
theorem dX4_widest_7 : decode cX4_widest 7 = .ok (.new 19, 3) := by decide +kernel
theorem dX4_widest_10 : decode cX4_widest 10 = .ok (.dup, 1) := by decide +kernel
theorem dX4_widest_11 : decode cX4_widest 11 = .ok (.ldc 21, 2) := by decide +kernel
theorem dX4_widest_13 : decode cX4_widest 13 = .ok (.invokespecial 23, 3) := by decide +kernel
theorem dX4_widest_16 : decode cX4_widest 16 = .ok (.athrow, 1) := by decide +kernel
theorem dX4_widest_17 : decode cX4_widest 17 = .ok (.iconst 0, 1) := by decide +kernel
theorem dX4_widest_18 : decode cX4_widest 18 = .ok (.istore_n 2, 1) := by decide +kernel
theorem dX4_widest_19 : decode cX4_widest 19 = .ok (.lconst 0, 1) := by decide +kernel
theorem dX4_widest_20 : decode cX4_widest 20 = .ok (.lstore_n 3, 1) := by decide +kernel
theorem dX4_widest_21 : decode cX4_widest 21 = .ok (.aload_n 0, 1) := by decide +kernel
theorem dX4_widest_22 : decode cX4_widest 22 = .ok (.getfield 11, 3) := by decide +kernel
theorem dX4_widest_25 : decode cX4_widest 25 = .ok (.astore 5, 2) := by decide +kernel
theorem dX4_widest_27 : decode cX4_widest 27 = .ok (.aload 5, 2) := by decide +kernel
theorem dX4_widest_29 : decode cX4_widest 29 = .ok (.arraylength, 1) := by decide +kernel
theorem dX4_widest_30 : decode cX4_widest 30 = .ok (.istore 6, 2) := by decide +kernel
theorem dX4_widest_32 : decode cX4_widest 32 = .ok (.iconst 0, 1) := by decide +kernel
theorem dX4_widest_33 : decode cX4_widest 33 = .ok (.istore 7, 2) := by decide +kernel
theorem dX4_widest_35 : decode cX4_widest 35 = .ok (.iload 7, 2) := by decide +kernel
theorem dX4_widest_37 : decode cX4_widest 37 = .ok (.iload 6, 2) := by decide +kernel
theorem dX4_widest_39 : decode cX4_widest 39 = .ok (.if_icmp .ge 67, 3) := by decide +kernel
theorem dX4_widest_42 : decode cX4_widest 42 = .ok (.aload 5, 2) := by decide +kernel
theorem dX4_widest_44 : decode cX4_widest 44 = .ok (.iload 7, 2) := by decide +kernel
theorem dX4_widest_46 : decode cX4_widest 46 = .ok (.aaload, 1) := by decide +kernel
theorem dX4_widest_47 : decode cX4_widest 47 = .ok (.astore 8, 2) := by decide +kernel
theorem dX4_widest_49 : decode cX4_widest 49 = .ok (.aload 8, 2) := by decide +kernel
theorem dX4_widest_51 : decode cX4_widest 51 = .ok (.ifnull 49, 3) := by decide +kernel
theorem dX4_widest_54 : decode cX4_widest 54 = .ok (.aload 8, 2) := by decide +kernel
theorem dX4_widest_56 : decode cX4_widest 56 = .ok (.getfield 85, 3) := by decide +kernel
theorem dX4_widest_59 : decode cX4_widest 59 = .ok (.iload_n 1, 1) := by decide +kernel
theorem dX4_widest_60 : decode cX4_widest 60 = .ok (.if_icmp .ne 40, 3) := by decide +kernel
theorem dX4_widest_63 : decode cX4_widest 63 = .ok (.aload 8, 2) := by decide +kernel
theorem dX4_widest_65 : decode cX4_widest 65 = .ok (.invokevirtual 131, 3) := by decide +kernel
theorem dX4_widest_68 : decode cX4_widest 68 = .ok (.ifCond .eq 32, 3) := by decide +kernel
theorem dX4_widest_71 : decode cX4_widest 71 = .ok (.iload_n 2, 1) := by decide +kernel
theorem dX4_widest_72 : decode cX4_widest 72 = .ok (.ifCond .eq 20, 3) := by decide +kernel
theorem dX4_widest_75 : decode cX4_widest 75 = .ok (.aload 8, 2) := by decide +kernel
theorem dX4_widest_77 : decode cX4_widest 77 = .ok (.getfield 46, 3) := by decide +kernel
theorem dX4_widest_80 : decode cX4_widest 80 = .ok (.lload_n 3, 1) := by decide +kernel
theorem dX4_widest_81 : decode cX4_widest 81 = .ok (.aload 8, 2) := by decide +kernel
theorem dX4_widest_83 : decode cX4_widest 83 = .ok (.getfield 143, 3) := by decide +kernel
theorem dX4_widest_86 : decode cX4_widest 86 = .ok (.invokevirtual 165, 3) := by decide +kernel
theorem dX4_widest_89 : decode cX4_widest 89 = .ok (.goto 8, 3) := by decide +kernel
theorem dX4_widest_92 : decode cX4_widest 92 = .ok (.aload 8, 2) := by decide +kernel
theorem dX4_widest_94 : decode cX4_widest 94 = .ok (.getfield 143, 3) := by decide +kernel
theorem dX4_widest_97 : decode cX4_widest 97 = .ok (.lstore_n 3, 1) := by decide +kernel
theorem dX4_widest_98 : decode cX4_widest 98 = .ok (.iconst 1, 1) := by decide +kernel
theorem dX4_widest_99 : decode cX4_widest 99 = .ok (.istore_n 2, 1) := by decide +kernel
theorem dX4_widest_100 : decode cX4_widest 100 = .ok (.iinc 7 1, 3) := by decide +kernel
theorem dX4_widest_103 : decode cX4_widest 103 = .ok (.goto (-68), 3) := by decide +kernel
theorem dX4_widest_106 : decode cX4_widest 106 = .ok (.iload_n 2, 1) := by decide +kernel
theorem dX4_widest_107 : decode cX4_widest 107 = .ok (.ifCond .ne 13, 3) := by decide +kernel
theorem dX4_widest_110 : decode cX4_widest 110 = .ok (.new 120, 3) := by decide +kernel
theorem dX4_widest_113 : decode cX4_widest 113 = .ok (.dup, 1) := by decide +kernel
theorem dX4_widest_114 : decode cX4_widest 114 = .ok (.ldc 169, 2) := by decide +kernel
theorem dX4_widest_116 : decode cX4_widest 116 = .ok (.invokespecial 124, 3) := by decide +kernel
theorem dX4_widest_119 : decode cX4_widest 119 = .ok (.athrow, 1) := by decide +kernel
theorem dX4_widest_120 : decode cX4_widest 120 = .ok (.lload_n 3, 1) := by decide +kernel
theorem dX4_widest_121 : decode cX4_widest 121 = .ok (.lreturn, 1) := by decide +kernel
theorem dX4_forget_0 : decode cX4_forget 0 = .ok (.aload_n 0, 1) := by decide +kernel
theorem dX4_forget_1 : decode cX4_forget 1 = .ok (.iload_n 1, 1) := by decide +kernel
theorem dX4_forget_2 : decode cX4_forget 2 = .ok (.invokevirtual 42, 3) := by decide +kernel
theorem dX4_forget_5 : decode cX4_forget 5 = .ok (.invokevirtual 171, 3) := by decide +kernel
theorem dX4_forget_8 : decode cX4_forget 8 = .ok (.ireturn, 1) := by decide +kernel
theorem dX4_alarms_0 : decode cX4_alarms 0 = .ok (.aload_n 0, 1) := by decide +kernel
theorem dX4_alarms_1 : decode cX4_alarms 1 = .ok (.iload_n 1, 1) := by decide +kernel
theorem dX4_alarms_2 : decode cX4_alarms 2 = .ok (.invokevirtual 42, 3) := by decide +kernel
theorem dX4_alarms_5 : decode cX4_alarms 5 = .ok (.getfield 111, 3) := by decide +kernel
theorem dX4_alarms_8 : decode cX4_alarms 8 = .ok (.ireturn, 1) := by decide +kernel
theorem dX4_count_0 : decode cX4_count 0 = .ok (.iload_n 1, 1) := by decide +kernel
theorem dX4_count_1 : decode cX4_count 1 = .ok (.tableswitch 51 0 3 #[31, 36, 41, 46], 31) := by decide +kernel
theorem dX4_count_32 : decode cX4_count 32 = .ok (.aload_n 0, 1) := by decide +kernel
theorem dX4_count_33 : decode cX4_count 33 = .ok (.getfield 26, 3) := by decide +kernel
theorem dX4_count_36 : decode cX4_count 36 = .ok (.ireturn, 1) := by decide +kernel
theorem dX4_count_37 : decode cX4_count 37 = .ok (.aload_n 0, 1) := by decide +kernel
theorem dX4_count_38 : decode cX4_count 38 = .ok (.getfield 99, 3) := by decide +kernel
theorem dX4_count_41 : decode cX4_count 41 = .ok (.ireturn, 1) := by decide +kernel
theorem dX4_count_42 : decode cX4_count 42 = .ok (.aload_n 0, 1) := by decide +kernel
theorem dX4_count_43 : decode cX4_count 43 = .ok (.getfield 114, 3) := by decide +kernel
theorem dX4_count_46 : decode cX4_count 46 = .ok (.ireturn, 1) := by decide +kernel
theorem dX4_count_47 : decode cX4_count 47 = .ok (.aload_n 0, 1) := by decide +kernel
theorem dX4_count_48 : decode cX4_count 48 = .ok (.getfield 102, 3) := by decide +kernel
theorem dX4_count_51 : decode cX4_count 51 = .ok (.ireturn, 1) := by decide +kernel
theorem dX4_count_52 : decode cX4_count 52 = .ok (.iconst (-1), 1) := by decide +kernel
theorem dX4_count_53 : decode cX4_count 53 = .ok (.ireturn, 1) := by decide +kernel
theorem dX4_instrumentAt_0 : decode cX4_instrumentAt 0 = .ok (.iload_n 1, 1) := by decide +kernel
theorem dX4_instrumentAt_1 : decode cX4_instrumentAt 1 = .ok (.ifCond .lt 21, 3) := by decide +kernel
theorem dX4_instrumentAt_4 : decode cX4_instrumentAt 4 = .ok (.iload_n 1, 1) := by decide +kernel
theorem dX4_instrumentAt_5 : decode cX4_instrumentAt 5 = .ok (.aload_n 0, 1) := by decide +kernel
theorem dX4_instrumentAt_6 : decode cX4_instrumentAt 6 = .ok (.getfield 11, 3) := by decide +kernel
theorem dX4_instrumentAt_9 : decode cX4_instrumentAt 9 = .ok (.arraylength, 1) := by decide +kernel
theorem dX4_instrumentAt_10 : decode cX4_instrumentAt 10 = .ok (.if_icmp .ge 12, 3) := by decide +kernel
theorem dX4_instrumentAt_13 : decode cX4_instrumentAt 13 = .ok (.aload_n 0, 1) := by decide +kernel
theorem dX4_instrumentAt_14 : decode cX4_instrumentAt 14 = .ok (.getfield 11, 3) := by decide +kernel
theorem dX4_instrumentAt_17 : decode cX4_instrumentAt 17 = .ok (.iload_n 1, 1) := by decide +kernel
theorem dX4_instrumentAt_18 : decode cX4_instrumentAt 18 = .ok (.aaload, 1) := by decide +kernel
theorem dX4_instrumentAt_19 : decode cX4_instrumentAt 19 = .ok (.goto 4, 3) := by decide +kernel
theorem dX4_instrumentAt_22 : decode cX4_instrumentAt 22 = .ok (.aconst_null, 1) := by decide +kernel
theorem dX4_instrumentAt_23 : decode cX4_instrumentAt 23 = .ok (.astore_n 2, 1) := by decide +kernel
theorem dX4_instrumentAt_24 : decode cX4_instrumentAt 24 = .ok (.aload_n 2, 1) := by decide +kernel
theorem dX4_instrumentAt_25 : decode cX4_instrumentAt 25 = .ok (.ifnonnull 13, 3) := by decide +kernel
theorem dX4_instrumentAt_28 : decode cX4_instrumentAt 28 = .ok (.new 175, 3) := by decide +kernel
theorem dX4_instrumentAt_31 : decode cX4_instrumentAt 31 = .ok (.dup, 1) := by decide +kernel
theorem dX4_instrumentAt_32 : decode cX4_instrumentAt 32 = .ok (.ldc 177, 2) := by decide +kernel
theorem dX4_instrumentAt_34 : decode cX4_instrumentAt 34 = .ok (.invokespecial 179, 3) := by decide +kernel
theorem dX4_instrumentAt_37 : decode cX4_instrumentAt 37 = .ok (.athrow, 1) := by decide +kernel
theorem dX4_instrumentAt_38 : decode cX4_instrumentAt 38 = .ok (.aload_n 2, 1) := by decide +kernel
theorem dX4_instrumentAt_39 : decode cX4_instrumentAt 39 = .ok (.areturn, 1) := by decide +kernel
theorem dX4_isSort_0 : decode cX4_isSort 0 = .ok (.iload_n 0, 1) := by decide +kernel
theorem dX4_isSort_1 : decode cX4_isSort 1 = .ok (.ifCond .lt 12, 3) := by decide +kernel
theorem dX4_isSort_4 : decode cX4_isSort 4 = .ok (.iload_n 0, 1) := by decide +kernel
theorem dX4_isSort_5 : decode cX4_isSort 5 = .ok (.iconst 3, 1) := by decide +kernel
theorem dX4_isSort_6 : decode cX4_isSort 6 = .ok (.if_icmp .gt 7, 3) := by decide +kernel
theorem dX4_isSort_9 : decode cX4_isSort 9 = .ok (.iconst 1, 1) := by decide +kernel
theorem dX4_isSort_10 : decode cX4_isSort 10 = .ok (.goto 4, 3) := by decide +kernel
theorem dX4_isSort_13 : decode cX4_isSort 13 = .ok (.iconst 0, 1) := by decide +kernel
theorem dX4_isSort_14 : decode cX4_isSort 14 = .ok (.ireturn, 1) := by decide +kernel
theorem dX4_takesK_0 : decode cX4_takesK 0 = .ok (.iload_n 0, 1) := by decide +kernel
theorem dX4_takesK_1 : decode cX4_takesK 1 = .ok (.iconst 1, 1) := by decide +kernel
theorem dX4_takesK_2 : decode cX4_takesK 2 = .ok (.if_icmp .eq 14, 3) := by decide +kernel
theorem dX4_takesK_5 : decode cX4_takesK 5 = .ok (.iload_n 0, 1) := by decide +kernel
theorem dX4_takesK_6 : decode cX4_takesK 6 = .ok (.iconst 2, 1) := by decide +kernel
theorem dX4_takesK_7 : decode cX4_takesK 7 = .ok (.if_icmp .eq 9, 3) := by decide +kernel
theorem dX4_takesK_10 : decode cX4_takesK 10 = .ok (.iload_n 0, 1) := by decide +kernel
theorem dX4_takesK_11 : decode cX4_takesK 11 = .ok (.bipush 7, 2) := by decide +kernel
theorem dX4_takesK_13 : decode cX4_takesK 13 = .ok (.if_icmp .ne 7, 3) := by decide +kernel
theorem dX4_takesK_16 : decode cX4_takesK 16 = .ok (.iconst 1, 1) := by decide +kernel
theorem dX4_takesK_17 : decode cX4_takesK 17 = .ok (.goto 4, 3) := by decide +kernel
theorem dX4_takesK_20 : decode cX4_takesK 20 = .ok (.iconst 0, 1) := by decide +kernel
theorem dX4_takesK_21 : decode cX4_takesK 21 = .ok (.ireturn, 1) := by decide +kernel
theorem dX4_numbersOf_0 : decode cX4_numbersOf 0 = .ok (.iload_n 0, 1) := by decide +kernel
theorem dX4_numbersOf_1 : decode cX4_numbersOf 1 = .ok (.tableswitch 59 0 2 #[27, 37, 47], 27) := by decide +kernel
theorem dX4_numbersOf_28 : decode cX4_numbersOf 28 = .ok (.new 180, 3) := by decide +kernel
theorem dX4_numbersOf_31 : decode cX4_numbersOf 31 = .ok (.dup, 1) := by decide +kernel
theorem dX4_numbersOf_32 : decode cX4_numbersOf 32 = .ok (.bipush 32, 2) := by decide +kernel
theorem dX4_numbersOf_34 : decode cX4_numbersOf 34 = .ok (.invokespecial 182, 3) := by decide +kernel
theorem dX4_numbersOf_37 : decode cX4_numbersOf 37 = .ok (.areturn, 1) := by decide +kernel
theorem dX4_numbersOf_38 : decode cX4_numbersOf 38 = .ok (.new 180, 3) := by decide +kernel
theorem dX4_numbersOf_41 : decode cX4_numbersOf 41 = .ok (.dup, 1) := by decide +kernel
theorem dX4_numbersOf_42 : decode cX4_numbersOf 42 = .ok (.bipush 64, 2) := by decide +kernel
theorem dX4_numbersOf_44 : decode cX4_numbersOf 44 = .ok (.invokespecial 182, 3) := by decide +kernel
theorem dX4_numbersOf_47 : decode cX4_numbersOf 47 = .ok (.areturn, 1) := by decide +kernel
theorem dX4_numbersOf_48 : decode cX4_numbersOf 48 = .ok (.new 185, 3) := by decide +kernel
theorem dX4_numbersOf_51 : decode cX4_numbersOf 51 = .ok (.dup, 1) := by decide +kernel
theorem dX4_numbersOf_52 : decode cX4_numbersOf 52 = .ok (.bipush 32, 2) := by decide +kernel
theorem dX4_numbersOf_54 : decode cX4_numbersOf 54 = .ok (.bipush 23, 2) := by decide +kernel
theorem dX4_numbersOf_56 : decode cX4_numbersOf 56 = .ok (.invokespecial 187, 3) := by decide +kernel
theorem dX4_numbersOf_59 : decode cX4_numbersOf 59 = .ok (.areturn, 1) := by decide +kernel
theorem dX4_numbersOf_60 : decode cX4_numbersOf 60 = .ok (.new 185, 3) := by decide +kernel
theorem dX4_numbersOf_63 : decode cX4_numbersOf 63 = .ok (.dup, 1) := by decide +kernel
theorem dX4_numbersOf_64 : decode cX4_numbersOf 64 = .ok (.bipush 64, 2) := by decide +kernel
theorem dX4_numbersOf_66 : decode cX4_numbersOf 66 = .ok (.bipush 52, 2) := by decide +kernel
theorem dX4_numbersOf_68 : decode cX4_numbersOf 68 = .ok (.invokespecial 187, 3) := by decide +kernel
theorem dX4_numbersOf_71 : decode cX4_numbersOf 71 = .ok (.areturn, 1) := by decide +kernel
theorem dX5_init_0 : decode cX5_init 0 = .ok (.aload_n 0, 1) := by decide +kernel
theorem dX5_init_1 : decode cX5_init 1 = .ok (.invokespecial 1, 3) := by decide +kernel
theorem dX5_init_4 : decode cX5_init 4 = .ok (.aload_n 0, 1) := by decide +kernel
theorem dX5_init_5 : decode cX5_init 5 = .ok (.bipush 8, 2) := by decide +kernel
theorem dX5_init_7 : decode cX5_init 7 = .ok (.newarray .int, 2) := by decide +kernel
theorem dX5_init_9 : decode cX5_init 9 = .ok (.putfield 7, 3) := by decide +kernel
theorem dX5_init_12 : decode cX5_init 12 = .ok (.aload_n 0, 1) := by decide +kernel
theorem dX5_init_13 : decode cX5_init 13 = .ok (.bipush 8, 2) := by decide +kernel
theorem dX5_init_15 : decode cX5_init 15 = .ok (.newarray .int, 2) := by decide +kernel
theorem dX5_init_17 : decode cX5_init 17 = .ok (.putfield 13, 3) := by decide +kernel
theorem dX5_init_20 : decode cX5_init 20 = .ok (.aload_n 0, 1) := by decide +kernel
theorem dX5_init_21 : decode cX5_init 21 = .ok (.bipush 48, 2) := by decide +kernel
theorem dX5_init_23 : decode cX5_init 23 = .ok (.newarray .int, 2) := by decide +kernel
theorem dX5_init_25 : decode cX5_init 25 = .ok (.putfield 16, 3) := by decide +kernel
theorem dX5_init_28 : decode cX5_init 28 = .ok (.aload_n 0, 1) := by decide +kernel
theorem dX5_init_29 : decode cX5_init 29 = .ok (.bipush 48, 2) := by decide +kernel
theorem dX5_init_31 : decode cX5_init 31 = .ok (.newarray .int, 2) := by decide +kernel
theorem dX5_init_33 : decode cX5_init 33 = .ok (.putfield 19, 3) := by decide +kernel
theorem dX5_init_36 : decode cX5_init 36 = .ok (.aload_n 0, 1) := by decide +kernel
theorem dX5_init_37 : decode cX5_init 37 = .ok (.bipush 48, 2) := by decide +kernel
theorem dX5_init_39 : decode cX5_init 39 = .ok (.newarray .long, 2) := by decide +kernel
theorem dX5_init_41 : decode cX5_init 41 = .ok (.putfield 22, 3) := by decide +kernel
theorem dX5_init_44 : decode cX5_init 44 = .ok (.aload_n 0, 1) := by decide +kernel
theorem dX5_init_45 : decode cX5_init 45 = .ok (.bipush 8, 2) := by decide +kernel
theorem dX5_init_47 : decode cX5_init 47 = .ok (.newarray .long, 2) := by decide +kernel
theorem dX5_init_49 : decode cX5_init 49 = .ok (.putfield 26, 3) := by decide +kernel
theorem dX5_init_52 : decode cX5_init 52 = .ok (.aload_n 0, 1) := by decide +kernel
theorem dX5_init_53 : decode cX5_init 53 = .ok (.bipush 8, 2) := by decide +kernel
theorem dX5_init_55 : decode cX5_init 55 = .ok (.newarray .long, 2) := by decide +kernel
theorem dX5_init_57 : decode cX5_init 57 = .ok (.putfield 29, 3) := by decide +kernel
theorem dX5_init_60 : decode cX5_init 60 = .ok (.aload_n 0, 1) := by decide +kernel
theorem dX5_init_61 : decode cX5_init 61 = .ok (.bipush 8, 2) := by decide +kernel
theorem dX5_init_63 : decode cX5_init 63 = .ok (.newarray .int, 2) := by decide +kernel
theorem dX5_init_65 : decode cX5_init 65 = .ok (.putfield 32, 3) := by decide +kernel
theorem dX5_init_68 : decode cX5_init 68 = .ok (.aload_n 0, 1) := by decide +kernel
theorem dX5_init_69 : decode cX5_init 69 = .ok (.sipush 128, 3) := by decide +kernel
theorem dX5_init_72 : decode cX5_init 72 = .ok (.newarray .long, 2) := by decide +kernel
theorem dX5_init_74 : decode cX5_init 74 = .ok (.putfield 35, 3) := by decide +kernel
theorem dX5_init_77 : decode cX5_init 77 = .ok (.aload_n 0, 1) := by decide +kernel
theorem dX5_init_78 : decode cX5_init 78 = .ok (.bipush 8, 2) := by decide +kernel
theorem dX5_init_80 : decode cX5_init 80 = .ok (.newarray .long, 2) := by decide +kernel
theorem dX5_init_82 : decode cX5_init 82 = .ok (.putfield 38, 3) := by decide +kernel
theorem dX5_init_85 : decode cX5_init 85 = .ok (.aload_n 0, 1) := by decide +kernel
theorem dX5_init_86 : decode cX5_init 86 = .ok (.bipush 8, 2) := by decide +kernel
theorem dX5_init_88 : decode cX5_init 88 = .ok (.newarray .long, 2) := by decide +kernel
theorem dX5_init_90 : decode cX5_init 90 = .ok (.putfield 41, 3) := by decide +kernel
theorem dX5_init_93 : decode cX5_init 93 = .ok (.aload_n 0, 1) := by decide +kernel
theorem dX5_init_94 : decode cX5_init 94 = .ok (.bipush 8, 2) := by decide +kernel
theorem dX5_init_96 : decode cX5_init 96 = .ok (.newarray .long, 2) := by decide +kernel
theorem dX5_init_98 : decode cX5_init 98 = .ok (.putfield 44, 3) := by decide +kernel
theorem dX5_init_101 : decode cX5_init 101 = .ok (.aload_n 0, 1) := by decide +kernel
theorem dX5_init_102 : decode cX5_init 102 = .ok (.bipush 8, 2) := by decide +kernel
theorem dX5_init_104 : decode cX5_init 104 = .ok (.newarray .long, 2) := by decide +kernel
theorem dX5_init_106 : decode cX5_init 106 = .ok (.putfield 47, 3) := by decide +kernel
theorem dX5_init_109 : decode cX5_init 109 = .ok (.aload_n 0, 1) := by decide +kernel
theorem dX5_init_110 : decode cX5_init 110 = .ok (.bipush 8, 2) := by decide +kernel
theorem dX5_init_112 : decode cX5_init 112 = .ok (.newarray .int, 2) := by decide +kernel
theorem dX5_init_114 : decode cX5_init 114 = .ok (.putfield 50, 3) := by decide +kernel
theorem dX5_init_117 : decode cX5_init 117 = .ok (.return_, 1) := by decide +kernel
theorem dX5_thrown_0 : decode cX5_thrown 0 = .ok (.aload_n 0, 1) := by decide +kernel
theorem dX5_thrown_1 : decode cX5_thrown 1 = .ok (.getfield 53, 3) := by decide +kernel
theorem dX5_thrown_4 : decode cX5_thrown 4 = .ok (.ireturn, 1) := by decide +kernel
theorem dX5_fail_0 : decode cX5_fail 0 = .ok (.aload_n 0, 1) := by decide +kernel
theorem dX5_fail_1 : decode cX5_fail 1 = .ok (.iload_n 1, 1) := by decide +kernel
theorem dX5_fail_2 : decode cX5_fail 2 = .ok (.putfield 53, 3) := by decide +kernel
theorem dX5_fail_5 : decode cX5_fail 5 = .ok (.iconst 0, 1) := by decide +kernel
theorem dX5_fail_6 : decode cX5_fail 6 = .ok (.ireturn, 1) := by decide +kernel
theorem dX5_isInstrument_0 : decode cX5_isInstrument 0 = .ok (.iload_n 1, 1) := by decide +kernel
theorem dX5_isInstrument_1 : decode cX5_isInstrument 1 = .ok (.ifCond .lt 15, 3) := by decide +kernel
theorem dX5_isInstrument_4 : decode cX5_isInstrument 4 = .ok (.iload_n 1, 1) := by decide +kernel
theorem dX5_isInstrument_5 : decode cX5_isInstrument 5 = .ok (.aload_n 0, 1) := by decide +kernel
theorem dX5_isInstrument_6 : decode cX5_isInstrument 6 = .ok (.getfield 57, 3) := by decide +kernel
theorem dX5_isInstrument_9 : decode cX5_isInstrument 9 = .ok (.if_icmp .ge 7, 3) := by decide +kernel
theorem dX5_isInstrument_12 : decode cX5_isInstrument 12 = .ok (.iconst 1, 1) := by decide +kernel
theorem dX5_isInstrument_13 : decode cX5_isInstrument 13 = .ok (.goto 4, 3) := by decide +kernel
theorem dX5_isInstrument_16 : decode cX5_isInstrument 16 = .ok (.iconst 0, 1) := by decide +kernel
theorem dX5_isInstrument_17 : decode cX5_isInstrument 17 = .ok (.ireturn, 1) := by decide +kernel
theorem dX5_isReal_0 : decode cX5_isReal 0 = .ok (.iload_n 0, 1) := by decide +kernel
theorem dX5_isReal_1 : decode cX5_isReal 1 = .ok (.iconst 2, 1) := by decide +kernel
theorem dX5_isReal_2 : decode cX5_isReal 2 = .ok (.if_icmp .lt 7, 3) := by decide +kernel
theorem dX5_isReal_5 : decode cX5_isReal 5 = .ok (.iconst 1, 1) := by decide +kernel
theorem dX5_isReal_6 : decode cX5_isReal 6 = .ok (.goto 4, 3) := by decide +kernel
theorem dX5_isReal_9 : decode cX5_isReal 9 = .ok (.iconst 0, 1) := by decide +kernel
theorem dX5_isReal_10 : decode cX5_isReal 10 = .ok (.ireturn, 1) := by decide +kernel
theorem dX5_places_0 : decode cX5_places 0 = .ok (.iload_n 0, 1) := by decide +kernel
theorem dX5_places_1 : decode cX5_places 1 = .ok (.iconst 2, 1) := by decide +kernel
theorem dX5_places_2 : decode cX5_places 2 = .ok (.if_icmp .ne 8, 3) := by decide +kernel
theorem dX5_places_5 : decode cX5_places 5 = .ok (.bipush 23, 2) := by decide +kernel
theorem dX5_places_7 : decode cX5_places 7 = .ok (.goto 5, 3) := by decide +kernel
theorem dX5_places_10 : decode cX5_places 10 = .ok (.bipush 52, 2) := by decide +kernel
theorem dX5_places_12 : decode cX5_places 12 = .ok (.ireturn, 1) := by decide +kernel
theorem dX5_signBit_0 : decode cX5_signBit 0 = .ok (.iload_n 0, 1) := by decide +kernel
theorem dX5_signBit_1 : decode cX5_signBit 1 = .ok (.iconst 2, 1) := by decide +kernel
theorem dX5_signBit_2 : decode cX5_signBit 2 = .ok (.if_icmp .ne 9, 3) := by decide +kernel
theorem dX5_signBit_5 : decode cX5_signBit 5 = .ok (.ldc2_w 60, 3) := by decide +kernel
theorem dX5_signBit_8 : decode cX5_signBit 8 = .ok (.goto 6, 3) := by decide +kernel
theorem dX5_signBit_11 : decode cX5_signBit 11 = .ok (.ldc2_w 62, 3) := by decide +kernel
theorem dX5_signBit_14 : decode cX5_signBit 14 = .ok (.lreturn, 1) := by decide +kernel
theorem dX5_endless_0 : decode cX5_endless 0 = .ok (.iload_n 0, 1) := by decide +kernel
theorem dX5_endless_1 : decode cX5_endless 1 = .ok (.iconst 2, 1) := by decide +kernel
theorem dX5_endless_2 : decode cX5_endless 2 = .ok (.if_icmp .ne 9, 3) := by decide +kernel
theorem dX5_endless_5 : decode cX5_endless 5 = .ok (.ldc2_w 64, 3) := by decide +kernel
theorem dX5_endless_8 : decode cX5_endless 8 = .ok (.goto 6, 3) := by decide +kernel
theorem dX5_endless_11 : decode cX5_endless 11 = .ok (.ldc2_w 66, 3) := by decide +kernel
theorem dX5_endless_14 : decode cX5_endless 14 = .ok (.lreturn, 1) := by decide +kernel
theorem dX5_one_0 : decode cX5_one 0 = .ok (.iload_n 0, 1) := by decide +kernel
theorem dX5_one_1 : decode cX5_one 1 = .ok (.iconst 2, 1) := by decide +kernel
theorem dX5_one_2 : decode cX5_one 2 = .ok (.if_icmp .ne 9, 3) := by decide +kernel
theorem dX5_one_5 : decode cX5_one 5 = .ok (.ldc2_w 68, 3) := by decide +kernel
theorem dX5_one_8 : decode cX5_one 8 = .ok (.goto 6, 3) := by decide +kernel
theorem dX5_one_11 : decode cX5_one 11 = .ok (.ldc2_w 70, 3) := by decide +kernel
theorem dX5_one_14 : decode cX5_one 14 = .ok (.lreturn, 1) := by decide +kernel
theorem dX5_cut_0 : decode cX5_cut 0 = .ok (.iload_n 0, 1) := by decide +kernel
theorem dX5_cut_1 : decode cX5_cut 1 = .ok (.ifCond .eq 8, 3) := by decide +kernel
theorem dX5_cut_4 : decode cX5_cut 4 = .ok (.iload_n 0, 1) := by decide +kernel
theorem dX5_cut_5 : decode cX5_cut 5 = .ok (.iconst 2, 1) := by decide +kernel
theorem dX5_cut_6 : decode cX5_cut 6 = .ok (.if_icmp .ne 9, 3) := by decide +kernel
theorem dX5_cut_9 : decode cX5_cut 9 = .ok (.lload_n 1, 1) := by decide +kernel
theorem dX5_cut_10 : decode cX5_cut 10 = .ok (.l2i, 1) := by decide +kernel
theorem dX5_cut_11 : decode cX5_cut 11 = .ok (.i2l, 1) := by decide +kernel
theorem dX5_cut_12 : decode cX5_cut 12 = .ok (.goto 4, 3) := by decide +kernel
theorem dX5_cut_15 : decode cX5_cut 15 = .ok (.lload_n 1, 1) := by decide +kernel
theorem dX5_cut_16 : decode cX5_cut 16 = .ok (.lreturn, 1) := by decide +kernel
theorem dX5_form_0 : decode cX5_form 0 = .ok (.iload_n 0, 1) := by decide +kernel
theorem dX5_form_1 : decode cX5_form 1 = .ok (.iconst 2, 1) := by decide +kernel
theorem dX5_form_2 : decode cX5_form 2 = .ok (.if_icmp .ne 11, 3) := by decide +kernel
theorem dX5_form_5 : decode cX5_form 5 = .ok (.lload_n 1, 1) := by decide +kernel
theorem dX5_form_6 : decode cX5_form 6 = .ok (.ldc2_w 72, 3) := by decide +kernel
theorem dX5_form_9 : decode cX5_form 9 = .ok (.land, 1) := by decide +kernel
theorem dX5_form_10 : decode cX5_form 10 = .ok (.goto 4, 3) := by decide +kernel
theorem dX5_form_13 : decode cX5_form 13 = .ok (.lload_n 1, 1) := by decide +kernel
theorem dX5_form_14 : decode cX5_form 14 = .ok (.lreturn, 1) := by decide +kernel
theorem dX5_amountBits_0 : decode cX5_amountBits 0 = .ok (.iload_n 0, 1) := by decide +kernel
theorem dX5_amountBits_1 : decode cX5_amountBits 1 = .ok (.lload_n 1, 1) := by decide +kernel
theorem dX5_amountBits_2 : decode cX5_amountBits 2 = .ok (.invokestatic 74, 3) := by decide +kernel
theorem dX5_amountBits_5 : decode cX5_amountBits 5 = .ok (.iload_n 0, 1) := by decide +kernel
theorem dX5_amountBits_6 : decode cX5_amountBits 6 = .ok (.invokestatic 78, 3) := by decide +kernel
theorem dX5_amountBits_9 : decode cX5_amountBits 9 = .ok (.ldc2_w 82, 3) := by decide +kernel
theorem dX5_amountBits_12 : decode cX5_amountBits 12 = .ok (.lxor, 1) := by decide +kernel
theorem dX5_amountBits_13 : decode cX5_amountBits 13 = .ok (.land, 1) := by decide +kernel
theorem dX5_amountBits_14 : decode cX5_amountBits 14 = .ok (.lreturn, 1) := by decide +kernel
theorem dX5_isMinus_0 : decode cX5_isMinus 0 = .ok (.lload_n 1, 1) := by decide +kernel
theorem dX5_isMinus_1 : decode cX5_isMinus 1 = .ok (.lconst 0, 1) := by decide +kernel
theorem dX5_isMinus_2 : decode cX5_isMinus 2 = .ok (.lcmp, 1) := by decide +kernel
theorem dX5_isMinus_3 : decode cX5_isMinus 3 = .ok (.ifCond .ge 7, 3) := by decide +kernel
theorem dX5_isMinus_6 : decode cX5_isMinus 6 = .ok (.iconst 1, 1) := by decide +kernel
theorem dX5_isMinus_7 : decode cX5_isMinus 7 = .ok (.goto 4, 3) := by decide +kernel
theorem dX5_isMinus_10 : decode cX5_isMinus 10 = .ok (.iconst 0, 1) := by decide +kernel
theorem dX5_isMinus_11 : decode cX5_isMinus 11 = .ok (.ireturn, 1) := by decide +kernel
theorem dX5_isNone_0 : decode cX5_isNone 0 = .ok (.iload_n 0, 1) := by decide +kernel
theorem dX5_isNone_1 : decode cX5_isNone 1 = .ok (.invokestatic 84, 3) := by decide +kernel
theorem dX5_isNone_4 : decode cX5_isNone 4 = .ok (.ifCond .eq 24, 3) := by decide +kernel
theorem dX5_isNone_7 : decode cX5_isNone 7 = .ok (.iload_n 0, 1) := by decide +kernel
theorem dX5_isNone_8 : decode cX5_isNone 8 = .ok (.iload_n 0, 1) := by decide +kernel
theorem dX5_isNone_9 : decode cX5_isNone 9 = .ok (.lload_n 1, 1) := by decide +kernel
theorem dX5_isNone_10 : decode cX5_isNone 10 = .ok (.invokestatic 88, 3) := by decide +kernel
theorem dX5_isNone_13 : decode cX5_isNone 13 = .ok (.invokestatic 91, 3) := by decide +kernel
theorem dX5_isNone_16 : decode cX5_isNone 16 = .ok (.iload_n 0, 1) := by decide +kernel
theorem dX5_isNone_17 : decode cX5_isNone 17 = .ok (.invokestatic 94, 3) := by decide +kernel
theorem dX5_isNone_20 : decode cX5_isNone 20 = .ok (.lcmp, 1) := by decide +kernel
theorem dX5_isNone_21 : decode cX5_isNone 21 = .ok (.ifCond .le 7, 3) := by decide +kernel
theorem dX5_isNone_24 : decode cX5_isNone 24 = .ok (.iconst 1, 1) := by decide +kernel
theorem dX5_isNone_25 : decode cX5_isNone 25 = .ok (.goto 4, 3) := by decide +kernel
theorem dX5_isNone_28 : decode cX5_isNone 28 = .ok (.iconst 0, 1) := by decide +kernel
theorem dX5_isNone_29 : decode cX5_isNone 29 = .ok (.ireturn, 1) := by decide +kernel
theorem dX5_rank_0 : decode cX5_rank 0 = .ok (.iload_n 0, 1) := by decide +kernel
theorem dX5_rank_1 : decode cX5_rank 1 = .ok (.invokestatic 84, 3) := by decide +kernel
theorem dX5_rank_4 : decode cX5_rank 4 = .ok (.ifCond .ne 5, 3) := by decide +kernel
theorem dX5_rank_7 : decode cX5_rank 7 = .ok (.lload_n 1, 1) := by decide +kernel
theorem dX5_rank_8 : decode cX5_rank 8 = .ok (.lreturn, 1) := by decide +kernel
theorem dX5_rank_9 : decode cX5_rank 9 = .ok (.iload_n 0, 1) := by decide +kernel
theorem dX5_rank_10 : decode cX5_rank 10 = .ok (.lload_n 1, 1) := by decide +kernel
theorem dX5_rank_11 : decode cX5_rank 11 = .ok (.invokestatic 91, 3) := by decide +kernel
theorem dX5_rank_14 : decode cX5_rank 14 = .ok (.lstore_n 3, 1) := by decide +kernel
theorem dX5_rank_15 : decode cX5_rank 15 = .ok (.iload_n 0, 1) := by decide +kernel
theorem dX5_rank_16 : decode cX5_rank 16 = .ok (.lload_n 1, 1) := by decide +kernel
theorem dX5_rank_17 : decode cX5_rank 17 = .ok (.invokestatic 97, 3) := by decide +kernel
theorem dX5_rank_20 : decode cX5_rank 20 = .ok (.ifCond .eq 11, 3) := by decide +kernel
theorem dX5_rank_23 : decode cX5_rank 23 = .ok (.ldc2_w 82, 3) := by decide +kernel
theorem dX5_rank_26 : decode cX5_rank 26 = .ok (.lload_n 3, 1) := by decide +kernel
theorem dX5_rank_27 : decode cX5_rank 27 = .ok (.lsub, 1) := by decide +kernel
theorem dX5_rank_28 : decode cX5_rank 28 = .ok (.goto 4, 3) := by decide +kernel
theorem dX5_rank_31 : decode cX5_rank 31 = .ok (.lload_n 3, 1) := by decide +kernel
theorem dX5_rank_32 : decode cX5_rank 32 = .ok (.lreturn, 1) := by decide +kernel
theorem dX5_height_0 : decode cX5_height 0 = .ok (.iload_n 0, 1) := by decide +kernel
theorem dX5_height_1 : decode cX5_height 1 = .ok (.invokestatic 84, 3) := by decide +kernel
theorem dX5_height_4 : decode cX5_height 4 = .ok (.ifCond .eq 17, 3) := by decide +kernel
theorem dX5_height_7 : decode cX5_height 7 = .ok (.iload_n 0, 1) := by decide +kernel
theorem dX5_height_8 : decode cX5_height 8 = .ok (.lload_n 1, 1) := by decide +kernel
theorem dX5_height_9 : decode cX5_height 9 = .ok (.invokestatic 91, 3) := by decide +kernel
theorem dX5_height_12 : decode cX5_height 12 = .ok (.lconst 0, 1) := by decide +kernel
theorem dX5_height_13 : decode cX5_height 13 = .ok (.lcmp, 1) := by decide +kernel
theorem dX5_height_14 : decode cX5_height 14 = .ok (.ifCond .ne 7, 3) := by decide +kernel
theorem dX5_height_17 : decode cX5_height 17 = .ok (.lconst 0, 1) := by decide +kernel
theorem dX5_height_18 : decode cX5_height 18 = .ok (.goto 8, 3) := by decide +kernel
theorem dX5_height_21 : decode cX5_height 21 = .ok (.iload_n 0, 1) := by decide +kernel
theorem dX5_height_22 : decode cX5_height 22 = .ok (.lload_n 1, 1) := by decide +kernel
theorem dX5_height_23 : decode cX5_height 23 = .ok (.invokestatic 101, 3) := by decide +kernel
theorem dX5_height_26 : decode cX5_height 26 = .ok (.lreturn, 1) := by decide +kernel
theorem dX5_greater_0 : decode cX5_greater 0 = .ok (.iload_n 0, 1) := by decide +kernel
theorem dX5_greater_1 : decode cX5_greater 1 = .ok (.lload_n 1, 1) := by decide +kernel
theorem dX5_greater_2 : decode cX5_greater 2 = .ok (.invokestatic 101, 3) := by decide +kernel
theorem dX5_greater_5 : decode cX5_greater 5 = .ok (.iload_n 0, 1) := by decide +kernel
theorem dX5_greater_6 : decode cX5_greater 6 = .ok (.lload_n 3, 1) := by decide +kernel
theorem dX5_greater_7 : decode cX5_greater 7 = .ok (.invokestatic 101, 3) := by decide +kernel
theorem dX5_greater_10 : decode cX5_greater 10 = .ok (.lcmp, 1) := by decide +kernel
theorem dX5_greater_11 : decode cX5_greater 11 = .ok (.ifCond .ge 7, 3) := by decide +kernel
theorem dX5_greater_14 : decode cX5_greater 14 = .ok (.lload_n 3, 1) := by decide +kernel
theorem dX5_greater_15 : decode cX5_greater 15 = .ok (.goto 4, 3) := by decide +kernel
theorem dX5_greater_18 : decode cX5_greater 18 = .ok (.lload_n 1, 1) := by decide +kernel
theorem dX5_greater_19 : decode cX5_greater 19 = .ok (.lreturn, 1) := by decide +kernel
theorem dX5_lesser_0 : decode cX5_lesser 0 = .ok (.iload_n 0, 1) := by decide +kernel
theorem dX5_lesser_1 : decode cX5_lesser 1 = .ok (.lload_n 3, 1) := by decide +kernel
theorem dX5_lesser_2 : decode cX5_lesser 2 = .ok (.invokestatic 101, 3) := by decide +kernel
theorem dX5_lesser_5 : decode cX5_lesser 5 = .ok (.iload_n 0, 1) := by decide +kernel
theorem dX5_lesser_6 : decode cX5_lesser 6 = .ok (.lload_n 1, 1) := by decide +kernel
theorem dX5_lesser_7 : decode cX5_lesser 7 = .ok (.invokestatic 101, 3) := by decide +kernel
theorem dX5_lesser_10 : decode cX5_lesser 10 = .ok (.lcmp, 1) := by decide +kernel
theorem dX5_lesser_11 : decode cX5_lesser 11 = .ok (.ifCond .ge 7, 3) := by decide +kernel
theorem dX5_lesser_14 : decode cX5_lesser 14 = .ok (.lload_n 3, 1) := by decide +kernel
theorem dX5_lesser_15 : decode cX5_lesser 15 = .ok (.goto 4, 3) := by decide +kernel
theorem dX5_lesser_18 : decode cX5_lesser 18 = .ok (.lload_n 1, 1) := by decide +kernel
theorem dX5_lesser_19 : decode cX5_lesser 19 = .ok (.lreturn, 1) := by decide +kernel
theorem dX5_isAbove_0 : decode cX5_isAbove 0 = .ok (.iload_n 0, 1) := by decide +kernel
theorem dX5_isAbove_1 : decode cX5_isAbove 1 = .ok (.lload_n 1, 1) := by decide +kernel
theorem dX5_isAbove_2 : decode cX5_isAbove 2 = .ok (.invokestatic 104, 3) := by decide +kernel
theorem dX5_isAbove_5 : decode cX5_isAbove 5 = .ok (.iload_n 0, 1) := by decide +kernel
theorem dX5_isAbove_6 : decode cX5_isAbove 6 = .ok (.lload_n 3, 1) := by decide +kernel
theorem dX5_isAbove_7 : decode cX5_isAbove 7 = .ok (.invokestatic 104, 3) := by decide +kernel
theorem dX5_isAbove_10 : decode cX5_isAbove 10 = .ok (.lcmp, 1) := by decide +kernel
theorem dX5_isAbove_11 : decode cX5_isAbove 11 = .ok (.ifCond .le 7, 3) := by decide +kernel
theorem dX5_isAbove_14 : decode cX5_isAbove 14 = .ok (.iconst 1, 1) := by decide +kernel
theorem dX5_isAbove_15 : decode cX5_isAbove 15 = .ok (.goto 4, 3) := by decide +kernel
theorem dX5_isAbove_18 : decode cX5_isAbove 18 = .ok (.iconst 0, 1) := by decide +kernel
theorem dX5_isAbove_19 : decode cX5_isAbove 19 = .ok (.ireturn, 1) := by decide +kernel
theorem dX5_amount_0 : decode cX5_amount 0 = .ok (.iload_n 0, 1) := by decide +kernel
theorem dX5_amount_1 : decode cX5_amount 1 = .ok (.invokestatic 84, 3) := by decide +kernel
theorem dX5_amount_4 : decode cX5_amount 4 = .ok (.ifCond .eq 13, 3) := by decide +kernel
theorem dX5_amount_7 : decode cX5_amount 7 = .ok (.iload_n 0, 1) := by decide +kernel
theorem dX5_amount_8 : decode cX5_amount 8 = .ok (.iload_n 0, 1) := by decide +kernel
theorem dX5_amount_9 : decode cX5_amount 9 = .ok (.lload_n 1, 1) := by decide +kernel
theorem dX5_amount_10 : decode cX5_amount 10 = .ok (.invokestatic 91, 3) := by decide +kernel
theorem dX5_amount_13 : decode cX5_amount 13 = .ok (.invokestatic 88, 3) := by decide +kernel
theorem dX5_amount_16 : decode cX5_amount 16 = .ok (.lreturn, 1) := by decide +kernel
theorem dX5_amount_17 : decode cX5_amount 17 = .ok (.iload_n 0, 1) := by decide +kernel
theorem dX5_amount_18 : decode cX5_amount 18 = .ok (.lload_n 1, 1) := by decide +kernel
theorem dX5_amount_19 : decode cX5_amount 19 = .ok (.lconst 0, 1) := by decide +kernel
theorem dX5_amount_20 : decode cX5_amount 20 = .ok (.lcmp, 1) := by decide +kernel
theorem dX5_amount_21 : decode cX5_amount 21 = .ok (.ifCond .ge 8, 3) := by decide +kernel
theorem dX5_amount_24 : decode cX5_amount 24 = .ok (.lload_n 1, 1) := by decide +kernel
theorem dX5_amount_25 : decode cX5_amount 25 = .ok (.lneg, 1) := by decide +kernel
theorem dX5_amount_26 : decode cX5_amount 26 = .ok (.goto 4, 3) := by decide +kernel
theorem dX5_amount_29 : decode cX5_amount 29 = .ok (.lload_n 1, 1) := by decide +kernel
theorem dX5_amount_30 : decode cX5_amount 30 = .ok (.invokestatic 88, 3) := by decide +kernel
theorem dX5_amount_33 : decode cX5_amount 33 = .ok (.lreturn, 1) := by decide +kernel
theorem dX5_signed_0 : decode cX5_signed 0 = .ok (.iload_n 0, 1) := by decide +kernel
theorem dX5_signed_1 : decode cX5_signed 1 = .ok (.iload_n 3, 1) := by decide +kernel
theorem dX5_signed_2 : decode cX5_signed 2 = .ok (.ifCond .eq 12, 3) := by decide +kernel
theorem dX5_signed_5 : decode cX5_signed 5 = .ok (.lload_n 1, 1) := by decide +kernel
theorem dX5_signed_6 : decode cX5_signed 6 = .ok (.iload_n 0, 1) := by decide +kernel
theorem dX5_signed_7 : decode cX5_signed 7 = .ok (.invokestatic 78, 3) := by decide +kernel
theorem dX5_signed_10 : decode cX5_signed 10 = .ok (.lor, 1) := by decide +kernel
theorem dX5_signed_11 : decode cX5_signed 11 = .ok (.goto 4, 3) := by decide +kernel
theorem dX5_signed_14 : decode cX5_signed 14 = .ok (.lload_n 1, 1) := by decide +kernel
theorem dX5_signed_15 : decode cX5_signed 15 = .ok (.invokestatic 88, 3) := by decide +kernel
theorem dX5_signed_18 : decode cX5_signed 18 = .ok (.lreturn, 1) := by decide +kernel
theorem dX5_toWhole_0 : decode cX5_toWhole 0 = .ok (.iload_n 0, 1) := by decide +kernel
theorem dX5_toWhole_1 : decode cX5_toWhole 1 = .ok (.lload_n 1, 1) := by decide +kernel
theorem dX5_toWhole_2 : decode cX5_toWhole 2 = .ok (.invokestatic 97, 3) := by decide +kernel
theorem dX5_toWhole_5 : decode cX5_toWhole 5 = .ok (.istore 4, 2) := by decide +kernel
theorem dX5_toWhole_7 : decode cX5_toWhole 7 = .ok (.iload_n 0, 1) := by decide +kernel
theorem dX5_toWhole_8 : decode cX5_toWhole 8 = .ok (.lload_n 1, 1) := by decide +kernel
theorem dX5_toWhole_9 : decode cX5_toWhole 9 = .ok (.invokestatic 91, 3) := by decide +kernel
theorem dX5_toWhole_12 : decode cX5_toWhole 12 = .ok (.lstore 5, 2) := by decide +kernel
theorem dX5_toWhole_14 : decode cX5_toWhole 14 = .ok (.iload_n 0, 1) := by decide +kernel
theorem dX5_toWhole_15 : decode cX5_toWhole 15 = .ok (.invokestatic 107, 3) := by decide +kernel
theorem dX5_toWhole_18 : decode cX5_toWhole 18 = .ok (.istore 7, 2) := by decide +kernel
theorem dX5_toWhole_20 : decode cX5_toWhole 20 = .ok (.lload 5, 2) := by decide +kernel
theorem dX5_toWhole_22 : decode cX5_toWhole 22 = .ok (.iload 7, 2) := by decide +kernel
theorem dX5_toWhole_24 : decode cX5_toWhole 24 = .ok (.lshr, 1) := by decide +kernel
theorem dX5_toWhole_25 : decode cX5_toWhole 25 = .ok (.l2i, 1) := by decide +kernel
theorem dX5_toWhole_26 : decode cX5_toWhole 26 = .ok (.iload_n 0, 1) := by decide +kernel
theorem dX5_toWhole_27 : decode cX5_toWhole 27 = .ok (.iconst 2, 1) := by decide +kernel
theorem dX5_toWhole_28 : decode cX5_toWhole 28 = .ok (.if_icmp .ne 8, 3) := by decide +kernel
theorem dX5_toWhole_31 : decode cX5_toWhole 31 = .ok (.bipush 127, 2) := by decide +kernel
theorem dX5_toWhole_33 : decode cX5_toWhole 33 = .ok (.goto 6, 3) := by decide +kernel
theorem dX5_toWhole_36 : decode cX5_toWhole 36 = .ok (.sipush 1023, 3) := by decide +kernel
theorem dX5_toWhole_39 : decode cX5_toWhole 39 = .ok (.isub, 1) := by decide +kernel
theorem dX5_toWhole_40 : decode cX5_toWhole 40 = .ok (.istore 8, 2) := by decide +kernel
theorem dX5_toWhole_42 : decode cX5_toWhole 42 = .ok (.iload 8, 2) := by decide +kernel
theorem dX5_toWhole_44 : decode cX5_toWhole 44 = .ok (.iload 7, 2) := by decide +kernel
theorem dX5_toWhole_46 : decode cX5_toWhole 46 = .ok (.if_icmp .ge 10, 3) := by decide +kernel
theorem dX5_toWhole_49 : decode cX5_toWhole 49 = .ok (.lload 5, 2) := by decide +kernel
theorem dX5_toWhole_51 : decode cX5_toWhole 51 = .ok (.lconst 0, 1) := by decide +kernel
theorem dX5_toWhole_52 : decode cX5_toWhole 52 = .ok (.lcmp, 1) := by decide +kernel
theorem dX5_toWhole_53 : decode cX5_toWhole 53 = .ok (.ifCond .ne 5, 3) := by decide +kernel
theorem dX5_toWhole_56 : decode cX5_toWhole 56 = .ok (.lload_n 1, 1) := by decide +kernel
theorem dX5_toWhole_57 : decode cX5_toWhole 57 = .ok (.lreturn, 1) := by decide +kernel
theorem dX5_toWhole_58 : decode cX5_toWhole 58 = .ok (.iload_n 3, 1) := by decide +kernel
theorem dX5_toWhole_59 : decode cX5_toWhole 59 = .ok (.iconst 3, 1) := by decide +kernel
theorem dX5_toWhole_60 : decode cX5_toWhole 60 = .ok (.if_icmp .ne 8, 3) := by decide +kernel
theorem dX5_toWhole_63 : decode cX5_toWhole 63 = .ok (.iload 4, 2) := by decide +kernel
theorem dX5_toWhole_65 : decode cX5_toWhole 65 = .ok (.goto 13, 3) := by decide +kernel
theorem dX5_toWhole_68 : decode cX5_toWhole 68 = .ok (.iload 4, 2) := by decide +kernel
theorem dX5_toWhole_70 : decode cX5_toWhole 70 = .ok (.ifCond .ne 7, 3) := by decide +kernel
theorem dX5_toWhole_73 : decode cX5_toWhole 73 = .ok (.iconst 1, 1) := by decide +kernel
theorem dX5_toWhole_74 : decode cX5_toWhole 74 = .ok (.goto 4, 3) := by decide +kernel
theorem dX5_toWhole_77 : decode cX5_toWhole 77 = .ok (.iconst 0, 1) := by decide +kernel
theorem dX5_toWhole_78 : decode cX5_toWhole 78 = .ok (.istore 9, 2) := by decide +kernel
theorem dX5_toWhole_80 : decode cX5_toWhole 80 = .ok (.iload 8, 2) := by decide +kernel
theorem dX5_toWhole_82 : decode cX5_toWhole 82 = .ok (.ifCond .ge 60, 3) := by decide +kernel
theorem dX5_toWhole_85 : decode cX5_toWhole 85 = .ok (.iload_n 3, 1) := by decide +kernel
theorem dX5_toWhole_86 : decode cX5_toWhole 86 = .ok (.iconst 5, 1) := by decide +kernel
theorem dX5_toWhole_87 : decode cX5_toWhole 87 = .ok (.if_icmp .ne 31, 3) := by decide +kernel
theorem dX5_toWhole_90 : decode cX5_toWhole 90 = .ok (.iload 8, 2) := by decide +kernel
theorem dX5_toWhole_92 : decode cX5_toWhole 92 = .ok (.iconst (-1), 1) := by decide +kernel
theorem dX5_toWhole_93 : decode cX5_toWhole 93 = .ok (.if_icmp .ne 21, 3) := by decide +kernel
theorem dX5_toWhole_96 : decode cX5_toWhole 96 = .ok (.lload 5, 2) := by decide +kernel
theorem dX5_toWhole_98 : decode cX5_toWhole 98 = .ok (.lconst 1, 1) := by decide +kernel
theorem dX5_toWhole_99 : decode cX5_toWhole 99 = .ok (.iload 7, 2) := by decide +kernel
theorem dX5_toWhole_101 : decode cX5_toWhole 101 = .ok (.lshl, 1) := by decide +kernel
theorem dX5_toWhole_102 : decode cX5_toWhole 102 = .ok (.lconst 1, 1) := by decide +kernel
theorem dX5_toWhole_103 : decode cX5_toWhole 103 = .ok (.lsub, 1) := by decide +kernel
theorem dX5_toWhole_104 : decode cX5_toWhole 104 = .ok (.land, 1) := by decide +kernel
theorem dX5_toWhole_105 : decode cX5_toWhole 105 = .ok (.lconst 0, 1) := by decide +kernel
theorem dX5_toWhole_106 : decode cX5_toWhole 106 = .ok (.lcmp, 1) := by decide +kernel
theorem dX5_toWhole_107 : decode cX5_toWhole 107 = .ok (.ifCond .le 7, 3) := by decide +kernel
theorem dX5_toWhole_110 : decode cX5_toWhole 110 = .ok (.iconst 1, 1) := by decide +kernel
theorem dX5_toWhole_111 : decode cX5_toWhole 111 = .ok (.goto 9, 3) := by decide +kernel
theorem dX5_toWhole_114 : decode cX5_toWhole 114 = .ok (.iconst 0, 1) := by decide +kernel
theorem dX5_toWhole_115 : decode cX5_toWhole 115 = .ok (.goto 5, 3) := by decide +kernel
theorem dX5_toWhole_118 : decode cX5_toWhole 118 = .ok (.iload 9, 2) := by decide +kernel
theorem dX5_toWhole_120 : decode cX5_toWhole 120 = .ok (.istore 10, 2) := by decide +kernel
theorem dX5_toWhole_122 : decode cX5_toWhole 122 = .ok (.iload_n 0, 1) := by decide +kernel
theorem dX5_toWhole_123 : decode cX5_toWhole 123 = .ok (.iload 10, 2) := by decide +kernel
theorem dX5_toWhole_125 : decode cX5_toWhole 125 = .ok (.ifCond .eq 10, 3) := by decide +kernel
theorem dX5_toWhole_128 : decode cX5_toWhole 128 = .ok (.iload_n 0, 1) := by decide +kernel
theorem dX5_toWhole_129 : decode cX5_toWhole 129 = .ok (.invokestatic 111, 3) := by decide +kernel
theorem dX5_toWhole_132 : decode cX5_toWhole 132 = .ok (.goto 4, 3) := by decide +kernel
theorem dX5_toWhole_135 : decode cX5_toWhole 135 = .ok (.lconst 0, 1) := by decide +kernel
theorem dX5_toWhole_136 : decode cX5_toWhole 136 = .ok (.iload 4, 2) := by decide +kernel
theorem dX5_toWhole_138 : decode cX5_toWhole 138 = .ok (.invokestatic 114, 3) := by decide +kernel
theorem dX5_toWhole_141 : decode cX5_toWhole 141 = .ok (.lreturn, 1) := by decide +kernel
theorem dX5_toWhole_142 : decode cX5_toWhole 142 = .ok (.lconst 1, 1) := by decide +kernel
theorem dX5_toWhole_143 : decode cX5_toWhole 143 = .ok (.iload 7, 2) := by decide +kernel
theorem dX5_toWhole_145 : decode cX5_toWhole 145 = .ok (.iload 8, 2) := by decide +kernel
theorem dX5_toWhole_147 : decode cX5_toWhole 147 = .ok (.isub, 1) := by decide +kernel
theorem dX5_toWhole_148 : decode cX5_toWhole 148 = .ok (.lshl, 1) := by decide +kernel
theorem dX5_toWhole_149 : decode cX5_toWhole 149 = .ok (.lstore 10, 2) := by decide +kernel
theorem dX5_toWhole_151 : decode cX5_toWhole 151 = .ok (.lload 5, 2) := by decide +kernel
theorem dX5_toWhole_153 : decode cX5_toWhole 153 = .ok (.lload 10, 2) := by decide +kernel
theorem dX5_toWhole_155 : decode cX5_toWhole 155 = .ok (.lconst 1, 1) := by decide +kernel
theorem dX5_toWhole_156 : decode cX5_toWhole 156 = .ok (.lsub, 1) := by decide +kernel
theorem dX5_toWhole_157 : decode cX5_toWhole 157 = .ok (.land, 1) := by decide +kernel
theorem dX5_toWhole_158 : decode cX5_toWhole 158 = .ok (.lstore 12, 2) := by decide +kernel
theorem dX5_toWhole_160 : decode cX5_toWhole 160 = .ok (.lload 12, 2) := by decide +kernel
theorem dX5_toWhole_162 : decode cX5_toWhole 162 = .ok (.lconst 0, 1) := by decide +kernel
theorem dX5_toWhole_163 : decode cX5_toWhole 163 = .ok (.lcmp, 1) := by decide +kernel
theorem dX5_toWhole_164 : decode cX5_toWhole 164 = .ok (.ifCond .ne 5, 3) := by decide +kernel
theorem dX5_toWhole_167 : decode cX5_toWhole 167 = .ok (.lload_n 1, 1) := by decide +kernel
theorem dX5_toWhole_168 : decode cX5_toWhole 168 = .ok (.lreturn, 1) := by decide +kernel
theorem dX5_toWhole_169 : decode cX5_toWhole 169 = .ok (.iload 8, 2) := by decide +kernel
theorem dX5_toWhole_171 : decode cX5_toWhole 171 = .ok (.ifCond .eq 13, 3) := by decide +kernel
theorem dX5_toWhole_174 : decode cX5_toWhole 174 = .ok (.lload 5, 2) := by decide +kernel
theorem dX5_toWhole_176 : decode cX5_toWhole 176 = .ok (.lload 10, 2) := by decide +kernel
theorem dX5_toWhole_178 : decode cX5_toWhole 178 = .ok (.land, 1) := by decide +kernel
theorem dX5_toWhole_179 : decode cX5_toWhole 179 = .ok (.lconst 0, 1) := by decide +kernel
theorem dX5_toWhole_180 : decode cX5_toWhole 180 = .ok (.lcmp, 1) := by decide +kernel
theorem dX5_toWhole_181 : decode cX5_toWhole 181 = .ok (.ifCond .eq 7, 3) := by decide +kernel
theorem dX5_toWhole_184 : decode cX5_toWhole 184 = .ok (.iconst 1, 1) := by decide +kernel
theorem dX5_toWhole_185 : decode cX5_toWhole 185 = .ok (.goto 4, 3) := by decide +kernel
theorem dX5_toWhole_188 : decode cX5_toWhole 188 = .ok (.iconst 0, 1) := by decide +kernel
theorem dX5_toWhole_189 : decode cX5_toWhole 189 = .ok (.istore 14, 2) := by decide +kernel
theorem dX5_toWhole_191 : decode cX5_toWhole 191 = .ok (.iload_n 3, 1) := by decide +kernel
theorem dX5_toWhole_192 : decode cX5_toWhole 192 = .ok (.iconst 5, 1) := by decide +kernel
theorem dX5_toWhole_193 : decode cX5_toWhole 193 = .ok (.if_icmp .ne 40, 3) := by decide +kernel
theorem dX5_toWhole_196 : decode cX5_toWhole 196 = .ok (.lload 12, 2) := by decide +kernel
theorem dX5_toWhole_198 : decode cX5_toWhole 198 = .ok (.lload 10, 2) := by decide +kernel
theorem dX5_toWhole_200 : decode cX5_toWhole 200 = .ok (.ldc2_w 118, 3) := by decide +kernel
theorem dX5_toWhole_203 : decode cX5_toWhole 203 = .ok (.ldiv, 1) := by decide +kernel
theorem dX5_toWhole_204 : decode cX5_toWhole 204 = .ok (.lcmp, 1) := by decide +kernel
theorem dX5_toWhole_205 : decode cX5_toWhole 205 = .ok (.ifCond .gt 20, 3) := by decide +kernel
theorem dX5_toWhole_208 : decode cX5_toWhole 208 = .ok (.lload 12, 2) := by decide +kernel
theorem dX5_toWhole_210 : decode cX5_toWhole 210 = .ok (.lload 10, 2) := by decide +kernel
theorem dX5_toWhole_212 : decode cX5_toWhole 212 = .ok (.ldc2_w 118, 3) := by decide +kernel
theorem dX5_toWhole_215 : decode cX5_toWhole 215 = .ok (.ldiv, 1) := by decide +kernel
theorem dX5_toWhole_216 : decode cX5_toWhole 216 = .ok (.lcmp, 1) := by decide +kernel
theorem dX5_toWhole_217 : decode cX5_toWhole 217 = .ok (.ifCond .ne 12, 3) := by decide +kernel
theorem dX5_toWhole_220 : decode cX5_toWhole 220 = .ok (.iload 14, 2) := by decide +kernel
theorem dX5_toWhole_222 : decode cX5_toWhole 222 = .ok (.ifCond .eq 7, 3) := by decide +kernel
theorem dX5_toWhole_225 : decode cX5_toWhole 225 = .ok (.iconst 1, 1) := by decide +kernel
theorem dX5_toWhole_226 : decode cX5_toWhole 226 = .ok (.goto 9, 3) := by decide +kernel
theorem dX5_toWhole_229 : decode cX5_toWhole 229 = .ok (.iconst 0, 1) := by decide +kernel
theorem dX5_toWhole_230 : decode cX5_toWhole 230 = .ok (.goto 5, 3) := by decide +kernel
theorem dX5_toWhole_233 : decode cX5_toWhole 233 = .ok (.iload 9, 2) := by decide +kernel
theorem dX5_toWhole_235 : decode cX5_toWhole 235 = .ok (.istore 15, 2) := by decide +kernel
theorem dX5_toWhole_237 : decode cX5_toWhole 237 = .ok (.iload_n 0, 1) := by decide +kernel
theorem dX5_toWhole_238 : decode cX5_toWhole 238 = .ok (.iload 15, 2) := by decide +kernel
theorem dX5_toWhole_240 : decode cX5_toWhole 240 = .ok (.ifCond .eq 14, 3) := by decide +kernel
theorem dX5_toWhole_243 : decode cX5_toWhole 243 = .ok (.lload 5, 2) := by decide +kernel
theorem dX5_toWhole_245 : decode cX5_toWhole 245 = .ok (.lload 12, 2) := by decide +kernel
theorem dX5_toWhole_247 : decode cX5_toWhole 247 = .ok (.lsub, 1) := by decide +kernel
theorem dX5_toWhole_248 : decode cX5_toWhole 248 = .ok (.lload 10, 2) := by decide +kernel
theorem dX5_toWhole_250 : decode cX5_toWhole 250 = .ok (.ladd, 1) := by decide +kernel
theorem dX5_toWhole_251 : decode cX5_toWhole 251 = .ok (.goto 8, 3) := by decide +kernel
theorem dX5_toWhole_254 : decode cX5_toWhole 254 = .ok (.lload 5, 2) := by decide +kernel
theorem dX5_toWhole_256 : decode cX5_toWhole 256 = .ok (.lload 12, 2) := by decide +kernel
theorem dX5_toWhole_258 : decode cX5_toWhole 258 = .ok (.lsub, 1) := by decide +kernel
theorem dX5_toWhole_259 : decode cX5_toWhole 259 = .ok (.iload 4, 2) := by decide +kernel
theorem dX5_toWhole_261 : decode cX5_toWhole 261 = .ok (.invokestatic 114, 3) := by decide +kernel
theorem dX5_toWhole_264 : decode cX5_toWhole 264 = .ok (.lreturn, 1) := by decide +kernel
theorem dX5_changed_0 : decode cX5_changed 0 = .ok (.iload_n 1, 1) := by decide +kernel
theorem dX5_changed_1 : decode cX5_changed 1 = .ok (.tableswitch 113 0 7 #[47, 53, 61, 113, 113, 113, 69, 97], 47) := by decide +kernel
theorem dX5_changed_48 : decode cX5_changed 48 = .ok (.iload_n 0, 1) := by decide +kernel
theorem dX5_changed_49 : decode cX5_changed 49 = .ok (.lload_n 2, 1) := by decide +kernel
theorem dX5_changed_50 : decode cX5_changed 50 = .ok (.invokestatic 120, 3) := by decide +kernel
theorem dX5_changed_53 : decode cX5_changed 53 = .ok (.lreturn, 1) := by decide +kernel
theorem dX5_changed_54 : decode cX5_changed 54 = .ok (.iload_n 0, 1) := by decide +kernel
theorem dX5_changed_55 : decode cX5_changed 55 = .ok (.lload_n 2, 1) := by decide +kernel
theorem dX5_changed_56 : decode cX5_changed 56 = .ok (.lload 4, 2) := by decide +kernel
theorem dX5_changed_58 : decode cX5_changed 58 = .ok (.invokestatic 123, 3) := by decide +kernel
theorem dX5_changed_61 : decode cX5_changed 61 = .ok (.lreturn, 1) := by decide +kernel
theorem dX5_changed_62 : decode cX5_changed 62 = .ok (.iload_n 0, 1) := by decide +kernel
theorem dX5_changed_63 : decode cX5_changed 63 = .ok (.lload_n 2, 1) := by decide +kernel
theorem dX5_changed_64 : decode cX5_changed 64 = .ok (.lload 4, 2) := by decide +kernel
theorem dX5_changed_66 : decode cX5_changed 66 = .ok (.invokestatic 127, 3) := by decide +kernel
theorem dX5_changed_69 : decode cX5_changed 69 = .ok (.lreturn, 1) := by decide +kernel
theorem dX5_changed_70 : decode cX5_changed 70 = .ok (.iload_n 0, 1) := by decide +kernel
theorem dX5_changed_71 : decode cX5_changed 71 = .ok (.lload_n 2, 1) := by decide +kernel
theorem dX5_changed_72 : decode cX5_changed 72 = .ok (.invokestatic 91, 3) := by decide +kernel
theorem dX5_changed_75 : decode cX5_changed 75 = .ok (.lconst 0, 1) := by decide +kernel
theorem dX5_changed_76 : decode cX5_changed 76 = .ok (.lcmp, 1) := by decide +kernel
theorem dX5_changed_77 : decode cX5_changed 77 = .ok (.ifCond .ne 7, 3) := by decide +kernel
theorem dX5_changed_80 : decode cX5_changed 80 = .ok (.lload_n 2, 1) := by decide +kernel
theorem dX5_changed_81 : decode cX5_changed 81 = .ok (.goto 16, 3) := by decide +kernel
theorem dX5_changed_84 : decode cX5_changed 84 = .ok (.iload_n 0, 1) := by decide +kernel
theorem dX5_changed_85 : decode cX5_changed 85 = .ok (.iload_n 0, 1) := by decide +kernel
theorem dX5_changed_86 : decode cX5_changed 86 = .ok (.invokestatic 111, 3) := by decide +kernel
theorem dX5_changed_89 : decode cX5_changed 89 = .ok (.iload_n 0, 1) := by decide +kernel
theorem dX5_changed_90 : decode cX5_changed 90 = .ok (.lload_n 2, 1) := by decide +kernel
theorem dX5_changed_91 : decode cX5_changed 91 = .ok (.invokestatic 97, 3) := by decide +kernel
theorem dX5_changed_94 : decode cX5_changed 94 = .ok (.invokestatic 114, 3) := by decide +kernel
theorem dX5_changed_97 : decode cX5_changed 97 = .ok (.lreturn, 1) := by decide +kernel
theorem dX5_changed_98 : decode cX5_changed 98 = .ok (.iload_n 0, 1) := by decide +kernel
theorem dX5_changed_99 : decode cX5_changed 99 = .ok (.iload_n 0, 1) := by decide +kernel
theorem dX5_changed_100 : decode cX5_changed 100 = .ok (.lload_n 2, 1) := by decide +kernel
theorem dX5_changed_101 : decode cX5_changed 101 = .ok (.invokestatic 91, 3) := by decide +kernel
theorem dX5_changed_104 : decode cX5_changed 104 = .ok (.iload_n 0, 1) := by decide +kernel
theorem dX5_changed_105 : decode cX5_changed 105 = .ok (.lload 4, 2) := by decide +kernel
theorem dX5_changed_107 : decode cX5_changed 107 = .ok (.invokestatic 97, 3) := by decide +kernel
theorem dX5_changed_110 : decode cX5_changed 110 = .ok (.invokestatic 114, 3) := by decide +kernel
theorem dX5_changed_113 : decode cX5_changed 113 = .ok (.lreturn, 1) := by decide +kernel
theorem dX5_changed_114 : decode cX5_changed 114 = .ok (.iload_n 0, 1) := by decide +kernel
theorem dX5_changed_115 : decode cX5_changed 115 = .ok (.lload_n 2, 1) := by decide +kernel
theorem dX5_changed_116 : decode cX5_changed 116 = .ok (.iload_n 1, 1) := by decide +kernel
theorem dX5_changed_117 : decode cX5_changed 117 = .ok (.invokestatic 130, 3) := by decide +kernel
theorem dX5_changed_120 : decode cX5_changed 120 = .ok (.lreturn, 1) := by decide +kernel
theorem dX5_takes_0 : decode cX5_takes 0 = .ok (.iload_n 0, 1) := by decide +kernel
theorem dX5_takes_1 : decode cX5_takes 1 = .ok (.iconst 1, 1) := by decide +kernel
theorem dX5_takes_2 : decode cX5_takes 2 = .ok (.if_icmp .eq 14, 3) := by decide +kernel
theorem dX5_takes_5 : decode cX5_takes 5 = .ok (.iload_n 0, 1) := by decide +kernel
theorem dX5_takes_6 : decode cX5_takes 6 = .ok (.iconst 2, 1) := by decide +kernel
theorem dX5_takes_7 : decode cX5_takes 7 = .ok (.if_icmp .eq 9, 3) := by decide +kernel
theorem dX5_takes_10 : decode cX5_takes 10 = .ok (.iload_n 0, 1) := by decide +kernel
theorem dX5_takes_11 : decode cX5_takes 11 = .ok (.bipush 7, 2) := by decide +kernel
theorem dX5_takes_13 : decode cX5_takes 13 = .ok (.if_icmp .ne 7, 3) := by decide +kernel
theorem dX5_takes_16 : decode cX5_takes 16 = .ok (.iconst 1, 1) := by decide +kernel
theorem dX5_takes_17 : decode cX5_takes 17 = .ok (.goto 4, 3) := by decide +kernel
theorem dX5_takes_20 : decode cX5_takes 20 = .ok (.iconst 0, 1) := by decide +kernel
theorem dX5_takes_21 : decode cX5_takes 21 = .ok (.ireturn, 1) := by decide +kernel
theorem dX5_isStep_0 : decode cX5_isStep 0 = .ok (.iload_n 1, 1) := by decide +kernel
theorem dX5_isStep_1 : decode cX5_isStep 1 = .ok (.ifCond .lt 24, 3) := by decide +kernel
theorem dX5_isStep_4 : decode cX5_isStep 4 = .ok (.iload_n 1, 1) := by decide +kernel
theorem dX5_isStep_5 : decode cX5_isStep 5 = .ok (.iload_n 0, 1) := by decide +kernel
theorem dX5_isStep_6 : decode cX5_isStep 6 = .ok (.invokestatic 84, 3) := by decide +kernel
theorem dX5_isStep_9 : decode cX5_isStep 9 = .ok (.ifCond .eq 8, 3) := by decide +kernel
theorem dX5_isStep_12 : decode cX5_isStep 12 = .ok (.bipush 8, 2) := by decide +kernel
theorem dX5_isStep_14 : decode cX5_isStep 14 = .ok (.goto 4, 3) := by decide +kernel
theorem dX5_isStep_17 : decode cX5_isStep 17 = .ok (.iconst 3, 1) := by decide +kernel
theorem dX5_isStep_18 : decode cX5_isStep 18 = .ok (.if_icmp .ge 7, 3) := by decide +kernel
theorem dX5_isStep_21 : decode cX5_isStep 21 = .ok (.iconst 1, 1) := by decide +kernel
theorem dX5_isStep_22 : decode cX5_isStep 22 = .ok (.goto 4, 3) := by decide +kernel
theorem dX5_isStep_25 : decode cX5_isStep 25 = .ok (.iconst 0, 1) := by decide +kernel
theorem dX5_isStep_26 : decode cX5_isStep 26 = .ok (.ireturn, 1) := by decide +kernel
theorem dX5_single_0 : decode cX5_single 0 = .ok (.lload_n 0, 1) := by decide +kernel
theorem dX5_single_1 : decode cX5_single 1 = .ok (.l2i, 1) := by decide +kernel
theorem dX5_single_2 : decode cX5_single 2 = .ok (.invokestatic 134, 3) := by decide +kernel
theorem dX5_single_5 : decode cX5_single 5 = .ok (.freturn, 1) := by decide +kernel
theorem dX5_real_0 : decode cX5_real 0 = .ok (.lload_n 0, 1) := by decide +kernel
theorem dX5_real_1 : decode cX5_real 1 = .ok (.invokestatic 140, 3) := by decide +kernel
theorem dX5_real_4 : decode cX5_real 4 = .ok (.dreturn, 1) := by decide +kernel
theorem dX5_swing_0 : decode cX5_swing 0 = .ok (.iload_n 0, 1) := by decide +kernel
theorem dX5_swing_1 : decode cX5_swing 1 = .ok (.lload_n 1, 1) := by decide +kernel
theorem dX5_swing_2 : decode cX5_swing 2 = .ok (.invokestatic 104, 3) := by decide +kernel
theorem dX5_swing_5 : decode cX5_swing 5 = .ok (.iload_n 0, 1) := by decide +kernel
theorem dX5_swing_6 : decode cX5_swing 6 = .ok (.lload_n 3, 1) := by decide +kernel
theorem dX5_swing_7 : decode cX5_swing 7 = .ok (.invokestatic 104, 3) := by decide +kernel
theorem dX5_swing_10 : decode cX5_swing 10 = .ok (.lcmp, 1) := by decide +kernel
theorem dX5_swing_11 : decode cX5_swing 11 = .ok (.ifCond .ne 5, 3) := by decide +kernel
theorem dX5_swing_14 : decode cX5_swing 14 = .ok (.lconst 0, 1) := by decide +kernel
theorem dX5_swing_15 : decode cX5_swing 15 = .ok (.lreturn, 1) := by decide +kernel
theorem dX5_swing_16 : decode cX5_swing 16 = .ok (.iload_n 0, 1) := by decide +kernel
theorem dX5_swing_17 : decode cX5_swing 17 = .ok (.iconst 2, 1) := by decide +kernel
theorem dX5_swing_18 : decode cX5_swing 18 = .ok (.if_icmp .ne 21, 3) := by decide +kernel
theorem dX5_swing_21 : decode cX5_swing 21 = .ok (.iload_n 0, 1) := by decide +kernel
theorem dX5_swing_22 : decode cX5_swing 22 = .ok (.lload_n 1, 1) := by decide +kernel
theorem dX5_swing_23 : decode cX5_swing 23 = .ok (.invokestatic 146, 3) := by decide +kernel
theorem dX5_swing_26 : decode cX5_swing 26 = .ok (.lload_n 3, 1) := by decide +kernel
theorem dX5_swing_27 : decode cX5_swing 27 = .ok (.invokestatic 146, 3) := by decide +kernel
theorem dX5_swing_30 : decode cX5_swing 30 = .ok (.fsub, 1) := by decide +kernel
theorem dX5_swing_31 : decode cX5_swing 31 = .ok (.invokestatic 150, 3) := by decide +kernel
theorem dX5_swing_34 : decode cX5_swing 34 = .ok (.i2l, 1) := by decide +kernel
theorem dX5_swing_35 : decode cX5_swing 35 = .ok (.invokestatic 120, 3) := by decide +kernel
theorem dX5_swing_38 : decode cX5_swing 38 = .ok (.lreturn, 1) := by decide +kernel
theorem dX5_swing_39 : decode cX5_swing 39 = .ok (.iload_n 0, 1) := by decide +kernel
theorem dX5_swing_40 : decode cX5_swing 40 = .ok (.iconst 3, 1) := by decide +kernel
theorem dX5_swing_41 : decode cX5_swing 41 = .ok (.if_icmp .ne 20, 3) := by decide +kernel
theorem dX5_swing_44 : decode cX5_swing 44 = .ok (.iload_n 0, 1) := by decide +kernel
theorem dX5_swing_45 : decode cX5_swing 45 = .ok (.lload_n 1, 1) := by decide +kernel
theorem dX5_swing_46 : decode cX5_swing 46 = .ok (.invokestatic 154, 3) := by decide +kernel
theorem dX5_swing_49 : decode cX5_swing 49 = .ok (.lload_n 3, 1) := by decide +kernel
theorem dX5_swing_50 : decode cX5_swing 50 = .ok (.invokestatic 154, 3) := by decide +kernel
theorem dX5_swing_53 : decode cX5_swing 53 = .ok (.dsub, 1) := by decide +kernel
theorem dX5_swing_54 : decode cX5_swing 54 = .ok (.invokestatic 157, 3) := by decide +kernel
theorem dX5_swing_57 : decode cX5_swing 57 = .ok (.invokestatic 120, 3) := by decide +kernel
theorem dX5_swing_60 : decode cX5_swing 60 = .ok (.lreturn, 1) := by decide +kernel
theorem dX5_swing_61 : decode cX5_swing 61 = .ok (.iload_n 0, 1) := by decide +kernel
theorem dX5_swing_62 : decode cX5_swing 62 = .ok (.iload_n 0, 1) := by decide +kernel
theorem dX5_swing_63 : decode cX5_swing 63 = .ok (.lload_n 1, 1) := by decide +kernel
theorem dX5_swing_64 : decode cX5_swing 64 = .ok (.lload_n 3, 1) := by decide +kernel
theorem dX5_swing_65 : decode cX5_swing 65 = .ok (.lsub, 1) := by decide +kernel
theorem dX5_swing_66 : decode cX5_swing 66 = .ok (.invokestatic 88, 3) := by decide +kernel
theorem dX5_swing_69 : decode cX5_swing 69 = .ok (.invokestatic 120, 3) := by decide +kernel
theorem dX5_swing_72 : decode cX5_swing 72 = .ok (.lreturn, 1) := by decide +kernel
theorem dX5_sum_0 : decode cX5_sum 0 = .ok (.iload_n 0, 1) := by decide +kernel
theorem dX5_sum_1 : decode cX5_sum 1 = .ok (.iconst 2, 1) := by decide +kernel
theorem dX5_sum_2 : decode cX5_sum 2 = .ok (.if_icmp .ne 17, 3) := by decide +kernel
theorem dX5_sum_5 : decode cX5_sum 5 = .ok (.lload_n 1, 1) := by decide +kernel
theorem dX5_sum_6 : decode cX5_sum 6 = .ok (.invokestatic 146, 3) := by decide +kernel
theorem dX5_sum_9 : decode cX5_sum 9 = .ok (.lload_n 3, 1) := by decide +kernel
theorem dX5_sum_10 : decode cX5_sum 10 = .ok (.invokestatic 146, 3) := by decide +kernel
theorem dX5_sum_13 : decode cX5_sum 13 = .ok (.fadd, 1) := by decide +kernel
theorem dX5_sum_14 : decode cX5_sum 14 = .ok (.invokestatic 150, 3) := by decide +kernel
theorem dX5_sum_17 : decode cX5_sum 17 = .ok (.i2l, 1) := by decide +kernel
theorem dX5_sum_18 : decode cX5_sum 18 = .ok (.lreturn, 1) := by decide +kernel
theorem dX5_sum_19 : decode cX5_sum 19 = .ok (.iload_n 0, 1) := by decide +kernel
theorem dX5_sum_20 : decode cX5_sum 20 = .ok (.iconst 3, 1) := by decide +kernel
theorem dX5_sum_21 : decode cX5_sum 21 = .ok (.if_icmp .ne 16, 3) := by decide +kernel
theorem dX5_sum_24 : decode cX5_sum 24 = .ok (.lload_n 1, 1) := by decide +kernel
theorem dX5_sum_25 : decode cX5_sum 25 = .ok (.invokestatic 154, 3) := by decide +kernel
theorem dX5_sum_28 : decode cX5_sum 28 = .ok (.lload_n 3, 1) := by decide +kernel
theorem dX5_sum_29 : decode cX5_sum 29 = .ok (.invokestatic 154, 3) := by decide +kernel
theorem dX5_sum_32 : decode cX5_sum 32 = .ok (.dadd, 1) := by decide +kernel
theorem dX5_sum_33 : decode cX5_sum 33 = .ok (.invokestatic 157, 3) := by decide +kernel
theorem dX5_sum_36 : decode cX5_sum 36 = .ok (.lreturn, 1) := by decide +kernel
theorem dX5_sum_37 : decode cX5_sum 37 = .ok (.iload_n 0, 1) := by decide +kernel
theorem dX5_sum_38 : decode cX5_sum 38 = .ok (.lload_n 1, 1) := by decide +kernel
theorem dX5_sum_39 : decode cX5_sum 39 = .ok (.lload_n 3, 1) := by decide +kernel
theorem dX5_sum_40 : decode cX5_sum 40 = .ok (.ladd, 1) := by decide +kernel
theorem dX5_sum_41 : decode cX5_sum 41 = .ok (.invokestatic 88, 3) := by decide +kernel
theorem dX5_sum_44 : decode cX5_sum 44 = .ok (.lreturn, 1) := by decide +kernel
theorem dX5_mount_0 : decode cX5_mount 0 = .ok (.aload_n 0, 1) := by decide +kernel
theorem dX5_mount_1 : decode cX5_mount 1 = .ok (.iconst 0, 1) := by decide +kernel
theorem dX5_mount_2 : decode cX5_mount 2 = .ok (.putfield 53, 3) := by decide +kernel
theorem dX5_mount_5 : decode cX5_mount 5 = .ok (.iload_n 1, 1) := by decide +kernel
theorem dX5_mount_6 : decode cX5_mount 6 = .ok (.ifCond .lt 8, 3) := by decide +kernel
theorem dX5_mount_9 : decode cX5_mount 9 = .ok (.iload_n 1, 1) := by decide +kernel
theorem dX5_mount_10 : decode cX5_mount 10 = .ok (.iconst 3, 1) := by decide +kernel
theorem dX5_mount_11 : decode cX5_mount 11 = .ok (.if_icmp .le 9, 3) := by decide +kernel
theorem dX5_mount_14 : decode cX5_mount 14 = .ok (.aload_n 0, 1) := by decide +kernel
theorem dX5_mount_15 : decode cX5_mount 15 = .ok (.iconst 1, 1) := by decide +kernel
theorem dX5_mount_16 : decode cX5_mount 16 = .ok (.invokevirtual 161, 3) := by decide +kernel
theorem dX5_mount_19 : decode cX5_mount 19 = .ok (.ireturn, 1) := by decide +kernel
theorem dX5_mount_20 : decode cX5_mount 20 = .ok (.aload_n 0, 1) := by decide +kernel
theorem dX5_mount_21 : decode cX5_mount 21 = .ok (.getfield 57, 3) := by decide +kernel
theorem dX5_mount_24 : decode cX5_mount 24 = .ok (.bipush 8, 2) := by decide +kernel
theorem dX5_mount_26 : decode cX5_mount 26 = .ok (.if_icmp .ne 9, 3) := by decide +kernel
theorem dX5_mount_29 : decode cX5_mount 29 = .ok (.aload_n 0, 1) := by decide +kernel
theorem dX5_mount_30 : decode cX5_mount 30 = .ok (.iconst 2, 1) := by decide +kernel
theorem dX5_mount_31 : decode cX5_mount 31 = .ok (.invokevirtual 161, 3) := by decide +kernel
theorem dX5_mount_34 : decode cX5_mount 34 = .ok (.ireturn, 1) := by decide +kernel
theorem dX5_mount_35 : decode cX5_mount 35 = .ok (.aload_n 0, 1) := by decide +kernel
theorem dX5_mount_36 : decode cX5_mount 36 = .ok (.getfield 57, 3) := by decide +kernel
theorem dX5_mount_39 : decode cX5_mount 39 = .ok (.istore_n 2, 1) := by decide +kernel
theorem dX5_mount_40 : decode cX5_mount 40 = .ok (.aload_n 0, 1) := by decide +kernel
theorem dX5_mount_41 : decode cX5_mount 41 = .ok (.dup, 1) := by decide +kernel
theorem dX5_mount_42 : decode cX5_mount 42 = .ok (.getfield 57, 3) := by decide +kernel
theorem dX5_mount_45 : decode cX5_mount 45 = .ok (.iconst 1, 1) := by decide +kernel
theorem dX5_mount_46 : decode cX5_mount 46 = .ok (.iadd, 1) := by decide +kernel
theorem dX5_mount_47 : decode cX5_mount 47 = .ok (.putfield 57, 3) := by decide +kernel
theorem dX5_mount_50 : decode cX5_mount 50 = .ok (.aload_n 0, 1) := by decide +kernel
theorem dX5_mount_51 : decode cX5_mount 51 = .ok (.getfield 7, 3) := by decide +kernel
theorem dX5_mount_54 : decode cX5_mount 54 = .ok (.iload_n 2, 1) := by decide +kernel
theorem dX5_mount_55 : decode cX5_mount 55 = .ok (.iload_n 1, 1) := by decide +kernel
theorem dX5_mount_56 : decode cX5_mount 56 = .ok (.iastore, 1) := by decide +kernel
theorem dX5_mount_57 : decode cX5_mount 57 = .ok (.aload_n 0, 1) := by decide +kernel
theorem dX5_mount_58 : decode cX5_mount 58 = .ok (.getfield 26, 3) := by decide +kernel
theorem dX5_mount_61 : decode cX5_mount 61 = .ok (.iload_n 2, 1) := by decide +kernel
theorem dX5_mount_62 : decode cX5_mount 62 = .ok (.iload_n 1, 1) := by decide +kernel
theorem dX5_mount_63 : decode cX5_mount 63 = .ok (.ifCond .ne 9, 3) := by decide +kernel
theorem dX5_mount_66 : decode cX5_mount 66 = .ok (.ldc2_w 164, 3) := by decide +kernel
theorem dX5_mount_69 : decode cX5_mount 69 = .ok (.goto 23, 3) := by decide +kernel
theorem dX5_mount_72 : decode cX5_mount 72 = .ok (.iload_n 1, 1) := by decide +kernel
theorem dX5_mount_73 : decode cX5_mount 73 = .ok (.iconst 1, 1) := by decide +kernel
theorem dX5_mount_74 : decode cX5_mount 74 = .ok (.if_icmp .ne 9, 3) := by decide +kernel
theorem dX5_mount_77 : decode cX5_mount 77 = .ok (.ldc2_w 62, 3) := by decide +kernel
theorem dX5_mount_80 : decode cX5_mount 80 = .ok (.goto 12, 3) := by decide +kernel
theorem dX5_mount_83 : decode cX5_mount 83 = .ok (.iload_n 1, 1) := by decide +kernel
theorem dX5_mount_84 : decode cX5_mount 84 = .ok (.iload_n 1, 1) := by decide +kernel
theorem dX5_mount_85 : decode cX5_mount 85 = .ok (.invokestatic 94, 3) := by decide +kernel
theorem dX5_mount_88 : decode cX5_mount 88 = .ok (.iconst 1, 1) := by decide +kernel
theorem dX5_mount_89 : decode cX5_mount 89 = .ok (.invokestatic 114, 3) := by decide +kernel
theorem dX5_mount_92 : decode cX5_mount 92 = .ok (.lastore, 1) := by decide +kernel
theorem dX5_mount_93 : decode cX5_mount 93 = .ok (.aload_n 0, 1) := by decide +kernel
theorem dX5_mount_94 : decode cX5_mount 94 = .ok (.getfield 29, 3) := by decide +kernel
theorem dX5_mount_97 : decode cX5_mount 97 = .ok (.iload_n 2, 1) := by decide +kernel
theorem dX5_mount_98 : decode cX5_mount 98 = .ok (.iload_n 1, 1) := by decide +kernel
theorem dX5_mount_99 : decode cX5_mount 99 = .ok (.ifCond .ne 9, 3) := by decide +kernel
theorem dX5_mount_102 : decode cX5_mount 102 = .ok (.ldc2_w 166, 3) := by decide +kernel
theorem dX5_mount_105 : decode cX5_mount 105 = .ok (.goto 23, 3) := by decide +kernel
theorem dX5_mount_108 : decode cX5_mount 108 = .ok (.iload_n 1, 1) := by decide +kernel
theorem dX5_mount_109 : decode cX5_mount 109 = .ok (.iconst 1, 1) := by decide +kernel
theorem dX5_mount_110 : decode cX5_mount 110 = .ok (.if_icmp .ne 9, 3) := by decide +kernel
theorem dX5_mount_113 : decode cX5_mount 113 = .ok (.ldc2_w 168, 3) := by decide +kernel
theorem dX5_mount_116 : decode cX5_mount 116 = .ok (.goto 12, 3) := by decide +kernel
theorem dX5_mount_119 : decode cX5_mount 119 = .ok (.iload_n 1, 1) := by decide +kernel
theorem dX5_mount_120 : decode cX5_mount 120 = .ok (.iload_n 1, 1) := by decide +kernel
theorem dX5_mount_121 : decode cX5_mount 121 = .ok (.invokestatic 94, 3) := by decide +kernel
theorem dX5_mount_124 : decode cX5_mount 124 = .ok (.iconst 0, 1) := by decide +kernel
theorem dX5_mount_125 : decode cX5_mount 125 = .ok (.invokestatic 114, 3) := by decide +kernel
theorem dX5_mount_128 : decode cX5_mount 128 = .ok (.lastore, 1) := by decide +kernel
theorem dX5_mount_129 : decode cX5_mount 129 = .ok (.iload_n 2, 1) := by decide +kernel
theorem dX5_mount_130 : decode cX5_mount 130 = .ok (.ireturn, 1) := by decide +kernel
theorem dX5_link_0 : decode cX5_link 0 = .ok (.aload_n 0, 1) := by decide +kernel
theorem dX5_link_1 : decode cX5_link 1 = .ok (.getfield 13, 3) := by decide +kernel
theorem dX5_link_4 : decode cX5_link 4 = .ok (.iload_n 1, 1) := by decide +kernel
theorem dX5_link_5 : decode cX5_link 5 = .ok (.iaload, 1) := by decide +kernel
theorem dX5_link_6 : decode cX5_link 6 = .ok (.bipush 6, 2) := by decide +kernel
theorem dX5_link_8 : decode cX5_link 8 = .ok (.if_icmp .ne 9, 3) := by decide +kernel
theorem dX5_link_11 : decode cX5_link 11 = .ok (.aload_n 0, 1) := by decide +kernel
theorem dX5_link_12 : decode cX5_link 12 = .ok (.iconst 3, 1) := by decide +kernel
theorem dX5_link_13 : decode cX5_link 13 = .ok (.invokevirtual 161, 3) := by decide +kernel
theorem dX5_link_16 : decode cX5_link 16 = .ok (.ireturn, 1) := by decide +kernel
theorem dX5_link_17 : decode cX5_link 17 = .ok (.bipush 6, 2) := by decide +kernel
theorem dX5_link_19 : decode cX5_link 19 = .ok (.iload_n 1, 1) := by decide +kernel
theorem dX5_link_20 : decode cX5_link 20 = .ok (.imul, 1) := by decide +kernel
theorem dX5_link_21 : decode cX5_link 21 = .ok (.aload_n 0, 1) := by decide +kernel
theorem dX5_link_22 : decode cX5_link 22 = .ok (.getfield 13, 3) := by decide +kernel
theorem dX5_link_25 : decode cX5_link 25 = .ok (.iload_n 1, 1) := by decide +kernel
theorem dX5_link_26 : decode cX5_link 26 = .ok (.iaload, 1) := by decide +kernel
theorem dX5_link_27 : decode cX5_link 27 = .ok (.iadd, 1) := by decide +kernel
theorem dX5_link_28 : decode cX5_link 28 = .ok (.istore 6, 2) := by decide +kernel
theorem dX5_link_30 : decode cX5_link 30 = .ok (.aload_n 0, 1) := by decide +kernel
theorem dX5_link_31 : decode cX5_link 31 = .ok (.getfield 16, 3) := by decide +kernel
theorem dX5_link_34 : decode cX5_link 34 = .ok (.iload 6, 2) := by decide +kernel
theorem dX5_link_36 : decode cX5_link 36 = .ok (.iload_n 2, 1) := by decide +kernel
theorem dX5_link_37 : decode cX5_link 37 = .ok (.iastore, 1) := by decide +kernel
theorem dX5_link_38 : decode cX5_link 38 = .ok (.aload_n 0, 1) := by decide +kernel
theorem dX5_link_39 : decode cX5_link 39 = .ok (.getfield 22, 3) := by decide +kernel
theorem dX5_link_42 : decode cX5_link 42 = .ok (.iload 6, 2) := by decide +kernel
theorem dX5_link_44 : decode cX5_link 44 = .ok (.lload_n 3, 1) := by decide +kernel
theorem dX5_link_45 : decode cX5_link 45 = .ok (.lastore, 1) := by decide +kernel
theorem dX5_link_46 : decode cX5_link 46 = .ok (.aload_n 0, 1) := by decide +kernel
theorem dX5_link_47 : decode cX5_link 47 = .ok (.getfield 19, 3) := by decide +kernel
theorem dX5_link_50 : decode cX5_link 50 = .ok (.iload 6, 2) := by decide +kernel
theorem dX5_link_52 : decode cX5_link 52 = .ok (.iload 5, 2) := by decide +kernel
theorem dX5_link_54 : decode cX5_link 54 = .ok (.iastore, 1) := by decide +kernel
theorem dX5_link_55 : decode cX5_link 55 = .ok (.aload_n 0, 1) := by decide +kernel
theorem dX5_link_56 : decode cX5_link 56 = .ok (.getfield 13, 3) := by decide +kernel
theorem dX5_link_59 : decode cX5_link 59 = .ok (.iload_n 1, 1) := by decide +kernel
theorem dX5_link_60 : decode cX5_link 60 = .ok (.dup2, 1) := by decide +kernel
theorem dX5_link_61 : decode cX5_link 61 = .ok (.iaload, 1) := by decide +kernel
theorem dX5_link_62 : decode cX5_link 62 = .ok (.iconst 1, 1) := by decide +kernel
theorem dX5_link_63 : decode cX5_link 63 = .ok (.iadd, 1) := by decide +kernel
theorem dX5_link_64 : decode cX5_link 64 = .ok (.iastore, 1) := by decide +kernel
theorem dX5_link_65 : decode cX5_link 65 = .ok (.aload_n 0, 1) := by decide +kernel
theorem dX5_link_66 : decode cX5_link 66 = .ok (.getfield 13, 3) := by decide +kernel
theorem dX5_link_69 : decode cX5_link 69 = .ok (.iload_n 1, 1) := by decide +kernel
theorem dX5_link_70 : decode cX5_link 70 = .ok (.iaload, 1) := by decide +kernel
theorem dX5_link_71 : decode cX5_link 71 = .ok (.ireturn, 1) := by decide +kernel
theorem dX5_step_0 : decode cX5_step 0 = .ok (.aload_n 0, 1) := by decide +kernel
theorem dX5_step_1 : decode cX5_step 1 = .ok (.iconst 0, 1) := by decide +kernel
theorem dX5_step_2 : decode cX5_step 2 = .ok (.putfield 53, 3) := by decide +kernel
theorem dX5_step_5 : decode cX5_step 5 = .ok (.aload_n 0, 1) := by decide +kernel
theorem dX5_step_6 : decode cX5_step 6 = .ok (.iload_n 1, 1) := by decide +kernel
theorem dX5_step_7 : decode cX5_step 7 = .ok (.invokevirtual 170, 3) := by decide +kernel
theorem dX5_step_10 : decode cX5_step 10 = .ok (.ifCond .ne 9, 3) := by decide +kernel
theorem dX5_step_13 : decode cX5_step 13 = .ok (.aload_n 0, 1) := by decide +kernel
theorem dX5_step_14 : decode cX5_step 14 = .ok (.iconst 1, 1) := by decide +kernel
theorem dX5_step_15 : decode cX5_step 15 = .ok (.invokevirtual 161, 3) := by decide +kernel
theorem dX5_step_18 : decode cX5_step 18 = .ok (.ireturn, 1) := by decide +kernel
theorem dX5_step_19 : decode cX5_step 19 = .ok (.aload_n 0, 1) := by decide +kernel
theorem dX5_step_20 : decode cX5_step 20 = .ok (.getfield 7, 3) := by decide +kernel
theorem dX5_step_23 : decode cX5_step 23 = .ok (.iload_n 1, 1) := by decide +kernel
theorem dX5_step_24 : decode cX5_step 24 = .ok (.iaload, 1) := by decide +kernel
theorem dX5_step_25 : decode cX5_step 25 = .ok (.istore 5, 2) := by decide +kernel
theorem dX5_step_27 : decode cX5_step 27 = .ok (.iload 5, 2) := by decide +kernel
theorem dX5_step_29 : decode cX5_step 29 = .ok (.iload_n 2, 1) := by decide +kernel
theorem dX5_step_30 : decode cX5_step 30 = .ok (.invokestatic 173, 3) := by decide +kernel
theorem dX5_step_33 : decode cX5_step 33 = .ok (.ifCond .eq 19, 3) := by decide +kernel
theorem dX5_step_36 : decode cX5_step 36 = .ok (.iload_n 2, 1) := by decide +kernel
theorem dX5_step_37 : decode cX5_step 37 = .ok (.invokestatic 177, 3) := by decide +kernel
theorem dX5_step_40 : decode cX5_step 40 = .ok (.ifCond .eq 18, 3) := by decide +kernel
theorem dX5_step_43 : decode cX5_step 43 = .ok (.iload 5, 2) := by decide +kernel
theorem dX5_step_45 : decode cX5_step 45 = .ok (.lload_n 3, 1) := by decide +kernel
theorem dX5_step_46 : decode cX5_step 46 = .ok (.invokestatic 180, 3) := by decide +kernel
theorem dX5_step_49 : decode cX5_step 49 = .ok (.ifCond .eq 9, 3) := by decide +kernel
theorem dX5_step_52 : decode cX5_step 52 = .ok (.aload_n 0, 1) := by decide +kernel
theorem dX5_step_53 : decode cX5_step 53 = .ok (.iconst 2, 1) := by decide +kernel
theorem dX5_step_54 : decode cX5_step 54 = .ok (.invokevirtual 161, 3) := by decide +kernel
theorem dX5_step_57 : decode cX5_step 57 = .ok (.ireturn, 1) := by decide +kernel
theorem dX5_step_58 : decode cX5_step 58 = .ok (.aload_n 0, 1) := by decide +kernel
theorem dX5_step_59 : decode cX5_step 59 = .ok (.iload_n 1, 1) := by decide +kernel
theorem dX5_step_60 : decode cX5_step 60 = .ok (.iload_n 2, 1) := by decide +kernel
theorem dX5_step_61 : decode cX5_step 61 = .ok (.iload 5, 2) := by decide +kernel
theorem dX5_step_63 : decode cX5_step 63 = .ok (.lload_n 3, 1) := by decide +kernel
theorem dX5_step_64 : decode cX5_step 64 = .ok (.invokestatic 88, 3) := by decide +kernel
theorem dX5_step_67 : decode cX5_step 67 = .ok (.iconst (-1), 1) := by decide +kernel
theorem dX5_step_68 : decode cX5_step 68 = .ok (.invokevirtual 183, 3) := by decide +kernel
theorem dX5_step_71 : decode cX5_step 71 = .ok (.ireturn, 1) := by decide +kernel
theorem dX5_follow_0 : decode cX5_follow 0 = .ok (.aload_n 0, 1) := by decide +kernel
theorem dX5_follow_1 : decode cX5_follow 1 = .ok (.iconst 0, 1) := by decide +kernel
theorem dX5_follow_2 : decode cX5_follow 2 = .ok (.putfield 53, 3) := by decide +kernel
theorem dX5_follow_5 : decode cX5_follow 5 = .ok (.aload_n 0, 1) := by decide +kernel
theorem dX5_follow_6 : decode cX5_follow 6 = .ok (.iload_n 1, 1) := by decide +kernel
theorem dX5_follow_7 : decode cX5_follow 7 = .ok (.invokevirtual 170, 3) := by decide +kernel
theorem dX5_follow_10 : decode cX5_follow 10 = .ok (.ifCond .eq 11, 3) := by decide +kernel
theorem dX5_follow_13 : decode cX5_follow 13 = .ok (.aload_n 0, 1) := by decide +kernel
theorem dX5_follow_14 : decode cX5_follow 14 = .ok (.iload_n 3, 1) := by decide +kernel
theorem dX5_follow_15 : decode cX5_follow 15 = .ok (.invokevirtual 170, 3) := by decide +kernel
theorem dX5_follow_18 : decode cX5_follow 18 = .ok (.ifCond .ne 9, 3) := by decide +kernel
theorem dX5_follow_21 : decode cX5_follow 21 = .ok (.aload_n 0, 1) := by decide +kernel
theorem dX5_follow_22 : decode cX5_follow 22 = .ok (.iconst 1, 1) := by decide +kernel
theorem dX5_follow_23 : decode cX5_follow 23 = .ok (.invokevirtual 161, 3) := by decide +kernel
theorem dX5_follow_26 : decode cX5_follow 26 = .ok (.ireturn, 1) := by decide +kernel
theorem dX5_follow_27 : decode cX5_follow 27 = .ok (.aload_n 0, 1) := by decide +kernel
theorem dX5_follow_28 : decode cX5_follow 28 = .ok (.getfield 7, 3) := by decide +kernel
theorem dX5_follow_31 : decode cX5_follow 31 = .ok (.iload_n 1, 1) := by decide +kernel
theorem dX5_follow_32 : decode cX5_follow 32 = .ok (.iaload, 1) := by decide +kernel
theorem dX5_follow_33 : decode cX5_follow 33 = .ok (.iload_n 2, 1) := by decide +kernel
theorem dX5_follow_34 : decode cX5_follow 34 = .ok (.invokestatic 173, 3) := by decide +kernel
theorem dX5_follow_37 : decode cX5_follow 37 = .ok (.ifCond .eq 25, 3) := by decide +kernel
theorem dX5_follow_40 : decode cX5_follow 40 = .ok (.iload_n 2, 1) := by decide +kernel
theorem dX5_follow_41 : decode cX5_follow 41 = .ok (.invokestatic 177, 3) := by decide +kernel
theorem dX5_follow_44 : decode cX5_follow 44 = .ok (.ifCond .eq 18, 3) := by decide +kernel
theorem dX5_follow_47 : decode cX5_follow 47 = .ok (.aload_n 0, 1) := by decide +kernel
theorem dX5_follow_48 : decode cX5_follow 48 = .ok (.getfield 7, 3) := by decide +kernel
theorem dX5_follow_51 : decode cX5_follow 51 = .ok (.iload_n 3, 1) := by decide +kernel
theorem dX5_follow_52 : decode cX5_follow 52 = .ok (.iaload, 1) := by decide +kernel
theorem dX5_follow_53 : decode cX5_follow 53 = .ok (.aload_n 0, 1) := by decide +kernel
theorem dX5_follow_54 : decode cX5_follow 54 = .ok (.getfield 7, 3) := by decide +kernel
theorem dX5_follow_57 : decode cX5_follow 57 = .ok (.iload_n 1, 1) := by decide +kernel
theorem dX5_follow_58 : decode cX5_follow 58 = .ok (.iaload, 1) := by decide +kernel
theorem dX5_follow_59 : decode cX5_follow 59 = .ok (.if_icmp .eq 9, 3) := by decide +kernel
theorem dX5_follow_62 : decode cX5_follow 62 = .ok (.aload_n 0, 1) := by decide +kernel
theorem dX5_follow_63 : decode cX5_follow 63 = .ok (.iconst 2, 1) := by decide +kernel
theorem dX5_follow_64 : decode cX5_follow 64 = .ok (.invokevirtual 161, 3) := by decide +kernel
theorem dX5_follow_67 : decode cX5_follow 67 = .ok (.ireturn, 1) := by decide +kernel
theorem dX5_follow_68 : decode cX5_follow 68 = .ok (.aload_n 0, 1) := by decide +kernel
theorem dX5_follow_69 : decode cX5_follow 69 = .ok (.iload_n 1, 1) := by decide +kernel
theorem dX5_follow_70 : decode cX5_follow 70 = .ok (.iload_n 2, 1) := by decide +kernel
theorem dX5_follow_71 : decode cX5_follow 71 = .ok (.lconst 0, 1) := by decide +kernel
theorem dX5_follow_72 : decode cX5_follow 72 = .ok (.iload_n 3, 1) := by decide +kernel
theorem dX5_follow_73 : decode cX5_follow 73 = .ok (.invokevirtual 183, 3) := by decide +kernel
theorem dX5_follow_76 : decode cX5_follow 76 = .ok (.ireturn, 1) := by decide +kernel
theorem dX5_limits_0 : decode cX5_limits 0 = .ok (.aload_n 0, 1) := by decide +kernel
theorem dX5_limits_1 : decode cX5_limits 1 = .ok (.iconst 0, 1) := by decide +kernel
theorem dX5_limits_2 : decode cX5_limits 2 = .ok (.putfield 53, 3) := by decide +kernel
theorem dX5_limits_5 : decode cX5_limits 5 = .ok (.aload_n 0, 1) := by decide +kernel
theorem dX5_limits_6 : decode cX5_limits 6 = .ok (.iload_n 1, 1) := by decide +kernel
theorem dX5_limits_7 : decode cX5_limits 7 = .ok (.invokevirtual 170, 3) := by decide +kernel
theorem dX5_limits_10 : decode cX5_limits 10 = .ok (.ifCond .ne 17, 3) := by decide +kernel
theorem dX5_limits_13 : decode cX5_limits 13 = .ok (.aload_n 0, 1) := by decide +kernel
theorem dX5_limits_14 : decode cX5_limits 14 = .ok (.iconst 1, 1) := by decide +kernel
theorem dX5_limits_15 : decode cX5_limits 15 = .ok (.invokevirtual 161, 3) := by decide +kernel
theorem dX5_limits_18 : decode cX5_limits 18 = .ok (.ifCond .le 7, 3) := by decide +kernel
theorem dX5_limits_21 : decode cX5_limits 21 = .ok (.iconst 1, 1) := by decide +kernel
theorem dX5_limits_22 : decode cX5_limits 22 = .ok (.goto 4, 3) := by decide +kernel
theorem dX5_limits_25 : decode cX5_limits 25 = .ok (.iconst 0, 1) := by decide +kernel
theorem dX5_limits_26 : decode cX5_limits 26 = .ok (.ireturn, 1) := by decide +kernel
theorem dX5_limits_27 : decode cX5_limits 27 = .ok (.aload_n 0, 1) := by decide +kernel
theorem dX5_limits_28 : decode cX5_limits 28 = .ok (.getfield 7, 3) := by decide +kernel
theorem dX5_limits_31 : decode cX5_limits 31 = .ok (.iload_n 1, 1) := by decide +kernel
theorem dX5_limits_32 : decode cX5_limits 32 = .ok (.iaload, 1) := by decide +kernel
theorem dX5_limits_33 : decode cX5_limits 33 = .ok (.istore 6, 2) := by decide +kernel
theorem dX5_limits_35 : decode cX5_limits 35 = .ok (.iload 6, 2) := by decide +kernel
theorem dX5_limits_37 : decode cX5_limits 37 = .ok (.lload_n 2, 1) := by decide +kernel
theorem dX5_limits_38 : decode cX5_limits 38 = .ok (.invokestatic 180, 3) := by decide +kernel
theorem dX5_limits_41 : decode cX5_limits 41 = .ok (.ifCond .ne 13, 3) := by decide +kernel
theorem dX5_limits_44 : decode cX5_limits 44 = .ok (.iload 6, 2) := by decide +kernel
theorem dX5_limits_46 : decode cX5_limits 46 = .ok (.lload 4, 2) := by decide +kernel
theorem dX5_limits_48 : decode cX5_limits 48 = .ok (.invokestatic 180, 3) := by decide +kernel
theorem dX5_limits_51 : decode cX5_limits 51 = .ok (.ifCond .eq 17, 3) := by decide +kernel
theorem dX5_limits_54 : decode cX5_limits 54 = .ok (.aload_n 0, 1) := by decide +kernel
theorem dX5_limits_55 : decode cX5_limits 55 = .ok (.iconst 2, 1) := by decide +kernel
theorem dX5_limits_56 : decode cX5_limits 56 = .ok (.invokevirtual 161, 3) := by decide +kernel
theorem dX5_limits_59 : decode cX5_limits 59 = .ok (.ifCond .le 7, 3) := by decide +kernel
theorem dX5_limits_62 : decode cX5_limits 62 = .ok (.iconst 1, 1) := by decide +kernel
theorem dX5_limits_63 : decode cX5_limits 63 = .ok (.goto 4, 3) := by decide +kernel
theorem dX5_limits_66 : decode cX5_limits 66 = .ok (.iconst 0, 1) := by decide +kernel
theorem dX5_limits_67 : decode cX5_limits 67 = .ok (.ireturn, 1) := by decide +kernel
theorem dX5_limits_68 : decode cX5_limits 68 = .ok (.aload_n 0, 1) := by decide +kernel
theorem dX5_limits_69 : decode cX5_limits 69 = .ok (.getfield 26, 3) := by decide +kernel
theorem dX5_limits_72 : decode cX5_limits 72 = .ok (.iload_n 1, 1) := by decide +kernel
theorem dX5_limits_73 : decode cX5_limits 73 = .ok (.iload 6, 2) := by decide +kernel
theorem dX5_limits_75 : decode cX5_limits 75 = .ok (.lload_n 2, 1) := by decide +kernel
theorem dX5_limits_76 : decode cX5_limits 76 = .ok (.invokestatic 88, 3) := by decide +kernel
theorem dX5_limits_79 : decode cX5_limits 79 = .ok (.lastore, 1) := by decide +kernel
theorem dX5_limits_80 : decode cX5_limits 80 = .ok (.aload_n 0, 1) := by decide +kernel
theorem dX5_limits_81 : decode cX5_limits 81 = .ok (.getfield 29, 3) := by decide +kernel
theorem dX5_limits_84 : decode cX5_limits 84 = .ok (.iload_n 1, 1) := by decide +kernel
theorem dX5_limits_85 : decode cX5_limits 85 = .ok (.iload 6, 2) := by decide +kernel
theorem dX5_limits_87 : decode cX5_limits 87 = .ok (.lload 4, 2) := by decide +kernel
theorem dX5_limits_89 : decode cX5_limits 89 = .ok (.invokestatic 88, 3) := by decide +kernel
theorem dX5_limits_92 : decode cX5_limits 92 = .ok (.lastore, 1) := by decide +kernel
theorem dX5_limits_93 : decode cX5_limits 93 = .ok (.iload 6, 2) := by decide +kernel
theorem dX5_limits_95 : decode cX5_limits 95 = .ok (.aload_n 0, 1) := by decide +kernel
theorem dX5_limits_96 : decode cX5_limits 96 = .ok (.getfield 26, 3) := by decide +kernel
theorem dX5_limits_99 : decode cX5_limits 99 = .ok (.iload_n 1, 1) := by decide +kernel
theorem dX5_limits_100 : decode cX5_limits 100 = .ok (.laload, 1) := by decide +kernel
theorem dX5_limits_101 : decode cX5_limits 101 = .ok (.aload_n 0, 1) := by decide +kernel
theorem dX5_limits_102 : decode cX5_limits 102 = .ok (.getfield 29, 3) := by decide +kernel
theorem dX5_limits_105 : decode cX5_limits 105 = .ok (.iload_n 1, 1) := by decide +kernel
theorem dX5_limits_106 : decode cX5_limits 106 = .ok (.laload, 1) := by decide +kernel
theorem dX5_limits_107 : decode cX5_limits 107 = .ok (.invokestatic 187, 3) := by decide +kernel
theorem dX5_limits_110 : decode cX5_limits 110 = .ok (.ifCond .ne 7, 3) := by decide +kernel
theorem dX5_limits_113 : decode cX5_limits 113 = .ok (.iconst 1, 1) := by decide +kernel
theorem dX5_limits_114 : decode cX5_limits 114 = .ok (.goto 4, 3) := by decide +kernel
theorem dX5_limits_117 : decode cX5_limits 117 = .ok (.iconst 0, 1) := by decide +kernel
theorem dX5_limits_118 : decode cX5_limits 118 = .ok (.ireturn, 1) := by decide +kernel
theorem dX5_latest_0 : decode cX5_latest 0 = .ok (.aload_n 0, 1) := by decide +kernel
theorem dX5_latest_1 : decode cX5_latest 1 = .ok (.getfield 32, 3) := by decide +kernel
theorem dX5_latest_4 : decode cX5_latest 4 = .ok (.iload_n 1, 1) := by decide +kernel
theorem dX5_latest_5 : decode cX5_latest 5 = .ok (.iaload, 1) := by decide +kernel
theorem dX5_latest_6 : decode cX5_latest 6 = .ok (.ifCond .ne 7, 3) := by decide +kernel
theorem dX5_latest_9 : decode cX5_latest 9 = .ok (.lconst 0, 1) := by decide +kernel
theorem dX5_latest_10 : decode cX5_latest 10 = .ok (.goto 24, 3) := by decide +kernel
theorem dX5_latest_13 : decode cX5_latest 13 = .ok (.aload_n 0, 1) := by decide +kernel
theorem dX5_latest_14 : decode cX5_latest 14 = .ok (.getfield 35, 3) := by decide +kernel
theorem dX5_latest_17 : decode cX5_latest 17 = .ok (.bipush 16, 2) := by decide +kernel
theorem dX5_latest_19 : decode cX5_latest 19 = .ok (.iload_n 1, 1) := by decide +kernel
theorem dX5_latest_20 : decode cX5_latest 20 = .ok (.imul, 1) := by decide +kernel
theorem dX5_latest_21 : decode cX5_latest 21 = .ok (.aload_n 0, 1) := by decide +kernel
theorem dX5_latest_22 : decode cX5_latest 22 = .ok (.getfield 32, 3) := by decide +kernel
theorem dX5_latest_25 : decode cX5_latest 25 = .ok (.iload_n 1, 1) := by decide +kernel
theorem dX5_latest_26 : decode cX5_latest 26 = .ok (.iaload, 1) := by decide +kernel
theorem dX5_latest_27 : decode cX5_latest 27 = .ok (.iconst 1, 1) := by decide +kernel
theorem dX5_latest_28 : decode cX5_latest 28 = .ok (.isub, 1) := by decide +kernel
theorem dX5_latest_29 : decode cX5_latest 29 = .ok (.bipush 16, 2) := by decide +kernel
theorem dX5_latest_31 : decode cX5_latest 31 = .ok (.irem, 1) := by decide +kernel
theorem dX5_latest_32 : decode cX5_latest 32 = .ok (.iadd, 1) := by decide +kernel
theorem dX5_latest_33 : decode cX5_latest 33 = .ok (.laload, 1) := by decide +kernel
theorem dX5_latest_34 : decode cX5_latest 34 = .ok (.lreturn, 1) := by decide +kernel
theorem dX5_through_0 : decode cX5_through 0 = .ok (.lload_n 2, 1) := by decide +kernel
theorem dX5_through_1 : decode cX5_through 1 = .ok (.lstore 4, 2) := by decide +kernel
theorem dX5_through_3 : decode cX5_through 3 = .ok (.bipush 6, 2) := by decide +kernel
theorem dX5_through_5 : decode cX5_through 5 = .ok (.iload_n 1, 1) := by decide +kernel
theorem dX5_through_6 : decode cX5_through 6 = .ok (.imul, 1) := by decide +kernel
theorem dX5_through_7 : decode cX5_through 7 = .ok (.istore 6, 2) := by decide +kernel
theorem dX5_through_9 : decode cX5_through 9 = .ok (.iload 6, 2) := by decide +kernel
theorem dX5_through_11 : decode cX5_through 11 = .ok (.bipush 6, 2) := by decide +kernel
theorem dX5_through_13 : decode cX5_through 13 = .ok (.iload_n 1, 1) := by decide +kernel
theorem dX5_through_14 : decode cX5_through 14 = .ok (.imul, 1) := by decide +kernel
theorem dX5_through_15 : decode cX5_through 15 = .ok (.aload_n 0, 1) := by decide +kernel
theorem dX5_through_16 : decode cX5_through 16 = .ok (.getfield 13, 3) := by decide +kernel
theorem dX5_through_19 : decode cX5_through 19 = .ok (.iload_n 1, 1) := by decide +kernel
theorem dX5_through_20 : decode cX5_through 20 = .ok (.iaload, 1) := by decide +kernel
theorem dX5_through_21 : decode cX5_through 21 = .ok (.iadd, 1) := by decide +kernel
theorem dX5_through_22 : decode cX5_through 22 = .ok (.if_icmp .ge 74, 3) := by decide +kernel
theorem dX5_through_25 : decode cX5_through 25 = .ok (.aload_n 0, 1) := by decide +kernel
theorem dX5_through_26 : decode cX5_through 26 = .ok (.getfield 19, 3) := by decide +kernel
theorem dX5_through_29 : decode cX5_through 29 = .ok (.iload 6, 2) := by decide +kernel
theorem dX5_through_31 : decode cX5_through 31 = .ok (.iaload, 1) := by decide +kernel
theorem dX5_through_32 : decode cX5_through 32 = .ok (.ifCond .ge 13, 3) := by decide +kernel
theorem dX5_through_35 : decode cX5_through 35 = .ok (.aload_n 0, 1) := by decide +kernel
theorem dX5_through_36 : decode cX5_through 36 = .ok (.getfield 22, 3) := by decide +kernel
theorem dX5_through_39 : decode cX5_through 39 = .ok (.iload 6, 2) := by decide +kernel
theorem dX5_through_41 : decode cX5_through 41 = .ok (.laload, 1) := by decide +kernel
theorem dX5_through_42 : decode cX5_through 42 = .ok (.goto 14, 3) := by decide +kernel
theorem dX5_through_45 : decode cX5_through 45 = .ok (.aload_n 0, 1) := by decide +kernel
theorem dX5_through_46 : decode cX5_through 46 = .ok (.aload_n 0, 1) := by decide +kernel
theorem dX5_through_47 : decode cX5_through 47 = .ok (.getfield 19, 3) := by decide +kernel
theorem dX5_through_50 : decode cX5_through 50 = .ok (.iload 6, 2) := by decide +kernel
theorem dX5_through_52 : decode cX5_through 52 = .ok (.iaload, 1) := by decide +kernel
theorem dX5_through_53 : decode cX5_through 53 = .ok (.invokevirtual 191, 3) := by decide +kernel
theorem dX5_through_56 : decode cX5_through 56 = .ok (.lstore 7, 2) := by decide +kernel
theorem dX5_through_58 : decode cX5_through 58 = .ok (.aload_n 0, 1) := by decide +kernel
theorem dX5_through_59 : decode cX5_through 59 = .ok (.getfield 7, 3) := by decide +kernel
theorem dX5_through_62 : decode cX5_through 62 = .ok (.iload_n 1, 1) := by decide +kernel
theorem dX5_through_63 : decode cX5_through 63 = .ok (.iaload, 1) := by decide +kernel
theorem dX5_through_64 : decode cX5_through 64 = .ok (.aload_n 0, 1) := by decide +kernel
theorem dX5_through_65 : decode cX5_through 65 = .ok (.getfield 16, 3) := by decide +kernel
theorem dX5_through_68 : decode cX5_through 68 = .ok (.iload 6, 2) := by decide +kernel
theorem dX5_through_70 : decode cX5_through 70 = .ok (.iaload, 1) := by decide +kernel
theorem dX5_through_71 : decode cX5_through 71 = .ok (.lload 4, 2) := by decide +kernel
theorem dX5_through_73 : decode cX5_through 73 = .ok (.lload 7, 2) := by decide +kernel
theorem dX5_through_75 : decode cX5_through 75 = .ok (.invokestatic 194, 3) := by decide +kernel
theorem dX5_through_78 : decode cX5_through 78 = .ok (.lstore 4, 2) := by decide +kernel
theorem dX5_through_80 : decode cX5_through 80 = .ok (.aload_n 0, 1) := by decide +kernel
theorem dX5_through_81 : decode cX5_through 81 = .ok (.dup, 1) := by decide +kernel
theorem dX5_through_82 : decode cX5_through 82 = .ok (.getfield 198, 3) := by decide +kernel
theorem dX5_through_85 : decode cX5_through 85 = .ok (.iconst 1, 1) := by decide +kernel
theorem dX5_through_86 : decode cX5_through 86 = .ok (.iadd, 1) := by decide +kernel
theorem dX5_through_87 : decode cX5_through 87 = .ok (.putfield 198, 3) := by decide +kernel
theorem dX5_through_90 : decode cX5_through 90 = .ok (.iinc 6 1, 3) := by decide +kernel
theorem dX5_through_93 : decode cX5_through 93 = .ok (.goto (-84), 3) := by decide +kernel
theorem dX5_through_96 : decode cX5_through 96 = .ok (.lload 4, 2) := by decide +kernel
theorem dX5_through_98 : decode cX5_through 98 = .ok (.lreturn, 1) := by decide +kernel
theorem dX5_read_0 : decode cX5_read 0 = .ok (.aload_n 0, 1) := by decide +kernel
theorem dX5_read_1 : decode cX5_read 1 = .ok (.iconst 0, 1) := by decide +kernel
theorem dX5_read_2 : decode cX5_read 2 = .ok (.putfield 53, 3) := by decide +kernel
theorem dX5_read_5 : decode cX5_read 5 = .ok (.aload_n 0, 1) := by decide +kernel
theorem dX5_read_6 : decode cX5_read 6 = .ok (.iload_n 1, 1) := by decide +kernel
theorem dX5_read_7 : decode cX5_read 7 = .ok (.invokevirtual 170, 3) := by decide +kernel
theorem dX5_read_10 : decode cX5_read 10 = .ok (.ifCond .ne 10, 3) := by decide +kernel
theorem dX5_read_13 : decode cX5_read 13 = .ok (.aload_n 0, 1) := by decide +kernel
theorem dX5_read_14 : decode cX5_read 14 = .ok (.iconst 1, 1) := by decide +kernel
theorem dX5_read_15 : decode cX5_read 15 = .ok (.invokevirtual 161, 3) := by decide +kernel
theorem dX5_read_18 : decode cX5_read 18 = .ok (.i2l, 1) := by decide +kernel
theorem dX5_read_19 : decode cX5_read 19 = .ok (.lreturn, 1) := by decide +kernel
theorem dX5_read_20 : decode cX5_read 20 = .ok (.iload_n 1, 1) := by decide +kernel
theorem dX5_read_21 : decode cX5_read 21 = .ok (.istore 4, 2) := by decide +kernel
theorem dX5_read_23 : decode cX5_read 23 = .ok (.aload_n 0, 1) := by decide +kernel
theorem dX5_read_24 : decode cX5_read 24 = .ok (.getfield 7, 3) := by decide +kernel
theorem dX5_read_27 : decode cX5_read 27 = .ok (.iload 4, 2) := by decide +kernel
theorem dX5_read_29 : decode cX5_read 29 = .ok (.iaload, 1) := by decide +kernel
theorem dX5_read_30 : decode cX5_read 30 = .ok (.istore 5, 2) := by decide +kernel
theorem dX5_read_32 : decode cX5_read 32 = .ok (.iload 5, 2) := by decide +kernel
theorem dX5_read_34 : decode cX5_read 34 = .ok (.lload_n 2, 1) := by decide +kernel
theorem dX5_read_35 : decode cX5_read 35 = .ok (.invokestatic 180, 3) := by decide +kernel
theorem dX5_read_38 : decode cX5_read 38 = .ok (.ifCond .eq 10, 3) := by decide +kernel
theorem dX5_read_41 : decode cX5_read 41 = .ok (.aload_n 0, 1) := by decide +kernel
theorem dX5_read_42 : decode cX5_read 42 = .ok (.iconst 2, 1) := by decide +kernel
theorem dX5_read_43 : decode cX5_read 43 = .ok (.invokevirtual 161, 3) := by decide +kernel
theorem dX5_read_46 : decode cX5_read 46 = .ok (.i2l, 1) := by decide +kernel
theorem dX5_read_47 : decode cX5_read 47 = .ok (.lreturn, 1) := by decide +kernel
theorem dX5_read_48 : decode cX5_read 48 = .ok (.aload_n 0, 1) := by decide +kernel
theorem dX5_read_49 : decode cX5_read 49 = .ok (.iload 4, 2) := by decide +kernel
theorem dX5_read_51 : decode cX5_read 51 = .ok (.iload 5, 2) := by decide +kernel
theorem dX5_read_53 : decode cX5_read 53 = .ok (.lload_n 2, 1) := by decide +kernel
theorem dX5_read_54 : decode cX5_read 54 = .ok (.invokestatic 88, 3) := by decide +kernel
theorem dX5_read_57 : decode cX5_read 57 = .ok (.invokevirtual 201, 3) := by decide +kernel
theorem dX5_read_60 : decode cX5_read 60 = .ok (.lstore 6, 2) := by decide +kernel
theorem dX5_read_62 : decode cX5_read 62 = .ok (.aload_n 0, 1) := by decide +kernel
theorem dX5_read_63 : decode cX5_read 63 = .ok (.getfield 32, 3) := by decide +kernel
theorem dX5_read_66 : decode cX5_read 66 = .ok (.iload 4, 2) := by decide +kernel
theorem dX5_read_68 : decode cX5_read 68 = .ok (.iaload, 1) := by decide +kernel
theorem dX5_read_69 : decode cX5_read 69 = .ok (.ifCond .ne 7, 3) := by decide +kernel
theorem dX5_read_72 : decode cX5_read 72 = .ok (.iconst 1, 1) := by decide +kernel
theorem dX5_read_73 : decode cX5_read 73 = .ok (.goto 4, 3) := by decide +kernel
theorem dX5_read_76 : decode cX5_read 76 = .ok (.iconst 0, 1) := by decide +kernel
theorem dX5_read_77 : decode cX5_read 77 = .ok (.istore 8, 2) := by decide +kernel
theorem dX5_read_79 : decode cX5_read 79 = .ok (.aload_n 0, 1) := by decide +kernel
theorem dX5_read_80 : decode cX5_read 80 = .ok (.getfield 44, 3) := by decide +kernel
theorem dX5_read_83 : decode cX5_read 83 = .ok (.iload 4, 2) := by decide +kernel
theorem dX5_read_85 : decode cX5_read 85 = .ok (.iload 8, 2) := by decide +kernel
theorem dX5_read_87 : decode cX5_read 87 = .ok (.ifCond .eq 7, 3) := by decide +kernel
theorem dX5_read_90 : decode cX5_read 90 = .ok (.lconst 0, 1) := by decide +kernel
theorem dX5_read_91 : decode cX5_read 91 = .ok (.goto 16, 3) := by decide +kernel
theorem dX5_read_94 : decode cX5_read 94 = .ok (.iload 5, 2) := by decide +kernel
theorem dX5_read_96 : decode cX5_read 96 = .ok (.lload 6, 2) := by decide +kernel
theorem dX5_read_98 : decode cX5_read 98 = .ok (.aload_n 0, 1) := by decide +kernel
theorem dX5_read_99 : decode cX5_read 99 = .ok (.iload 4, 2) := by decide +kernel
theorem dX5_read_101 : decode cX5_read 101 = .ok (.invokevirtual 191, 3) := by decide +kernel
theorem dX5_read_104 : decode cX5_read 104 = .ok (.invokestatic 204, 3) := by decide +kernel
theorem dX5_read_107 : decode cX5_read 107 = .ok (.lastore, 1) := by decide +kernel
theorem dX5_read_108 : decode cX5_read 108 = .ok (.aload_n 0, 1) := by decide +kernel
theorem dX5_read_109 : decode cX5_read 109 = .ok (.getfield 38, 3) := by decide +kernel
theorem dX5_read_112 : decode cX5_read 112 = .ok (.iload 4, 2) := by decide +kernel
theorem dX5_read_114 : decode cX5_read 114 = .ok (.iload 8, 2) := by decide +kernel
theorem dX5_read_116 : decode cX5_read 116 = .ok (.ifCond .eq 8, 3) := by decide +kernel
theorem dX5_read_119 : decode cX5_read 119 = .ok (.lload 6, 2) := by decide +kernel
theorem dX5_read_121 : decode cX5_read 121 = .ok (.goto 17, 3) := by decide +kernel
theorem dX5_read_124 : decode cX5_read 124 = .ok (.iload 5, 2) := by decide +kernel
theorem dX5_read_126 : decode cX5_read 126 = .ok (.aload_n 0, 1) := by decide +kernel
theorem dX5_read_127 : decode cX5_read 127 = .ok (.getfield 38, 3) := by decide +kernel
theorem dX5_read_130 : decode cX5_read 130 = .ok (.iload 4, 2) := by decide +kernel
theorem dX5_read_132 : decode cX5_read 132 = .ok (.laload, 1) := by decide +kernel
theorem dX5_read_133 : decode cX5_read 133 = .ok (.lload 6, 2) := by decide +kernel
theorem dX5_read_135 : decode cX5_read 135 = .ok (.invokestatic 127, 3) := by decide +kernel
theorem dX5_read_138 : decode cX5_read 138 = .ok (.lastore, 1) := by decide +kernel
theorem dX5_read_139 : decode cX5_read 139 = .ok (.aload_n 0, 1) := by decide +kernel
theorem dX5_read_140 : decode cX5_read 140 = .ok (.getfield 41, 3) := by decide +kernel
theorem dX5_read_143 : decode cX5_read 143 = .ok (.iload 4, 2) := by decide +kernel
theorem dX5_read_145 : decode cX5_read 145 = .ok (.iload 8, 2) := by decide +kernel
theorem dX5_read_147 : decode cX5_read 147 = .ok (.ifCond .eq 8, 3) := by decide +kernel
theorem dX5_read_150 : decode cX5_read 150 = .ok (.lload 6, 2) := by decide +kernel
theorem dX5_read_152 : decode cX5_read 152 = .ok (.goto 17, 3) := by decide +kernel
theorem dX5_read_155 : decode cX5_read 155 = .ok (.iload 5, 2) := by decide +kernel
theorem dX5_read_157 : decode cX5_read 157 = .ok (.aload_n 0, 1) := by decide +kernel
theorem dX5_read_158 : decode cX5_read 158 = .ok (.getfield 41, 3) := by decide +kernel
theorem dX5_read_161 : decode cX5_read 161 = .ok (.iload 4, 2) := by decide +kernel
theorem dX5_read_163 : decode cX5_read 163 = .ok (.laload, 1) := by decide +kernel
theorem dX5_read_164 : decode cX5_read 164 = .ok (.lload 6, 2) := by decide +kernel
theorem dX5_read_166 : decode cX5_read 166 = .ok (.invokestatic 123, 3) := by decide +kernel
theorem dX5_read_169 : decode cX5_read 169 = .ok (.lastore, 1) := by decide +kernel
theorem dX5_read_170 : decode cX5_read 170 = .ok (.aload_n 0, 1) := by decide +kernel
theorem dX5_read_171 : decode cX5_read 171 = .ok (.getfield 47, 3) := by decide +kernel
theorem dX5_read_174 : decode cX5_read 174 = .ok (.iload 4, 2) := by decide +kernel
theorem dX5_read_176 : decode cX5_read 176 = .ok (.iload 5, 2) := by decide +kernel
theorem dX5_read_178 : decode cX5_read 178 = .ok (.iload 8, 2) := by decide +kernel
theorem dX5_read_180 : decode cX5_read 180 = .ok (.ifCond .eq 7, 3) := by decide +kernel
theorem dX5_read_183 : decode cX5_read 183 = .ok (.lconst 0, 1) := by decide +kernel
theorem dX5_read_184 : decode cX5_read 184 = .ok (.goto 10, 3) := by decide +kernel
theorem dX5_read_187 : decode cX5_read 187 = .ok (.aload_n 0, 1) := by decide +kernel
theorem dX5_read_188 : decode cX5_read 188 = .ok (.getfield 47, 3) := by decide +kernel
theorem dX5_read_191 : decode cX5_read 191 = .ok (.iload 4, 2) := by decide +kernel
theorem dX5_read_193 : decode cX5_read 193 = .ok (.laload, 1) := by decide +kernel
theorem dX5_read_194 : decode cX5_read 194 = .ok (.iload 5, 2) := by decide +kernel
theorem dX5_read_196 : decode cX5_read 196 = .ok (.lload 6, 2) := by decide +kernel
theorem dX5_read_198 : decode cX5_read 198 = .ok (.invokestatic 120, 3) := by decide +kernel
theorem dX5_read_201 : decode cX5_read 201 = .ok (.invokestatic 207, 3) := by decide +kernel
theorem dX5_read_204 : decode cX5_read 204 = .ok (.lastore, 1) := by decide +kernel
theorem dX5_read_205 : decode cX5_read 205 = .ok (.aload_n 0, 1) := by decide +kernel
theorem dX5_read_206 : decode cX5_read 206 = .ok (.getfield 35, 3) := by decide +kernel
theorem dX5_read_209 : decode cX5_read 209 = .ok (.bipush 16, 2) := by decide +kernel
theorem dX5_read_211 : decode cX5_read 211 = .ok (.iload 4, 2) := by decide +kernel
theorem dX5_read_213 : decode cX5_read 213 = .ok (.imul, 1) := by decide +kernel
theorem dX5_read_214 : decode cX5_read 214 = .ok (.aload_n 0, 1) := by decide +kernel
theorem dX5_read_215 : decode cX5_read 215 = .ok (.getfield 32, 3) := by decide +kernel
theorem dX5_read_218 : decode cX5_read 218 = .ok (.iload 4, 2) := by decide +kernel
theorem dX5_read_220 : decode cX5_read 220 = .ok (.iaload, 1) := by decide +kernel
theorem dX5_read_221 : decode cX5_read 221 = .ok (.bipush 16, 2) := by decide +kernel
theorem dX5_read_223 : decode cX5_read 223 = .ok (.irem, 1) := by decide +kernel
theorem dX5_read_224 : decode cX5_read 224 = .ok (.iadd, 1) := by decide +kernel
theorem dX5_read_225 : decode cX5_read 225 = .ok (.lload 6, 2) := by decide +kernel
theorem dX5_read_227 : decode cX5_read 227 = .ok (.lastore, 1) := by decide +kernel
theorem dX5_read_228 : decode cX5_read 228 = .ok (.aload_n 0, 1) := by decide +kernel
theorem dX5_read_229 : decode cX5_read 229 = .ok (.getfield 32, 3) := by decide +kernel
theorem dX5_read_232 : decode cX5_read 232 = .ok (.iload 4, 2) := by decide +kernel
theorem dX5_read_234 : decode cX5_read 234 = .ok (.dup2, 1) := by decide +kernel
theorem dX5_read_235 : decode cX5_read 235 = .ok (.iaload, 1) := by decide +kernel
theorem dX5_read_236 : decode cX5_read 236 = .ok (.iconst 1, 1) := by decide +kernel
theorem dX5_read_237 : decode cX5_read 237 = .ok (.iadd, 1) := by decide +kernel
theorem dX5_read_238 : decode cX5_read 238 = .ok (.iastore, 1) := by decide +kernel
theorem dX5_read_239 : decode cX5_read 239 = .ok (.aload_n 0, 1) := by decide +kernel
theorem dX5_read_240 : decode cX5_read 240 = .ok (.dup, 1) := by decide +kernel
theorem dX5_read_241 : decode cX5_read 241 = .ok (.getfield 210, 3) := by decide +kernel
theorem dX5_read_244 : decode cX5_read 244 = .ok (.iconst 1, 1) := by decide +kernel
theorem dX5_read_245 : decode cX5_read 245 = .ok (.iadd, 1) := by decide +kernel
theorem dX5_read_246 : decode cX5_read 246 = .ok (.putfield 210, 3) := by decide +kernel
theorem dX5_read_249 : decode cX5_read 249 = .ok (.iload 5, 2) := by decide +kernel
theorem dX5_read_251 : decode cX5_read 251 = .ok (.aload_n 0, 1) := by decide +kernel
theorem dX5_read_252 : decode cX5_read 252 = .ok (.getfield 26, 3) := by decide +kernel
theorem dX5_read_255 : decode cX5_read 255 = .ok (.iload 4, 2) := by decide +kernel
theorem dX5_read_257 : decode cX5_read 257 = .ok (.laload, 1) := by decide +kernel
theorem dX5_read_258 : decode cX5_read 258 = .ok (.lload 6, 2) := by decide +kernel
theorem dX5_read_260 : decode cX5_read 260 = .ok (.invokestatic 187, 3) := by decide +kernel
theorem dX5_read_263 : decode cX5_read 263 = .ok (.ifCond .ne 20, 3) := by decide +kernel
theorem dX5_read_266 : decode cX5_read 266 = .ok (.iload 5, 2) := by decide +kernel
theorem dX5_read_268 : decode cX5_read 268 = .ok (.lload 6, 2) := by decide +kernel
theorem dX5_read_270 : decode cX5_read 270 = .ok (.aload_n 0, 1) := by decide +kernel
theorem dX5_read_271 : decode cX5_read 271 = .ok (.getfield 29, 3) := by decide +kernel
theorem dX5_read_274 : decode cX5_read 274 = .ok (.iload 4, 2) := by decide +kernel
theorem dX5_read_276 : decode cX5_read 276 = .ok (.laload, 1) := by decide +kernel
theorem dX5_read_277 : decode cX5_read 277 = .ok (.invokestatic 187, 3) := by decide +kernel
theorem dX5_read_280 : decode cX5_read 280 = .ok (.ifCond .eq 24, 3) := by decide +kernel
theorem dX5_read_283 : decode cX5_read 283 = .ok (.aload_n 0, 1) := by decide +kernel
theorem dX5_read_284 : decode cX5_read 284 = .ok (.getfield 50, 3) := by decide +kernel
theorem dX5_read_287 : decode cX5_read 287 = .ok (.iload 4, 2) := by decide +kernel
theorem dX5_read_289 : decode cX5_read 289 = .ok (.dup2, 1) := by decide +kernel
theorem dX5_read_290 : decode cX5_read 290 = .ok (.iaload, 1) := by decide +kernel
theorem dX5_read_291 : decode cX5_read 291 = .ok (.iconst 1, 1) := by decide +kernel
theorem dX5_read_292 : decode cX5_read 292 = .ok (.iadd, 1) := by decide +kernel
theorem dX5_read_293 : decode cX5_read 293 = .ok (.iastore, 1) := by decide +kernel
theorem dX5_read_294 : decode cX5_read 294 = .ok (.aload_n 0, 1) := by decide +kernel
theorem dX5_read_295 : decode cX5_read 295 = .ok (.dup, 1) := by decide +kernel
theorem dX5_read_296 : decode cX5_read 296 = .ok (.getfield 213, 3) := by decide +kernel
theorem dX5_read_299 : decode cX5_read 299 = .ok (.iconst 1, 1) := by decide +kernel
theorem dX5_read_300 : decode cX5_read 300 = .ok (.iadd, 1) := by decide +kernel
theorem dX5_read_301 : decode cX5_read 301 = .ok (.putfield 213, 3) := by decide +kernel
theorem dX5_read_304 : decode cX5_read 304 = .ok (.lload 6, 2) := by decide +kernel
theorem dX5_read_306 : decode cX5_read 306 = .ok (.lreturn, 1) := by decide +kernel
theorem dX5_forget_0 : decode cX5_forget 0 = .ok (.aload_n 0, 1) := by decide +kernel
theorem dX5_forget_1 : decode cX5_forget 1 = .ok (.iconst 0, 1) := by decide +kernel
theorem dX5_forget_2 : decode cX5_forget 2 = .ok (.putfield 53, 3) := by decide +kernel
theorem dX5_forget_5 : decode cX5_forget 5 = .ok (.aload_n 0, 1) := by decide +kernel
theorem dX5_forget_6 : decode cX5_forget 6 = .ok (.iload_n 1, 1) := by decide +kernel
theorem dX5_forget_7 : decode cX5_forget 7 = .ok (.invokevirtual 170, 3) := by decide +kernel
theorem dX5_forget_10 : decode cX5_forget 10 = .ok (.ifCond .ne 9, 3) := by decide +kernel
theorem dX5_forget_13 : decode cX5_forget 13 = .ok (.aload_n 0, 1) := by decide +kernel
theorem dX5_forget_14 : decode cX5_forget 14 = .ok (.iconst 1, 1) := by decide +kernel
theorem dX5_forget_15 : decode cX5_forget 15 = .ok (.invokevirtual 161, 3) := by decide +kernel
theorem dX5_forget_18 : decode cX5_forget 18 = .ok (.ireturn, 1) := by decide +kernel
theorem dX5_forget_19 : decode cX5_forget 19 = .ok (.aload_n 0, 1) := by decide +kernel
theorem dX5_forget_20 : decode cX5_forget 20 = .ok (.getfield 32, 3) := by decide +kernel
theorem dX5_forget_23 : decode cX5_forget 23 = .ok (.iload_n 1, 1) := by decide +kernel
theorem dX5_forget_24 : decode cX5_forget 24 = .ok (.iaload, 1) := by decide +kernel
theorem dX5_forget_25 : decode cX5_forget 25 = .ok (.istore_n 2, 1) := by decide +kernel
theorem dX5_forget_26 : decode cX5_forget 26 = .ok (.aload_n 0, 1) := by decide +kernel
theorem dX5_forget_27 : decode cX5_forget 27 = .ok (.getfield 32, 3) := by decide +kernel
theorem dX5_forget_30 : decode cX5_forget 30 = .ok (.iload_n 1, 1) := by decide +kernel
theorem dX5_forget_31 : decode cX5_forget 31 = .ok (.iconst 0, 1) := by decide +kernel
theorem dX5_forget_32 : decode cX5_forget 32 = .ok (.iastore, 1) := by decide +kernel
theorem dX5_forget_33 : decode cX5_forget 33 = .ok (.iload_n 2, 1) := by decide +kernel
theorem dX5_forget_34 : decode cX5_forget 34 = .ok (.ireturn, 1) := by decide +kernel
theorem dX5_reading_0 : decode cX5_reading 0 = .ok (.aload_n 0, 1) := by decide +kernel
theorem dX5_reading_1 : decode cX5_reading 1 = .ok (.iconst 0, 1) := by decide +kernel
theorem dX5_reading_2 : decode cX5_reading 2 = .ok (.putfield 53, 3) := by decide +kernel
theorem dX5_reading_5 : decode cX5_reading 5 = .ok (.aload_n 0, 1) := by decide +kernel
theorem dX5_reading_6 : decode cX5_reading 6 = .ok (.iload_n 1, 1) := by decide +kernel
theorem dX5_reading_7 : decode cX5_reading 7 = .ok (.invokevirtual 170, 3) := by decide +kernel
theorem dX5_reading_10 : decode cX5_reading 10 = .ok (.ifCond .ne 10, 3) := by decide +kernel
theorem dX5_reading_13 : decode cX5_reading 13 = .ok (.aload_n 0, 1) := by decide +kernel
theorem dX5_reading_14 : decode cX5_reading 14 = .ok (.iconst 1, 1) := by decide +kernel
theorem dX5_reading_15 : decode cX5_reading 15 = .ok (.invokevirtual 161, 3) := by decide +kernel
theorem dX5_reading_18 : decode cX5_reading 18 = .ok (.i2l, 1) := by decide +kernel
theorem dX5_reading_19 : decode cX5_reading 19 = .ok (.lreturn, 1) := by decide +kernel
theorem dX5_reading_20 : decode cX5_reading 20 = .ok (.aload_n 0, 1) := by decide +kernel
theorem dX5_reading_21 : decode cX5_reading 21 = .ok (.getfield 32, 3) := by decide +kernel
theorem dX5_reading_24 : decode cX5_reading 24 = .ok (.iload_n 1, 1) := by decide +kernel
