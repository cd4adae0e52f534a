theorem dX0_init_0 : decode cX0_init 0 = .ok (.aload_n 0, 1) := by decide +kernel
theorem dX0_init_1 : decode cX0_init 1 = .ok (.iload_n 1, 1) := by decide +kernel
theorem dX0_init_2 : decode cX0_init 2 = .ok (.bipush 7, 2) := by decide +kernel
theorem dX0_init_4 : decode cX0_init 4 = .ok (.ldc2_w 3, 3) := by decide +kernel
theorem dX0_init_7 : decode cX0_init 7 = .ok (.iload_n 1, 1) := by decide +kernel
theorem dX0_init_8 : decode cX0_init 8 = .ok (.iconst 1, 1) := by decide +kernel
theorem dX0_init_9 : decode cX0_init 9 = .ok (.isub, 1) := by decide +kernel
theorem dX0_init_10 : decode cX0_init 10 = .ok (.lshl, 1) := by decide +kernel
theorem dX0_init_11 : decode cX0_init 11 = .ok (.iload_n 1, 1) := by decide +kernel
theorem dX0_init_12 : decode cX0_init 12 = .ok (.iload_n 2, 1) := by decide +kernel
theorem dX0_init_13 : decode cX0_init 13 = .ok (.invokestatic 5, 3) := by decide +kernel
theorem dX0_init_16 : decode cX0_init 16 = .ok (.lor, 1) := by decide +kernel
theorem dX0_init_17 : decode cX0_init 17 = .ok (.iload_n 1, 1) := by decide +kernel
theorem dX0_init_18 : decode cX0_init 18 = .ok (.iload_n 2, 1) := by decide +kernel
theorem dX0_init_19 : decode cX0_init 19 = .ok (.invokestatic 5, 3) := by decide +kernel
theorem dX0_init_22 : decode cX0_init 22 = .ok (.invokespecial 11, 3) := by decide +kernel
theorem dX0_init_25 : decode cX0_init 25 = .ok (.aload_n 0, 1) := by decide +kernel
theorem dX0_init_26 : decode cX0_init 26 = .ok (.iload_n 2, 1) := by decide +kernel
theorem dX0_init_27 : decode cX0_init 27 = .ok (.putfield 17, 3) := by decide +kernel
theorem dX0_init_30 : decode cX0_init 30 = .ok (.aload_n 0, 1) := by decide +kernel
theorem dX0_init_31 : decode cX0_init 31 = .ok (.ldc2_w 3, 3) := by decide +kernel
theorem dX0_init_34 : decode cX0_init 34 = .ok (.iload_n 1, 1) := by decide +kernel
theorem dX0_init_35 : decode cX0_init 35 = .ok (.iconst 1, 1) := by decide +kernel
theorem dX0_init_36 : decode cX0_init 36 = .ok (.isub, 1) := by decide +kernel
theorem dX0_init_37 : decode cX0_init 37 = .ok (.lshl, 1) := by decide +kernel
theorem dX0_init_38 : decode cX0_init 38 = .ok (.putfield 21, 3) := by decide +kernel
theorem dX0_init_41 : decode cX0_init 41 = .ok (.aload_n 0, 1) := by decide +kernel
theorem dX0_init_42 : decode cX0_init 42 = .ok (.iload_n 1, 1) := by decide +kernel
theorem dX0_init_43 : decode cX0_init 43 = .ok (.iload_n 2, 1) := by decide +kernel
theorem dX0_init_44 : decode cX0_init 44 = .ok (.invokestatic 5, 3) := by decide +kernel
theorem dX0_init_47 : decode cX0_init 47 = .ok (.putfield 25, 3) := by decide +kernel
theorem dX0_init_50 : decode cX0_init 50 = .ok (.aload_n 0, 1) := by decide +kernel
theorem dX0_init_51 : decode cX0_init 51 = .ok (.aload_n 0, 1) := by decide +kernel
theorem dX0_init_52 : decode cX0_init 52 = .ok (.getfield 25, 3) := by decide +kernel
theorem dX0_init_55 : decode cX0_init 55 = .ok (.iload_n 2, 1) := by decide +kernel
theorem dX0_init_56 : decode cX0_init 56 = .ok (.lushr, 1) := by decide +kernel
theorem dX0_init_57 : decode cX0_init 57 = .ok (.l2i, 1) := by decide +kernel
theorem dX0_init_58 : decode cX0_init 58 = .ok (.iconst 1, 1) := by decide +kernel
theorem dX0_init_59 : decode cX0_init 59 = .ok (.ishr, 1) := by decide +kernel
theorem dX0_init_60 : decode cX0_init 60 = .ok (.putfield 28, 3) := by decide +kernel
theorem dX0_init_63 : decode cX0_init 63 = .ok (.aload_n 0, 1) := by decide +kernel
theorem dX0_init_64 : decode cX0_init 64 = .ok (.aload_n 0, 1) := by decide +kernel
theorem dX0_init_65 : decode cX0_init 65 = .ok (.getfield 28, 3) := by decide +kernel
theorem dX0_init_68 : decode cX0_init 68 = .ok (.i2l, 1) := by decide +kernel
theorem dX0_init_69 : decode cX0_init 69 = .ok (.iload_n 2, 1) := by decide +kernel
theorem dX0_init_70 : decode cX0_init 70 = .ok (.lshl, 1) := by decide +kernel
theorem dX0_init_71 : decode cX0_init 71 = .ok (.putfield 31, 3) := by decide +kernel
theorem dX0_init_74 : decode cX0_init 74 = .ok (.aload_n 0, 1) := by decide +kernel
theorem dX0_init_75 : decode cX0_init 75 = .ok (.aload_n 0, 1) := by decide +kernel
theorem dX0_init_76 : decode cX0_init 76 = .ok (.getfield 28, 3) := by decide +kernel
theorem dX0_init_79 : decode cX0_init 79 = .ok (.iconst 1, 1) := by decide +kernel
theorem dX0_init_80 : decode cX0_init 80 = .ok (.isub, 1) := by decide +kernel
theorem dX0_init_81 : decode cX0_init 81 = .ok (.i2l, 1) := by decide +kernel
theorem dX0_init_82 : decode cX0_init 82 = .ok (.iload_n 2, 1) := by decide +kernel
theorem dX0_init_83 : decode cX0_init 83 = .ok (.lshl, 1) := by decide +kernel
theorem dX0_init_84 : decode cX0_init 84 = .ok (.putfield 34, 3) := by decide +kernel
theorem dX0_init_87 : decode cX0_init 87 = .ok (.aload_n 0, 1) := by decide +kernel
theorem dX0_init_88 : decode cX0_init 88 = .ok (.lconst 1, 1) := by decide +kernel
theorem dX0_init_89 : decode cX0_init 89 = .ok (.iload_n 2, 1) := by decide +kernel
theorem dX0_init_90 : decode cX0_init 90 = .ok (.lshl, 1) := by decide +kernel
theorem dX0_init_91 : decode cX0_init 91 = .ok (.putfield 37, 3) := by decide +kernel
theorem dX0_init_94 : decode cX0_init 94 = .ok (.return_, 1) := by decide +kernel
theorem dX0_infinityOf_0 : decode cX0_infinityOf 0 = .ok (.ldc2_w 3, 3) := by decide +kernel
theorem dX0_infinityOf_3 : decode cX0_infinityOf 3 = .ok (.iload_n 0, 1) := by decide +kernel
theorem dX0_infinityOf_4 : decode cX0_infinityOf 4 = .ok (.iconst 1, 1) := by decide +kernel
theorem dX0_infinityOf_5 : decode cX0_infinityOf 5 = .ok (.isub, 1) := by decide +kernel
theorem dX0_infinityOf_6 : decode cX0_infinityOf 6 = .ok (.lshl, 1) := by decide +kernel
theorem dX0_infinityOf_7 : decode cX0_infinityOf 7 = .ok (.ldc2_w 3, 3) := by decide +kernel
theorem dX0_infinityOf_10 : decode cX0_infinityOf 10 = .ok (.lxor, 1) := by decide +kernel
theorem dX0_infinityOf_11 : decode cX0_infinityOf 11 = .ok (.ldc2_w 3, 3) := by decide +kernel
theorem dX0_infinityOf_14 : decode cX0_infinityOf 14 = .ok (.iload_n 1, 1) := by decide +kernel
theorem dX0_infinityOf_15 : decode cX0_infinityOf 15 = .ok (.lshl, 1) := by decide +kernel
theorem dX0_infinityOf_16 : decode cX0_infinityOf 16 = .ok (.land, 1) := by decide +kernel
theorem dX0_infinityOf_17 : decode cX0_infinityOf 17 = .ok (.lreturn, 1) := by decide +kernel
theorem dX0_isNumber_0 : decode cX0_isNumber 0 = .ok (.aload_n 0, 1) := by decide +kernel
theorem dX0_isNumber_1 : decode cX0_isNumber 1 = .ok (.lload_n 1, 1) := by decide +kernel
theorem dX0_isNumber_2 : decode cX0_isNumber 2 = .ok (.invokevirtual 40, 3) := by decide +kernel
theorem dX0_isNumber_5 : decode cX0_isNumber 5 = .ok (.aload_n 0, 1) := by decide +kernel
theorem dX0_isNumber_6 : decode cX0_isNumber 6 = .ok (.getfield 25, 3) := by decide +kernel
theorem dX0_isNumber_9 : decode cX0_isNumber 9 = .ok (.lcmp, 1) := by decide +kernel
theorem dX0_isNumber_10 : decode cX0_isNumber 10 = .ok (.ifCond .gt 7, 3) := by decide +kernel
theorem dX0_isNumber_13 : decode cX0_isNumber 13 = .ok (.iconst 1, 1) := by decide +kernel
theorem dX0_isNumber_14 : decode cX0_isNumber 14 = .ok (.goto 4, 3) := by decide +kernel
theorem dX0_isNumber_17 : decode cX0_isNumber 17 = .ok (.iconst 0, 1) := by decide +kernel
theorem dX0_isNumber_18 : decode cX0_isNumber 18 = .ok (.ireturn, 1) := by decide +kernel
theorem dX0_amount_0 : decode cX0_amount 0 = .ok (.lload_n 1, 1) := by decide +kernel
theorem dX0_amount_1 : decode cX0_amount 1 = .ok (.aload_n 0, 1) := by decide +kernel
theorem dX0_amount_2 : decode cX0_amount 2 = .ok (.getfield 21, 3) := by decide +kernel
theorem dX0_amount_5 : decode cX0_amount 5 = .ok (.ldc2_w 3, 3) := by decide +kernel
theorem dX0_amount_8 : decode cX0_amount 8 = .ok (.lxor, 1) := by decide +kernel
theorem dX0_amount_9 : decode cX0_amount 9 = .ok (.land, 1) := by decide +kernel
theorem dX0_amount_10 : decode cX0_amount 10 = .ok (.lreturn, 1) := by decide +kernel
theorem dX0_plus_0 : decode cX0_plus 0 = .ok (.lload_n 1, 1) := by decide +kernel
theorem dX0_plus_1 : decode cX0_plus 1 = .ok (.lload_n 3, 1) := by decide +kernel
theorem dX0_plus_2 : decode cX0_plus 2 = .ok (.invokestatic 44, 3) := by decide +kernel
theorem dX0_plus_5 : decode cX0_plus 5 = .ok (.lstore 5, 2) := by decide +kernel
theorem dX0_plus_7 : decode cX0_plus 7 = .ok (.lload_n 1, 1) := by decide +kernel
theorem dX0_plus_8 : decode cX0_plus 8 = .ok (.lload_n 3, 1) := by decide +kernel
theorem dX0_plus_9 : decode cX0_plus 9 = .ok (.invokestatic 50, 3) := by decide +kernel
theorem dX0_plus_12 : decode cX0_plus 12 = .ok (.lstore 7, 2) := by decide +kernel
theorem dX0_plus_14 : decode cX0_plus 14 = .ok (.lload 5, 2) := by decide +kernel
theorem dX0_plus_16 : decode cX0_plus 16 = .ok (.aload_n 0, 1) := by decide +kernel
theorem dX0_plus_17 : decode cX0_plus 17 = .ok (.getfield 25, 3) := by decide +kernel
theorem dX0_plus_20 : decode cX0_plus 20 = .ok (.lcmp, 1) := by decide +kernel
theorem dX0_plus_21 : decode cX0_plus 21 = .ok (.ifCond .ne 8, 3) := by decide +kernel
theorem dX0_plus_24 : decode cX0_plus 24 = .ok (.aload_n 0, 1) := by decide +kernel
theorem dX0_plus_25 : decode cX0_plus 25 = .ok (.getfield 25, 3) := by decide +kernel
theorem dX0_plus_28 : decode cX0_plus 28 = .ok (.lreturn, 1) := by decide +kernel
theorem dX0_plus_29 : decode cX0_plus 29 = .ok (.aload_n 0, 1) := by decide +kernel
theorem dX0_plus_30 : decode cX0_plus 30 = .ok (.lload 5, 2) := by decide +kernel
theorem dX0_plus_32 : decode cX0_plus 32 = .ok (.invokevirtual 53, 3) := by decide +kernel
theorem dX0_plus_35 : decode cX0_plus 35 = .ok (.istore 9, 2) := by decide +kernel
theorem dX0_plus_37 : decode cX0_plus 37 = .ok (.aload_n 0, 1) := by decide +kernel
theorem dX0_plus_38 : decode cX0_plus 38 = .ok (.lload 5, 2) := by decide +kernel
theorem dX0_plus_40 : decode cX0_plus 40 = .ok (.invokevirtual 57, 3) := by decide +kernel
theorem dX0_plus_43 : decode cX0_plus 43 = .ok (.aload_n 0, 1) := by decide +kernel
theorem dX0_plus_44 : decode cX0_plus 44 = .ok (.lload 7, 2) := by decide +kernel
theorem dX0_plus_46 : decode cX0_plus 46 = .ok (.invokevirtual 57, 3) := by decide +kernel
theorem dX0_plus_49 : decode cX0_plus 49 = .ok (.iload 9, 2) := by decide +kernel
theorem dX0_plus_51 : decode cX0_plus 51 = .ok (.aload_n 0, 1) := by decide +kernel
theorem dX0_plus_52 : decode cX0_plus 52 = .ok (.lload 7, 2) := by decide +kernel
theorem dX0_plus_54 : decode cX0_plus 54 = .ok (.invokevirtual 53, 3) := by decide +kernel
theorem dX0_plus_57 : decode cX0_plus 57 = .ok (.isub, 1) := by decide +kernel
theorem dX0_plus_58 : decode cX0_plus 58 = .ok (.invokestatic 60, 3) := by decide +kernel
theorem dX0_plus_61 : decode cX0_plus 61 = .ok (.ladd, 1) := by decide +kernel
theorem dX0_plus_62 : decode cX0_plus 62 = .ok (.lstore 10, 2) := by decide +kernel
theorem dX0_plus_64 : decode cX0_plus 64 = .ok (.lload 10, 2) := by decide +kernel
theorem dX0_plus_66 : decode cX0_plus 66 = .ok (.aload_n 0, 1) := by decide +kernel
theorem dX0_plus_67 : decode cX0_plus 67 = .ok (.getfield 37, 3) := by decide +kernel
theorem dX0_plus_70 : decode cX0_plus 70 = .ok (.iconst 4, 1) := by decide +kernel
theorem dX0_plus_71 : decode cX0_plus 71 = .ok (.lshl, 1) := by decide +kernel
theorem dX0_plus_72 : decode cX0_plus 72 = .ok (.lcmp, 1) := by decide +kernel
theorem dX0_plus_73 : decode cX0_plus 73 = .ok (.ifCond .lt 14, 3) := by decide +kernel
theorem dX0_plus_76 : decode cX0_plus 76 = .ok (.lload 10, 2) := by decide +kernel
theorem dX0_plus_78 : decode cX0_plus 78 = .ok (.iconst 1, 1) := by decide +kernel
theorem dX0_plus_79 : decode cX0_plus 79 = .ok (.invokestatic 60, 3) := by decide +kernel
theorem dX0_plus_82 : decode cX0_plus 82 = .ok (.lstore 10, 2) := by decide +kernel
theorem dX0_plus_84 : decode cX0_plus 84 = .ok (.iinc 9 1, 3) := by decide +kernel
theorem dX0_plus_87 : decode cX0_plus 87 = .ok (.aload_n 0, 1) := by decide +kernel
theorem dX0_plus_88 : decode cX0_plus 88 = .ok (.lload 10, 2) := by decide +kernel
theorem dX0_plus_90 : decode cX0_plus 90 = .ok (.iload 9, 2) := by decide +kernel
theorem dX0_plus_92 : decode cX0_plus 92 = .ok (.invokevirtual 64, 3) := by decide +kernel
theorem dX0_plus_95 : decode cX0_plus 95 = .ok (.lreturn, 1) := by decide +kernel
theorem dX0_apart_0 : decode cX0_apart 0 = .ok (.aload_n 0, 1) := by decide +kernel
theorem dX0_apart_1 : decode cX0_apart 1 = .ok (.lload_n 1, 1) := by decide +kernel
theorem dX0_apart_2 : decode cX0_apart 2 = .ok (.invokevirtual 40, 3) := by decide +kernel
theorem dX0_apart_5 : decode cX0_apart 5 = .ok (.lstore 5, 2) := by decide +kernel
theorem dX0_apart_7 : decode cX0_apart 7 = .ok (.aload_n 0, 1) := by decide +kernel
theorem dX0_apart_8 : decode cX0_apart 8 = .ok (.lload_n 3, 1) := by decide +kernel
theorem dX0_apart_9 : decode cX0_apart 9 = .ok (.invokevirtual 40, 3) := by decide +kernel
theorem dX0_apart_12 : decode cX0_apart 12 = .ok (.lstore 7, 2) := by decide +kernel
theorem dX0_apart_14 : decode cX0_apart 14 = .ok (.lload_n 1, 1) := by decide +kernel
theorem dX0_apart_15 : decode cX0_apart 15 = .ok (.lconst 0, 1) := by decide +kernel
theorem dX0_apart_16 : decode cX0_apart 16 = .ok (.lcmp, 1) := by decide +kernel
theorem dX0_apart_17 : decode cX0_apart 17 = .ok (.ifCond .ge 7, 3) := by decide +kernel
theorem dX0_apart_20 : decode cX0_apart 20 = .ok (.iconst 1, 1) := by decide +kernel
theorem dX0_apart_21 : decode cX0_apart 21 = .ok (.goto 4, 3) := by decide +kernel
theorem dX0_apart_24 : decode cX0_apart 24 = .ok (.iconst 0, 1) := by decide +kernel
theorem dX0_apart_25 : decode cX0_apart 25 = .ok (.lload_n 3, 1) := by decide +kernel
theorem dX0_apart_26 : decode cX0_apart 26 = .ok (.lconst 0, 1) := by decide +kernel
theorem dX0_apart_27 : decode cX0_apart 27 = .ok (.lcmp, 1) := by decide +kernel
theorem dX0_apart_28 : decode cX0_apart 28 = .ok (.ifCond .ge 7, 3) := by decide +kernel
theorem dX0_apart_31 : decode cX0_apart 31 = .ok (.iconst 1, 1) := by decide +kernel
theorem dX0_apart_32 : decode cX0_apart 32 = .ok (.goto 4, 3) := by decide +kernel
theorem dX0_apart_35 : decode cX0_apart 35 = .ok (.iconst 0, 1) := by decide +kernel
theorem dX0_apart_36 : decode cX0_apart 36 = .ok (.if_icmp .eq 12, 3) := by decide +kernel
theorem dX0_apart_39 : decode cX0_apart 39 = .ok (.aload_n 0, 1) := by decide +kernel
theorem dX0_apart_40 : decode cX0_apart 40 = .ok (.lload 5, 2) := by decide +kernel
theorem dX0_apart_42 : decode cX0_apart 42 = .ok (.lload 7, 2) := by decide +kernel
theorem dX0_apart_44 : decode cX0_apart 44 = .ok (.invokevirtual 67, 3) := by decide +kernel
theorem dX0_apart_47 : decode cX0_apart 47 = .ok (.lreturn, 1) := by decide +kernel
theorem dX0_apart_48 : decode cX0_apart 48 = .ok (.aload_n 0, 1) := by decide +kernel
theorem dX0_apart_49 : decode cX0_apart 49 = .ok (.lload 5, 2) := by decide +kernel
theorem dX0_apart_51 : decode cX0_apart 51 = .ok (.lload 7, 2) := by decide +kernel
theorem dX0_apart_53 : decode cX0_apart 53 = .ok (.invokestatic 44, 3) := by decide +kernel
theorem dX0_apart_56 : decode cX0_apart 56 = .ok (.lload 5, 2) := by decide +kernel
theorem dX0_apart_58 : decode cX0_apart 58 = .ok (.lload 7, 2) := by decide +kernel
theorem dX0_apart_60 : decode cX0_apart 60 = .ok (.invokestatic 50, 3) := by decide +kernel
theorem dX0_apart_63 : decode cX0_apart 63 = .ok (.invokevirtual 70, 3) := by decide +kernel
theorem dX0_apart_66 : decode cX0_apart 66 = .ok (.lreturn, 1) := by decide +kernel
theorem dX0_toInt_0 : decode cX0_toInt 0 = .ok (.aload_n 0, 1) := by decide +kernel
theorem dX0_toInt_1 : decode cX0_toInt 1 = .ok (.lload_n 1, 1) := by decide +kernel
theorem dX0_toInt_2 : decode cX0_toInt 2 = .ok (.invokevirtual 40, 3) := by decide +kernel
theorem dX0_toInt_5 : decode cX0_toInt 5 = .ok (.lstore_n 3, 1) := by decide +kernel
theorem dX0_toInt_6 : decode cX0_toInt 6 = .ok (.lload_n 3, 1) := by decide +kernel
theorem dX0_toInt_7 : decode cX0_toInt 7 = .ok (.aload_n 0, 1) := by decide +kernel
theorem dX0_toInt_8 : decode cX0_toInt 8 = .ok (.getfield 31, 3) := by decide +kernel
theorem dX0_toInt_11 : decode cX0_toInt 11 = .ok (.lcmp, 1) := by decide +kernel
theorem dX0_toInt_12 : decode cX0_toInt 12 = .ok (.ifCond .ge 5, 3) := by decide +kernel
theorem dX0_toInt_15 : decode cX0_toInt 15 = .ok (.iconst 0, 1) := by decide +kernel
theorem dX0_toInt_16 : decode cX0_toInt 16 = .ok (.ireturn, 1) := by decide +kernel
theorem dX0_toInt_17 : decode cX0_toInt 17 = .ok (.aload_n 0, 1) := by decide +kernel
theorem dX0_toInt_18 : decode cX0_toInt 18 = .ok (.lload_n 3, 1) := by decide +kernel
theorem dX0_toInt_19 : decode cX0_toInt 19 = .ok (.invokevirtual 53, 3) := by decide +kernel
theorem dX0_toInt_22 : decode cX0_toInt 22 = .ok (.aload_n 0, 1) := by decide +kernel
theorem dX0_toInt_23 : decode cX0_toInt 23 = .ok (.getfield 28, 3) := by decide +kernel
theorem dX0_toInt_26 : decode cX0_toInt 26 = .ok (.isub, 1) := by decide +kernel
theorem dX0_toInt_27 : decode cX0_toInt 27 = .ok (.istore 5, 2) := by decide +kernel
theorem dX0_toInt_29 : decode cX0_toInt 29 = .ok (.iload 5, 2) := by decide +kernel
theorem dX0_toInt_31 : decode cX0_toInt 31 = .ok (.bipush 30, 2) := by decide +kernel
theorem dX0_toInt_33 : decode cX0_toInt 33 = .ok (.if_icmp .le 17, 3) := by decide +kernel
theorem dX0_toInt_36 : decode cX0_toInt 36 = .ok (.lload_n 1, 1) := by decide +kernel
theorem dX0_toInt_37 : decode cX0_toInt 37 = .ok (.lconst 0, 1) := by decide +kernel
theorem dX0_toInt_38 : decode cX0_toInt 38 = .ok (.lcmp, 1) := by decide +kernel
theorem dX0_toInt_39 : decode cX0_toInt 39 = .ok (.ifCond .ge 8, 3) := by decide +kernel
theorem dX0_toInt_42 : decode cX0_toInt 42 = .ok (.ldc 75, 2) := by decide +kernel
theorem dX0_toInt_44 : decode cX0_toInt 44 = .ok (.goto 5, 3) := by decide +kernel
theorem dX0_toInt_47 : decode cX0_toInt 47 = .ok (.ldc 76, 2) := by decide +kernel
theorem dX0_toInt_49 : decode cX0_toInt 49 = .ok (.ireturn, 1) := by decide +kernel
theorem dX0_toInt_50 : decode cX0_toInt 50 = .ok (.aload_n 0, 1) := by decide +kernel
theorem dX0_toInt_51 : decode cX0_toInt 51 = .ok (.getfield 37, 3) := by decide +kernel
theorem dX0_toInt_54 : decode cX0_toInt 54 = .ok (.lload_n 3, 1) := by decide +kernel
theorem dX0_toInt_55 : decode cX0_toInt 55 = .ok (.aload_n 0, 1) := by decide +kernel
theorem dX0_toInt_56 : decode cX0_toInt 56 = .ok (.getfield 37, 3) := by decide +kernel
theorem dX0_toInt_59 : decode cX0_toInt 59 = .ok (.lconst 1, 1) := by decide +kernel
theorem dX0_toInt_60 : decode cX0_toInt 60 = .ok (.lsub, 1) := by decide +kernel
theorem dX0_toInt_61 : decode cX0_toInt 61 = .ok (.land, 1) := by decide +kernel
theorem dX0_toInt_62 : decode cX0_toInt 62 = .ok (.lor, 1) := by decide +kernel
theorem dX0_toInt_63 : decode cX0_toInt 63 = .ok (.lstore 6, 2) := by decide +kernel
theorem dX0_toInt_65 : decode cX0_toInt 65 = .ok (.iload 5, 2) := by decide +kernel
theorem dX0_toInt_67 : decode cX0_toInt 67 = .ok (.aload_n 0, 1) := by decide +kernel
theorem dX0_toInt_68 : decode cX0_toInt 68 = .ok (.getfield 17, 3) := by decide +kernel
theorem dX0_toInt_71 : decode cX0_toInt 71 = .ok (.if_icmp .gt 16, 3) := by decide +kernel
theorem dX0_toInt_74 : decode cX0_toInt 74 = .ok (.lload 6, 2) := by decide +kernel
theorem dX0_toInt_76 : decode cX0_toInt 76 = .ok (.aload_n 0, 1) := by decide +kernel
theorem dX0_toInt_77 : decode cX0_toInt 77 = .ok (.getfield 17, 3) := by decide +kernel
theorem dX0_toInt_80 : decode cX0_toInt 80 = .ok (.iload 5, 2) := by decide +kernel
theorem dX0_toInt_82 : decode cX0_toInt 82 = .ok (.isub, 1) := by decide +kernel
theorem dX0_toInt_83 : decode cX0_toInt 83 = .ok (.lushr, 1) := by decide +kernel
theorem dX0_toInt_84 : decode cX0_toInt 84 = .ok (.goto 13, 3) := by decide +kernel
theorem dX0_toInt_87 : decode cX0_toInt 87 = .ok (.lload 6, 2) := by decide +kernel
theorem dX0_toInt_89 : decode cX0_toInt 89 = .ok (.iload 5, 2) := by decide +kernel
theorem dX0_toInt_91 : decode cX0_toInt 91 = .ok (.aload_n 0, 1) := by decide +kernel
theorem dX0_toInt_92 : decode cX0_toInt 92 = .ok (.getfield 17, 3) := by decide +kernel
theorem dX0_toInt_95 : decode cX0_toInt 95 = .ok (.isub, 1) := by decide +kernel
theorem dX0_toInt_96 : decode cX0_toInt 96 = .ok (.lshl, 1) := by decide +kernel
theorem dX0_toInt_97 : decode cX0_toInt 97 = .ok (.l2i, 1) := by decide +kernel
theorem dX0_toInt_98 : decode cX0_toInt 98 = .ok (.istore 8, 2) := by decide +kernel
theorem dX0_toInt_100 : decode cX0_toInt 100 = .ok (.lload_n 1, 1) := by decide +kernel
theorem dX0_toInt_101 : decode cX0_toInt 101 = .ok (.lconst 0, 1) := by decide +kernel
theorem dX0_toInt_102 : decode cX0_toInt 102 = .ok (.lcmp, 1) := by decide +kernel
theorem dX0_toInt_103 : decode cX0_toInt 103 = .ok (.ifCond .ge 9, 3) := by decide +kernel
theorem dX0_toInt_106 : decode cX0_toInt 106 = .ok (.iload 8, 2) := by decide +kernel
theorem dX0_toInt_108 : decode cX0_toInt 108 = .ok (.ineg, 1) := by decide +kernel
theorem dX0_toInt_109 : decode cX0_toInt 109 = .ok (.goto 5, 3) := by decide +kernel
theorem dX0_toInt_112 : decode cX0_toInt 112 = .ok (.iload 8, 2) := by decide +kernel
theorem dX0_toInt_114 : decode cX0_toInt 114 = .ok (.ireturn, 1) := by decide +kernel
theorem dX0_rank_0 : decode cX0_rank 0 = .ok (.lload_n 1, 1) := by decide +kernel
theorem dX0_rank_1 : decode cX0_rank 1 = .ok (.lconst 0, 1) := by decide +kernel
theorem dX0_rank_2 : decode cX0_rank 2 = .ok (.lcmp, 1) := by decide +kernel
theorem dX0_rank_3 : decode cX0_rank 3 = .ok (.ifCond .ge 15, 3) := by decide +kernel
theorem dX0_rank_6 : decode cX0_rank 6 = .ok (.ldc2_w 3, 3) := by decide +kernel
theorem dX0_rank_9 : decode cX0_rank 9 = .ok (.aload_n 0, 1) := by decide +kernel
theorem dX0_rank_10 : decode cX0_rank 10 = .ok (.lload_n 1, 1) := by decide +kernel
theorem dX0_rank_11 : decode cX0_rank 11 = .ok (.invokevirtual 40, 3) := by decide +kernel
theorem dX0_rank_14 : decode cX0_rank 14 = .ok (.lsub, 1) := by decide +kernel
theorem dX0_rank_15 : decode cX0_rank 15 = .ok (.goto 4, 3) := by decide +kernel
theorem dX0_rank_18 : decode cX0_rank 18 = .ok (.lload_n 1, 1) := by decide +kernel
theorem dX0_rank_19 : decode cX0_rank 19 = .ok (.lreturn, 1) := by decide +kernel
theorem dX0_level_0 : decode cX0_level 0 = .ok (.lload_n 1, 1) := by decide +kernel
theorem dX0_level_1 : decode cX0_level 1 = .ok (.lconst 0, 1) := by decide +kernel
theorem dX0_level_2 : decode cX0_level 2 = .ok (.lcmp, 1) := by decide +kernel
theorem dX0_level_3 : decode cX0_level 3 = .ok (.ifCond .ge 12, 3) := by decide +kernel
theorem dX0_level_6 : decode cX0_level 6 = .ok (.aload_n 0, 1) := by decide +kernel
theorem dX0_level_7 : decode cX0_level 7 = .ok (.lload_n 1, 1) := by decide +kernel
theorem dX0_level_8 : decode cX0_level 8 = .ok (.invokevirtual 40, 3) := by decide +kernel
theorem dX0_level_11 : decode cX0_level 11 = .ok (.lneg, 1) := by decide +kernel
theorem dX0_level_12 : decode cX0_level 12 = .ok (.goto 4, 3) := by decide +kernel
theorem dX0_level_15 : decode cX0_level 15 = .ok (.lload_n 1, 1) := by decide +kernel
theorem dX0_level_16 : decode cX0_level 16 = .ok (.lreturn, 1) := by decide +kernel
theorem dX0_furtherStepped_0 : decode cX0_furtherStepped 0 = .ok (.aload_n 0, 1) := by decide +kernel
theorem dX0_furtherStepped_1 : decode cX0_furtherStepped 1 = .ok (.lload_n 2, 1) := by decide +kernel
theorem dX0_furtherStepped_2 : decode cX0_furtherStepped 2 = .ok (.invokevirtual 40, 3) := by decide +kernel
theorem dX0_furtherStepped_5 : decode cX0_furtherStepped 5 = .ok (.lstore 6, 2) := by decide +kernel
theorem dX0_furtherStepped_7 : decode cX0_furtherStepped 7 = .ok (.iload_n 1, 1) := by decide +kernel
theorem dX0_furtherStepped_8 : decode cX0_furtherStepped 8 = .ok (.tableswitch 132 3 7 #[36, 63, 90, 102, 123], 36) := by decide +kernel
theorem dX0_furtherStepped_44 : decode cX0_furtherStepped 44 = .ok (.aload_n 0, 1) := by decide +kernel
theorem dX0_furtherStepped_45 : decode cX0_furtherStepped 45 = .ok (.lload_n 2, 1) := by decide +kernel
theorem dX0_furtherStepped_46 : decode cX0_furtherStepped 46 = .ok (.lload_n 2, 1) := by decide +kernel
theorem dX0_furtherStepped_47 : decode cX0_furtherStepped 47 = .ok (.lconst 0, 1) := by decide +kernel
theorem dX0_furtherStepped_48 : decode cX0_furtherStepped 48 = .ok (.lcmp, 1) := by decide +kernel
theorem dX0_furtherStepped_49 : decode cX0_furtherStepped 49 = .ok (.ifCond .ge 12, 3) := by decide +kernel
theorem dX0_furtherStepped_52 : decode cX0_furtherStepped 52 = .ok (.aload_n 0, 1) := by decide +kernel
theorem dX0_furtherStepped_53 : decode cX0_furtherStepped 53 = .ok (.lload 6, 2) := by decide +kernel
theorem dX0_furtherStepped_55 : decode cX0_furtherStepped 55 = .ok (.invokevirtual 77, 3) := by decide +kernel
theorem dX0_furtherStepped_58 : decode cX0_furtherStepped 58 = .ok (.goto 9, 3) := by decide +kernel
theorem dX0_furtherStepped_61 : decode cX0_furtherStepped 61 = .ok (.aload_n 0, 1) := by decide +kernel
theorem dX0_furtherStepped_62 : decode cX0_furtherStepped 62 = .ok (.lload 6, 2) := by decide +kernel
theorem dX0_furtherStepped_64 : decode cX0_furtherStepped 64 = .ok (.invokevirtual 80, 3) := by decide +kernel
theorem dX0_furtherStepped_67 : decode cX0_furtherStepped 67 = .ok (.invokevirtual 83, 3) := by decide +kernel
theorem dX0_furtherStepped_70 : decode cX0_furtherStepped 70 = .ok (.lreturn, 1) := by decide +kernel
theorem dX0_furtherStepped_71 : decode cX0_furtherStepped 71 = .ok (.aload_n 0, 1) := by decide +kernel
theorem dX0_furtherStepped_72 : decode cX0_furtherStepped 72 = .ok (.lload_n 2, 1) := by decide +kernel
theorem dX0_furtherStepped_73 : decode cX0_furtherStepped 73 = .ok (.lload_n 2, 1) := by decide +kernel
theorem dX0_furtherStepped_74 : decode cX0_furtherStepped 74 = .ok (.lconst 0, 1) := by decide +kernel
theorem dX0_furtherStepped_75 : decode cX0_furtherStepped 75 = .ok (.lcmp, 1) := by decide +kernel
theorem dX0_furtherStepped_76 : decode cX0_furtherStepped 76 = .ok (.ifCond .ge 12, 3) := by decide +kernel
theorem dX0_furtherStepped_79 : decode cX0_furtherStepped 79 = .ok (.aload_n 0, 1) := by decide +kernel
theorem dX0_furtherStepped_80 : decode cX0_furtherStepped 80 = .ok (.lload 6, 2) := by decide +kernel
theorem dX0_furtherStepped_82 : decode cX0_furtherStepped 82 = .ok (.invokevirtual 80, 3) := by decide +kernel
theorem dX0_furtherStepped_85 : decode cX0_furtherStepped 85 = .ok (.goto 9, 3) := by decide +kernel
theorem dX0_furtherStepped_88 : decode cX0_furtherStepped 88 = .ok (.aload_n 0, 1) := by decide +kernel
theorem dX0_furtherStepped_89 : decode cX0_furtherStepped 89 = .ok (.lload 6, 2) := by decide +kernel
theorem dX0_furtherStepped_91 : decode cX0_furtherStepped 91 = .ok (.invokevirtual 77, 3) := by decide +kernel
theorem dX0_furtherStepped_94 : decode cX0_furtherStepped 94 = .ok (.invokevirtual 83, 3) := by decide +kernel
theorem dX0_furtherStepped_97 : decode cX0_furtherStepped 97 = .ok (.lreturn, 1) := by decide +kernel
theorem dX0_furtherStepped_98 : decode cX0_furtherStepped 98 = .ok (.aload_n 0, 1) := by decide +kernel
theorem dX0_furtherStepped_99 : decode cX0_furtherStepped 99 = .ok (.lload_n 2, 1) := by decide +kernel
theorem dX0_furtherStepped_100 : decode cX0_furtherStepped 100 = .ok (.aload_n 0, 1) := by decide +kernel
theorem dX0_furtherStepped_101 : decode cX0_furtherStepped 101 = .ok (.lload 6, 2) := by decide +kernel
theorem dX0_furtherStepped_103 : decode cX0_furtherStepped 103 = .ok (.invokevirtual 86, 3) := by decide +kernel
theorem dX0_furtherStepped_106 : decode cX0_furtherStepped 106 = .ok (.invokevirtual 83, 3) := by decide +kernel
theorem dX0_furtherStepped_109 : decode cX0_furtherStepped 109 = .ok (.lreturn, 1) := by decide +kernel
theorem dX0_furtherStepped_110 : decode cX0_furtherStepped 110 = .ok (.lload 6, 2) := by decide +kernel
theorem dX0_furtherStepped_112 : decode cX0_furtherStepped 112 = .ok (.lconst 0, 1) := by decide +kernel
theorem dX0_furtherStepped_113 : decode cX0_furtherStepped 113 = .ok (.lcmp, 1) := by decide +kernel
theorem dX0_furtherStepped_114 : decode cX0_furtherStepped 114 = .ok (.ifCond .ne 7, 3) := by decide +kernel
theorem dX0_furtherStepped_117 : decode cX0_furtherStepped 117 = .ok (.lload_n 2, 1) := by decide +kernel
theorem dX0_furtherStepped_118 : decode cX0_furtherStepped 118 = .ok (.goto 12, 3) := by decide +kernel
theorem dX0_furtherStepped_121 : decode cX0_furtherStepped 121 = .ok (.aload_n 0, 1) := by decide +kernel
theorem dX0_furtherStepped_122 : decode cX0_furtherStepped 122 = .ok (.lload_n 2, 1) := by decide +kernel
theorem dX0_furtherStepped_123 : decode cX0_furtherStepped 123 = .ok (.aload_n 0, 1) := by decide +kernel
theorem dX0_furtherStepped_124 : decode cX0_furtherStepped 124 = .ok (.getfield 31, 3) := by decide +kernel
theorem dX0_furtherStepped_127 : decode cX0_furtherStepped 127 = .ok (.invokevirtual 83, 3) := by decide +kernel
theorem dX0_furtherStepped_130 : decode cX0_furtherStepped 130 = .ok (.lreturn, 1) := by decide +kernel
theorem dX0_furtherStepped_131 : decode cX0_furtherStepped 131 = .ok (.aload_n 0, 1) := by decide +kernel
theorem dX0_furtherStepped_132 : decode cX0_furtherStepped 132 = .ok (.lload 4, 2) := by decide +kernel
theorem dX0_furtherStepped_134 : decode cX0_furtherStepped 134 = .ok (.lload 6, 2) := by decide +kernel
theorem dX0_furtherStepped_136 : decode cX0_furtherStepped 136 = .ok (.invokevirtual 83, 3) := by decide +kernel
theorem dX0_furtherStepped_139 : decode cX0_furtherStepped 139 = .ok (.lreturn, 1) := by decide +kernel
theorem dX0_furtherStepped_140 : decode cX0_furtherStepped 140 = .ok (.lload_n 2, 1) := by decide +kernel
theorem dX0_furtherStepped_141 : decode cX0_furtherStepped 141 = .ok (.lreturn, 1) := by decide +kernel
theorem dX0_withSignOf_0 : decode cX0_withSignOf 0 = .ok (.lload_n 1, 1) := by decide +kernel
theorem dX0_withSignOf_1 : decode cX0_withSignOf 1 = .ok (.lconst 0, 1) := by decide +kernel
theorem dX0_withSignOf_2 : decode cX0_withSignOf 2 = .ok (.lcmp, 1) := by decide +kernel
theorem dX0_withSignOf_3 : decode cX0_withSignOf 3 = .ok (.ifCond .ge 12, 3) := by decide +kernel
theorem dX0_withSignOf_6 : decode cX0_withSignOf 6 = .ok (.lload_n 3, 1) := by decide +kernel
theorem dX0_withSignOf_7 : decode cX0_withSignOf 7 = .ok (.aload_n 0, 1) := by decide +kernel
theorem dX0_withSignOf_8 : decode cX0_withSignOf 8 = .ok (.getfield 21, 3) := by decide +kernel
theorem dX0_withSignOf_11 : decode cX0_withSignOf 11 = .ok (.lor, 1) := by decide +kernel
theorem dX0_withSignOf_12 : decode cX0_withSignOf 12 = .ok (.goto 4, 3) := by decide +kernel
theorem dX0_withSignOf_15 : decode cX0_withSignOf 15 = .ok (.lload_n 3, 1) := by decide +kernel
theorem dX0_withSignOf_16 : decode cX0_withSignOf 16 = .ok (.lreturn, 1) := by decide +kernel
theorem dX0_bitsBehindPoint_0 : decode cX0_bitsBehindPoint 0 = .ok (.aload_n 0, 1) := by decide +kernel
theorem dX0_bitsBehindPoint_1 : decode cX0_bitsBehindPoint 1 = .ok (.getfield 17, 3) := by decide +kernel
theorem dX0_bitsBehindPoint_4 : decode cX0_bitsBehindPoint 4 = .ok (.aload_n 0, 1) := by decide +kernel
theorem dX0_bitsBehindPoint_5 : decode cX0_bitsBehindPoint 5 = .ok (.getfield 28, 3) := by decide +kernel
theorem dX0_bitsBehindPoint_8 : decode cX0_bitsBehindPoint 8 = .ok (.iadd, 1) := by decide +kernel
theorem dX0_bitsBehindPoint_9 : decode cX0_bitsBehindPoint 9 = .ok (.lload_n 1, 1) := by decide +kernel
theorem dX0_bitsBehindPoint_10 : decode cX0_bitsBehindPoint 10 = .ok (.aload_n 0, 1) := by decide +kernel
theorem dX0_bitsBehindPoint_11 : decode cX0_bitsBehindPoint 11 = .ok (.getfield 17, 3) := by decide +kernel
theorem dX0_bitsBehindPoint_14 : decode cX0_bitsBehindPoint 14 = .ok (.lushr, 1) := by decide +kernel
theorem dX0_bitsBehindPoint_15 : decode cX0_bitsBehindPoint 15 = .ok (.l2i, 1) := by decide +kernel
theorem dX0_bitsBehindPoint_16 : decode cX0_bitsBehindPoint 16 = .ok (.isub, 1) := by decide +kernel
theorem dX0_bitsBehindPoint_17 : decode cX0_bitsBehindPoint 17 = .ok (.ireturn, 1) := by decide +kernel
theorem dX0_cut_0 : decode cX0_cut 0 = .ok (.lload_n 1, 1) := by decide +kernel
theorem dX0_cut_1 : decode cX0_cut 1 = .ok (.aload_n 0, 1) := by decide +kernel
theorem dX0_cut_2 : decode cX0_cut 2 = .ok (.getfield 31, 3) := by decide +kernel
theorem dX0_cut_5 : decode cX0_cut 5 = .ok (.lcmp, 1) := by decide +kernel
theorem dX0_cut_6 : decode cX0_cut 6 = .ok (.ifCond .ge 5, 3) := by decide +kernel
theorem dX0_cut_9 : decode cX0_cut 9 = .ok (.lconst 0, 1) := by decide +kernel
theorem dX0_cut_10 : decode cX0_cut 10 = .ok (.lreturn, 1) := by decide +kernel
theorem dX0_cut_11 : decode cX0_cut 11 = .ok (.aload_n 0, 1) := by decide +kernel
theorem dX0_cut_12 : decode cX0_cut 12 = .ok (.lload_n 1, 1) := by decide +kernel
theorem dX0_cut_13 : decode cX0_cut 13 = .ok (.invokevirtual 89, 3) := by decide +kernel
theorem dX0_cut_16 : decode cX0_cut 16 = .ok (.istore_n 3, 1) := by decide +kernel
theorem dX0_cut_17 : decode cX0_cut 17 = .ok (.iload_n 3, 1) := by decide +kernel
theorem dX0_cut_18 : decode cX0_cut 18 = .ok (.ifCond .gt 7, 3) := by decide +kernel
theorem dX0_cut_21 : decode cX0_cut 21 = .ok (.lload_n 1, 1) := by decide +kernel
theorem dX0_cut_22 : decode cX0_cut 22 = .ok (.goto 10, 3) := by decide +kernel
theorem dX0_cut_25 : decode cX0_cut 25 = .ok (.lload_n 1, 1) := by decide +kernel
theorem dX0_cut_26 : decode cX0_cut 26 = .ok (.ldc2_w 3, 3) := by decide +kernel
theorem dX0_cut_29 : decode cX0_cut 29 = .ok (.iload_n 3, 1) := by decide +kernel
theorem dX0_cut_30 : decode cX0_cut 30 = .ok (.lshl, 1) := by decide +kernel
theorem dX0_cut_31 : decode cX0_cut 31 = .ok (.land, 1) := by decide +kernel
theorem dX0_cut_32 : decode cX0_cut 32 = .ok (.lreturn, 1) := by decide +kernel
theorem dX0_raised_0 : decode cX0_raised 0 = .ok (.aload_n 0, 1) := by decide +kernel
theorem dX0_raised_1 : decode cX0_raised 1 = .ok (.lload_n 1, 1) := by decide +kernel
theorem dX0_raised_2 : decode cX0_raised 2 = .ok (.invokevirtual 80, 3) := by decide +kernel
theorem dX0_raised_5 : decode cX0_raised 5 = .ok (.lstore_n 3, 1) := by decide +kernel
theorem dX0_raised_6 : decode cX0_raised 6 = .ok (.lload_n 3, 1) := by decide +kernel
theorem dX0_raised_7 : decode cX0_raised 7 = .ok (.lload_n 1, 1) := by decide +kernel
theorem dX0_raised_8 : decode cX0_raised 8 = .ok (.lcmp, 1) := by decide +kernel
theorem dX0_raised_9 : decode cX0_raised 9 = .ok (.ifCond .ne 7, 3) := by decide +kernel
theorem dX0_raised_12 : decode cX0_raised 12 = .ok (.lload_n 1, 1) := by decide +kernel
theorem dX0_raised_13 : decode cX0_raised 13 = .ok (.goto 9, 3) := by decide +kernel
theorem dX0_raised_16 : decode cX0_raised 16 = .ok (.aload_n 0, 1) := by decide +kernel
theorem dX0_raised_17 : decode cX0_raised 17 = .ok (.lload_n 3, 1) := by decide +kernel
theorem dX0_raised_18 : decode cX0_raised 18 = .ok (.lload_n 1, 1) := by decide +kernel
theorem dX0_raised_19 : decode cX0_raised 19 = .ok (.invokevirtual 92, 3) := by decide +kernel
theorem dX0_raised_22 : decode cX0_raised 22 = .ok (.lreturn, 1) := by decide +kernel
theorem dX0_nearest_0 : decode cX0_nearest 0 = .ok (.lload_n 1, 1) := by decide +kernel
theorem dX0_nearest_1 : decode cX0_nearest 1 = .ok (.aload_n 0, 1) := by decide +kernel
theorem dX0_nearest_2 : decode cX0_nearest 2 = .ok (.getfield 31, 3) := by decide +kernel
theorem dX0_nearest_5 : decode cX0_nearest 5 = .ok (.lcmp, 1) := by decide +kernel
theorem dX0_nearest_6 : decode cX0_nearest 6 = .ok (.ifCond .ge 21, 3) := by decide +kernel
theorem dX0_nearest_9 : decode cX0_nearest 9 = .ok (.lload_n 1, 1) := by decide +kernel
theorem dX0_nearest_10 : decode cX0_nearest 10 = .ok (.aload_n 0, 1) := by decide +kernel
theorem dX0_nearest_11 : decode cX0_nearest 11 = .ok (.getfield 34, 3) := by decide +kernel
theorem dX0_nearest_14 : decode cX0_nearest 14 = .ok (.lcmp, 1) := by decide +kernel
theorem dX0_nearest_15 : decode cX0_nearest 15 = .ok (.ifCond .le 10, 3) := by decide +kernel
theorem dX0_nearest_18 : decode cX0_nearest 18 = .ok (.aload_n 0, 1) := by decide +kernel
theorem dX0_nearest_19 : decode cX0_nearest 19 = .ok (.getfield 31, 3) := by decide +kernel
theorem dX0_nearest_22 : decode cX0_nearest 22 = .ok (.goto 4, 3) := by decide +kernel
theorem dX0_nearest_25 : decode cX0_nearest 25 = .ok (.lconst 0, 1) := by decide +kernel
theorem dX0_nearest_26 : decode cX0_nearest 26 = .ok (.lreturn, 1) := by decide +kernel
theorem dX0_nearest_27 : decode cX0_nearest 27 = .ok (.aload_n 0, 1) := by decide +kernel
theorem dX0_nearest_28 : decode cX0_nearest 28 = .ok (.lload_n 1, 1) := by decide +kernel
theorem dX0_nearest_29 : decode cX0_nearest 29 = .ok (.invokevirtual 80, 3) := by decide +kernel
theorem dX0_nearest_32 : decode cX0_nearest 32 = .ok (.lstore_n 3, 1) := by decide +kernel
theorem dX0_nearest_33 : decode cX0_nearest 33 = .ok (.lload_n 3, 1) := by decide +kernel
theorem dX0_nearest_34 : decode cX0_nearest 34 = .ok (.lload_n 1, 1) := by decide +kernel
theorem dX0_nearest_35 : decode cX0_nearest 35 = .ok (.lcmp, 1) := by decide +kernel
theorem dX0_nearest_36 : decode cX0_nearest 36 = .ok (.ifCond .ne 5, 3) := by decide +kernel
theorem dX0_nearest_39 : decode cX0_nearest 39 = .ok (.lload_n 1, 1) := by decide +kernel
theorem dX0_nearest_40 : decode cX0_nearest 40 = .ok (.lreturn, 1) := by decide +kernel
theorem dX0_nearest_41 : decode cX0_nearest 41 = .ok (.aload_n 0, 1) := by decide +kernel
theorem dX0_nearest_42 : decode cX0_nearest 42 = .ok (.lload_n 1, 1) := by decide +kernel
theorem dX0_nearest_43 : decode cX0_nearest 43 = .ok (.invokevirtual 89, 3) := by decide +kernel
theorem dX0_nearest_46 : decode cX0_nearest 46 = .ok (.istore 5, 2) := by decide +kernel
theorem dX0_nearest_48 : decode cX0_nearest 48 = .ok (.lload_n 1, 1) := by decide +kernel
theorem dX0_nearest_49 : decode cX0_nearest 49 = .ok (.lload_n 3, 1) := by decide +kernel
theorem dX0_nearest_50 : decode cX0_nearest 50 = .ok (.lsub, 1) := by decide +kernel
theorem dX0_nearest_51 : decode cX0_nearest 51 = .ok (.lstore 6, 2) := by decide +kernel
theorem dX0_nearest_53 : decode cX0_nearest 53 = .ok (.lconst 1, 1) := by decide +kernel
theorem dX0_nearest_54 : decode cX0_nearest 54 = .ok (.iload 5, 2) := by decide +kernel
theorem dX0_nearest_56 : decode cX0_nearest 56 = .ok (.iconst 1, 1) := by decide +kernel
theorem dX0_nearest_57 : decode cX0_nearest 57 = .ok (.isub, 1) := by decide +kernel
theorem dX0_nearest_58 : decode cX0_nearest 58 = .ok (.lshl, 1) := by decide +kernel
theorem dX0_nearest_59 : decode cX0_nearest 59 = .ok (.lstore 8, 2) := by decide +kernel
theorem dX0_nearest_61 : decode cX0_nearest 61 = .ok (.lload_n 3, 1) := by decide +kernel
theorem dX0_nearest_62 : decode cX0_nearest 62 = .ok (.iload 5, 2) := by decide +kernel
theorem dX0_nearest_64 : decode cX0_nearest 64 = .ok (.lushr, 1) := by decide +kernel
theorem dX0_nearest_65 : decode cX0_nearest 65 = .ok (.lconst 1, 1) := by decide +kernel
theorem dX0_nearest_66 : decode cX0_nearest 66 = .ok (.land, 1) := by decide +kernel
theorem dX0_nearest_67 : decode cX0_nearest 67 = .ok (.lconst 1, 1) := by decide +kernel
theorem dX0_nearest_68 : decode cX0_nearest 68 = .ok (.lcmp, 1) := by decide +kernel
theorem dX0_nearest_69 : decode cX0_nearest 69 = .ok (.ifCond .ne 7, 3) := by decide +kernel
theorem dX0_nearest_72 : decode cX0_nearest 72 = .ok (.iconst 1, 1) := by decide +kernel
theorem dX0_nearest_73 : decode cX0_nearest 73 = .ok (.goto 4, 3) := by decide +kernel
theorem dX0_nearest_76 : decode cX0_nearest 76 = .ok (.iconst 0, 1) := by decide +kernel
theorem dX0_nearest_77 : decode cX0_nearest 77 = .ok (.istore 10, 2) := by decide +kernel
theorem dX0_nearest_79 : decode cX0_nearest 79 = .ok (.lload 6, 2) := by decide +kernel
theorem dX0_nearest_81 : decode cX0_nearest 81 = .ok (.lload 8, 2) := by decide +kernel
theorem dX0_nearest_83 : decode cX0_nearest 83 = .ok (.lcmp, 1) := by decide +kernel
theorem dX0_nearest_84 : decode cX0_nearest 84 = .ok (.ifCond .gt 16, 3) := by decide +kernel
theorem dX0_nearest_87 : decode cX0_nearest 87 = .ok (.lload 6, 2) := by decide +kernel
theorem dX0_nearest_89 : decode cX0_nearest 89 = .ok (.lload 8, 2) := by decide +kernel
theorem dX0_nearest_91 : decode cX0_nearest 91 = .ok (.lcmp, 1) := by decide +kernel
theorem dX0_nearest_92 : decode cX0_nearest 92 = .ok (.ifCond .ne 17, 3) := by decide +kernel
theorem dX0_nearest_95 : decode cX0_nearest 95 = .ok (.iload 10, 2) := by decide +kernel
theorem dX0_nearest_97 : decode cX0_nearest 97 = .ok (.ifCond .eq 12, 3) := by decide +kernel
theorem dX0_nearest_100 : decode cX0_nearest 100 = .ok (.aload_n 0, 1) := by decide +kernel
theorem dX0_nearest_101 : decode cX0_nearest 101 = .ok (.lload_n 3, 1) := by decide +kernel
theorem dX0_nearest_102 : decode cX0_nearest 102 = .ok (.lload_n 1, 1) := by decide +kernel
theorem dX0_nearest_103 : decode cX0_nearest 103 = .ok (.invokevirtual 92, 3) := by decide +kernel
theorem dX0_nearest_106 : decode cX0_nearest 106 = .ok (.goto 4, 3) := by decide +kernel
theorem dX0_nearest_109 : decode cX0_nearest 109 = .ok (.lload_n 3, 1) := by decide +kernel
theorem dX0_nearest_110 : decode cX0_nearest 110 = .ok (.lreturn, 1) := by decide +kernel
theorem dX0_nextWhole_0 : decode cX0_nextWhole 0 = .ok (.lload_n 3, 1) := by decide +kernel
theorem dX0_nextWhole_1 : decode cX0_nextWhole 1 = .ok (.aload_n 0, 1) := by decide +kernel
theorem dX0_nextWhole_2 : decode cX0_nextWhole 2 = .ok (.getfield 31, 3) := by decide +kernel
theorem dX0_nextWhole_5 : decode cX0_nextWhole 5 = .ok (.lcmp, 1) := by decide +kernel
theorem dX0_nextWhole_6 : decode cX0_nextWhole 6 = .ok (.ifCond .ge 10, 3) := by decide +kernel
theorem dX0_nextWhole_9 : decode cX0_nextWhole 9 = .ok (.aload_n 0, 1) := by decide +kernel
theorem dX0_nextWhole_10 : decode cX0_nextWhole 10 = .ok (.getfield 31, 3) := by decide +kernel
theorem dX0_nextWhole_13 : decode cX0_nextWhole 13 = .ok (.goto 12, 3) := by decide +kernel
theorem dX0_nextWhole_16 : decode cX0_nextWhole 16 = .ok (.lload_n 1, 1) := by decide +kernel
theorem dX0_nextWhole_17 : decode cX0_nextWhole 17 = .ok (.lconst 1, 1) := by decide +kernel
theorem dX0_nextWhole_18 : decode cX0_nextWhole 18 = .ok (.aload_n 0, 1) := by decide +kernel
theorem dX0_nextWhole_19 : decode cX0_nextWhole 19 = .ok (.lload_n 3, 1) := by decide +kernel
theorem dX0_nextWhole_20 : decode cX0_nextWhole 20 = .ok (.invokevirtual 89, 3) := by decide +kernel
theorem dX0_nextWhole_23 : decode cX0_nextWhole 23 = .ok (.lshl, 1) := by decide +kernel
theorem dX0_nextWhole_24 : decode cX0_nextWhole 24 = .ok (.ladd, 1) := by decide +kernel
theorem dX0_nextWhole_25 : decode cX0_nextWhole 25 = .ok (.lreturn, 1) := by decide +kernel
theorem dX0_exponentOf_0 : decode cX0_exponentOf 0 = .ok (.lload_n 1, 1) := by decide +kernel
theorem dX0_exponentOf_1 : decode cX0_exponentOf 1 = .ok (.aload_n 0, 1) := by decide +kernel
theorem dX0_exponentOf_2 : decode cX0_exponentOf 2 = .ok (.getfield 37, 3) := by decide +kernel
theorem dX0_exponentOf_5 : decode cX0_exponentOf 5 = .ok (.lcmp, 1) := by decide +kernel
theorem dX0_exponentOf_6 : decode cX0_exponentOf 6 = .ok (.ifCond .ge 7, 3) := by decide +kernel
theorem dX0_exponentOf_9 : decode cX0_exponentOf 9 = .ok (.iconst 1, 1) := by decide +kernel
theorem dX0_exponentOf_10 : decode cX0_exponentOf 10 = .ok (.goto 10, 3) := by decide +kernel
theorem dX0_exponentOf_13 : decode cX0_exponentOf 13 = .ok (.lload_n 1, 1) := by decide +kernel
theorem dX0_exponentOf_14 : decode cX0_exponentOf 14 = .ok (.aload_n 0, 1) := by decide +kernel
theorem dX0_exponentOf_15 : decode cX0_exponentOf 15 = .ok (.getfield 17, 3) := by decide +kernel
theorem dX0_exponentOf_18 : decode cX0_exponentOf 18 = .ok (.lushr, 1) := by decide +kernel
theorem dX0_exponentOf_19 : decode cX0_exponentOf 19 = .ok (.l2i, 1) := by decide +kernel
theorem dX0_exponentOf_20 : decode cX0_exponentOf 20 = .ok (.ireturn, 1) := by decide +kernel
theorem dX0_significandOf_0 : decode cX0_significandOf 0 = .ok (.lload_n 1, 1) := by decide +kernel
theorem dX0_significandOf_1 : decode cX0_significandOf 1 = .ok (.aload_n 0, 1) := by decide +kernel
theorem dX0_significandOf_2 : decode cX0_significandOf 2 = .ok (.getfield 37, 3) := by decide +kernel
theorem dX0_significandOf_5 : decode cX0_significandOf 5 = .ok (.lconst 1, 1) := by decide +kernel
theorem dX0_significandOf_6 : decode cX0_significandOf 6 = .ok (.lsub, 1) := by decide +kernel
theorem dX0_significandOf_7 : decode cX0_significandOf 7 = .ok (.land, 1) := by decide +kernel
theorem dX0_significandOf_8 : decode cX0_significandOf 8 = .ok (.lstore_n 3, 1) := by decide +kernel
theorem dX0_significandOf_9 : decode cX0_significandOf 9 = .ok (.lload_n 1, 1) := by decide +kernel
theorem dX0_significandOf_10 : decode cX0_significandOf 10 = .ok (.aload_n 0, 1) := by decide +kernel
theorem dX0_significandOf_11 : decode cX0_significandOf 11 = .ok (.getfield 37, 3) := by decide +kernel
theorem dX0_significandOf_14 : decode cX0_significandOf 14 = .ok (.lcmp, 1) := by decide +kernel
theorem dX0_significandOf_15 : decode cX0_significandOf 15 = .ok (.ifCond .ge 7, 3) := by decide +kernel
theorem dX0_significandOf_18 : decode cX0_significandOf 18 = .ok (.lload_n 3, 1) := by decide +kernel
theorem dX0_significandOf_19 : decode cX0_significandOf 19 = .ok (.goto 9, 3) := by decide +kernel
theorem dX0_significandOf_22 : decode cX0_significandOf 22 = .ok (.lload_n 3, 1) := by decide +kernel
theorem dX0_significandOf_23 : decode cX0_significandOf 23 = .ok (.aload_n 0, 1) := by decide +kernel
theorem dX0_significandOf_24 : decode cX0_significandOf 24 = .ok (.getfield 37, 3) := by decide +kernel
theorem dX0_significandOf_27 : decode cX0_significandOf 27 = .ok (.lor, 1) := by decide +kernel
theorem dX0_significandOf_28 : decode cX0_significandOf 28 = .ok (.iconst 3, 1) := by decide +kernel
theorem dX0_significandOf_29 : decode cX0_significandOf 29 = .ok (.lshl, 1) := by decide +kernel
theorem dX0_significandOf_30 : decode cX0_significandOf 30 = .ok (.lreturn, 1) := by decide +kernel
theorem dX0_shiftedRight_0 : decode cX0_shiftedRight 0 = .ok (.iload_n 2, 1) := by decide +kernel
theorem dX0_shiftedRight_1 : decode cX0_shiftedRight 1 = .ok (.bipush 63, 2) := by decide +kernel
theorem dX0_shiftedRight_3 : decode cX0_shiftedRight 3 = .ok (.invokestatic 95, 3) := by decide +kernel
theorem dX0_shiftedRight_6 : decode cX0_shiftedRight 6 = .ok (.istore_n 3, 1) := by decide +kernel
theorem dX0_shiftedRight_7 : decode cX0_shiftedRight 7 = .ok (.lload_n 0, 1) := by decide +kernel
theorem dX0_shiftedRight_8 : decode cX0_shiftedRight 8 = .ok (.iload_n 3, 1) := by decide +kernel
theorem dX0_shiftedRight_9 : decode cX0_shiftedRight 9 = .ok (.lushr, 1) := by decide +kernel
theorem dX0_shiftedRight_10 : decode cX0_shiftedRight 10 = .ok (.lstore 4, 2) := by decide +kernel
theorem dX0_shiftedRight_12 : decode cX0_shiftedRight 12 = .ok (.lload 4, 2) := by decide +kernel
theorem dX0_shiftedRight_14 : decode cX0_shiftedRight 14 = .ok (.iload_n 3, 1) := by decide +kernel
theorem dX0_shiftedRight_15 : decode cX0_shiftedRight 15 = .ok (.lshl, 1) := by decide +kernel
theorem dX0_shiftedRight_16 : decode cX0_shiftedRight 16 = .ok (.lload_n 0, 1) := by decide +kernel
theorem dX0_shiftedRight_17 : decode cX0_shiftedRight 17 = .ok (.lcmp, 1) := by decide +kernel
theorem dX0_shiftedRight_18 : decode cX0_shiftedRight 18 = .ok (.ifCond .ne 8, 3) := by decide +kernel
theorem dX0_shiftedRight_21 : decode cX0_shiftedRight 21 = .ok (.lload 4, 2) := by decide +kernel
theorem dX0_shiftedRight_23 : decode cX0_shiftedRight 23 = .ok (.goto 7, 3) := by decide +kernel
theorem dX0_shiftedRight_26 : decode cX0_shiftedRight 26 = .ok (.lload 4, 2) := by decide +kernel
theorem dX0_shiftedRight_28 : decode cX0_shiftedRight 28 = .ok (.lconst 1, 1) := by decide +kernel
theorem dX0_shiftedRight_29 : decode cX0_shiftedRight 29 = .ok (.lor, 1) := by decide +kernel
theorem dX0_shiftedRight_30 : decode cX0_shiftedRight 30 = .ok (.lreturn, 1) := by decide +kernel
theorem dX0_minus_0 : decode cX0_minus 0 = .ok (.lload_n 1, 1) := by decide +kernel
theorem dX0_minus_1 : decode cX0_minus 1 = .ok (.lload_n 3, 1) := by decide +kernel
theorem dX0_minus_2 : decode cX0_minus 2 = .ok (.lcmp, 1) := by decide +kernel
theorem dX0_minus_3 : decode cX0_minus 3 = .ok (.ifCond .ne 5, 3) := by decide +kernel
theorem dX0_minus_6 : decode cX0_minus 6 = .ok (.lconst 0, 1) := by decide +kernel
theorem dX0_minus_7 : decode cX0_minus 7 = .ok (.lreturn, 1) := by decide +kernel
theorem dX0_minus_8 : decode cX0_minus 8 = .ok (.lload_n 1, 1) := by decide +kernel
theorem dX0_minus_9 : decode cX0_minus 9 = .ok (.aload_n 0, 1) := by decide +kernel
theorem dX0_minus_10 : decode cX0_minus 10 = .ok (.getfield 25, 3) := by decide +kernel
theorem dX0_minus_13 : decode cX0_minus 13 = .ok (.lcmp, 1) := by decide +kernel
theorem dX0_minus_14 : decode cX0_minus 14 = .ok (.ifCond .ne 8, 3) := by decide +kernel
theorem dX0_minus_17 : decode cX0_minus 17 = .ok (.aload_n 0, 1) := by decide +kernel
theorem dX0_minus_18 : decode cX0_minus 18 = .ok (.getfield 25, 3) := by decide +kernel
theorem dX0_minus_21 : decode cX0_minus 21 = .ok (.lreturn, 1) := by decide +kernel
theorem dX0_minus_22 : decode cX0_minus 22 = .ok (.aload_n 0, 1) := by decide +kernel
theorem dX0_minus_23 : decode cX0_minus 23 = .ok (.lload_n 1, 1) := by decide +kernel
theorem dX0_minus_24 : decode cX0_minus 24 = .ok (.invokevirtual 53, 3) := by decide +kernel
theorem dX0_minus_27 : decode cX0_minus 27 = .ok (.istore 5, 2) := by decide +kernel
theorem dX0_minus_29 : decode cX0_minus 29 = .ok (.aload_n 0, 1) := by decide +kernel
theorem dX0_minus_30 : decode cX0_minus 30 = .ok (.lload_n 1, 1) := by decide +kernel
theorem dX0_minus_31 : decode cX0_minus 31 = .ok (.invokevirtual 57, 3) := by decide +kernel
theorem dX0_minus_34 : decode cX0_minus 34 = .ok (.aload_n 0, 1) := by decide +kernel
theorem dX0_minus_35 : decode cX0_minus 35 = .ok (.lload_n 3, 1) := by decide +kernel
theorem dX0_minus_36 : decode cX0_minus 36 = .ok (.invokevirtual 57, 3) := by decide +kernel
theorem dX0_minus_39 : decode cX0_minus 39 = .ok (.iload 5, 2) := by decide +kernel
theorem dX0_minus_41 : decode cX0_minus 41 = .ok (.aload_n 0, 1) := by decide +kernel
theorem dX0_minus_42 : decode cX0_minus 42 = .ok (.lload_n 3, 1) := by decide +kernel
theorem dX0_minus_43 : decode cX0_minus 43 = .ok (.invokevirtual 53, 3) := by decide +kernel
theorem dX0_minus_46 : decode cX0_minus 46 = .ok (.isub, 1) := by decide +kernel
theorem dX0_minus_47 : decode cX0_minus 47 = .ok (.invokestatic 60, 3) := by decide +kernel
theorem dX0_minus_50 : decode cX0_minus 50 = .ok (.lsub, 1) := by decide +kernel
theorem dX0_minus_51 : decode cX0_minus 51 = .ok (.lstore 6, 2) := by decide +kernel
theorem dX0_minus_53 : decode cX0_minus 53 = .ok (.iload 5, 2) := by decide +kernel
theorem dX0_minus_55 : decode cX0_minus 55 = .ok (.iconst 1, 1) := by decide +kernel
theorem dX0_minus_56 : decode cX0_minus 56 = .ok (.if_icmp .le 27, 3) := by decide +kernel
theorem dX0_minus_59 : decode cX0_minus 59 = .ok (.lload 6, 2) := by decide +kernel
theorem dX0_minus_61 : decode cX0_minus 61 = .ok (.aload_n 0, 1) := by decide +kernel
theorem dX0_minus_62 : decode cX0_minus 62 = .ok (.getfield 37, 3) := by decide +kernel
theorem dX0_minus_65 : decode cX0_minus 65 = .ok (.iconst 3, 1) := by decide +kernel
theorem dX0_minus_66 : decode cX0_minus 66 = .ok (.lshl, 1) := by decide +kernel
theorem dX0_minus_67 : decode cX0_minus 67 = .ok (.lcmp, 1) := by decide +kernel
theorem dX0_minus_68 : decode cX0_minus 68 = .ok (.ifCond .ge 15, 3) := by decide +kernel
theorem dX0_minus_71 : decode cX0_minus 71 = .ok (.lload 6, 2) := by decide +kernel
theorem dX0_minus_73 : decode cX0_minus 73 = .ok (.iconst 1, 1) := by decide +kernel
theorem dX0_minus_74 : decode cX0_minus 74 = .ok (.lshl, 1) := by decide +kernel
theorem dX0_minus_75 : decode cX0_minus 75 = .ok (.lstore 6, 2) := by decide +kernel
theorem dX0_minus_77 : decode cX0_minus 77 = .ok (.iinc 5 (-1), 3) := by decide +kernel
theorem dX0_minus_80 : decode cX0_minus 80 = .ok (.goto (-27), 3) := by decide +kernel
theorem dX0_minus_83 : decode cX0_minus 83 = .ok (.aload_n 0, 1) := by decide +kernel
theorem dX0_minus_84 : decode cX0_minus 84 = .ok (.lload 6, 2) := by decide +kernel
theorem dX0_minus_86 : decode cX0_minus 86 = .ok (.iload 5, 2) := by decide +kernel
theorem dX0_minus_88 : decode cX0_minus 88 = .ok (.invokevirtual 64, 3) := by decide +kernel
theorem dX0_minus_91 : decode cX0_minus 91 = .ok (.lreturn, 1) := by decide +kernel
theorem dX0_rounded_0 : decode cX0_rounded 0 = .ok (.iload_n 3, 1) := by decide +kernel
theorem dX0_rounded_1 : decode cX0_rounded 1 = .ok (.aload_n 0, 1) := by decide +kernel
theorem dX0_rounded_2 : decode cX0_rounded 2 = .ok (.aload_n 0, 1) := by decide +kernel
theorem dX0_rounded_3 : decode cX0_rounded 3 = .ok (.getfield 25, 3) := by decide +kernel
theorem dX0_rounded_6 : decode cX0_rounded 6 = .ok (.invokevirtual 53, 3) := by decide +kernel
theorem dX0_rounded_9 : decode cX0_rounded 9 = .ok (.if_icmp .lt 8, 3) := by decide +kernel
theorem dX0_rounded_12 : decode cX0_rounded 12 = .ok (.aload_n 0, 1) := by decide +kernel
theorem dX0_rounded_13 : decode cX0_rounded 13 = .ok (.getfield 25, 3) := by decide +kernel
theorem dX0_rounded_16 : decode cX0_rounded 16 = .ok (.lreturn, 1) := by decide +kernel
theorem dX0_rounded_17 : decode cX0_rounded 17 = .ok (.lload_n 1, 1) := by decide +kernel
theorem dX0_rounded_18 : decode cX0_rounded 18 = .ok (.iconst 3, 1) := by decide +kernel
theorem dX0_rounded_19 : decode cX0_rounded 19 = .ok (.lushr, 1) := by decide +kernel
theorem dX0_rounded_20 : decode cX0_rounded 20 = .ok (.lstore 4, 2) := by decide +kernel
theorem dX0_rounded_22 : decode cX0_rounded 22 = .ok (.lload_n 1, 1) := by decide +kernel
theorem dX0_rounded_23 : decode cX0_rounded 23 = .ok (.ldc2_w 98, 3) := by decide +kernel
theorem dX0_rounded_26 : decode cX0_rounded 26 = .ok (.land, 1) := by decide +kernel
theorem dX0_rounded_27 : decode cX0_rounded 27 = .ok (.lstore 6, 2) := by decide +kernel
theorem dX0_rounded_29 : decode cX0_rounded 29 = .ok (.lload 6, 2) := by decide +kernel
theorem dX0_rounded_31 : decode cX0_rounded 31 = .ok (.ldc2_w 100, 3) := by decide +kernel
theorem dX0_rounded_34 : decode cX0_rounded 34 = .ok (.lcmp, 1) := by decide +kernel
theorem dX0_rounded_35 : decode cX0_rounded 35 = .ok (.ifCond .gt 21, 3) := by decide +kernel
theorem dX0_rounded_38 : decode cX0_rounded 38 = .ok (.lload 6, 2) := by decide +kernel
theorem dX0_rounded_40 : decode cX0_rounded 40 = .ok (.ldc2_w 100, 3) := by decide +kernel
theorem dX0_rounded_43 : decode cX0_rounded 43 = .ok (.lcmp, 1) := by decide +kernel
theorem dX0_rounded_44 : decode cX0_rounded 44 = .ok (.ifCond .ne 18, 3) := by decide +kernel
theorem dX0_rounded_47 : decode cX0_rounded 47 = .ok (.lload 4, 2) := by decide +kernel
theorem dX0_rounded_49 : decode cX0_rounded 49 = .ok (.lconst 1, 1) := by decide +kernel
theorem dX0_rounded_50 : decode cX0_rounded 50 = .ok (.land, 1) := by decide +kernel
theorem dX0_rounded_51 : decode cX0_rounded 51 = .ok (.lconst 1, 1) := by decide +kernel
theorem dX0_rounded_52 : decode cX0_rounded 52 = .ok (.lcmp, 1) := by decide +kernel
theorem dX0_rounded_53 : decode cX0_rounded 53 = .ok (.ifCond .ne 9, 3) := by decide +kernel
theorem dX0_rounded_56 : decode cX0_rounded 56 = .ok (.lload 4, 2) := by decide +kernel
theorem dX0_rounded_58 : decode cX0_rounded 58 = .ok (.lconst 1, 1) := by decide +kernel
theorem dX0_rounded_59 : decode cX0_rounded 59 = .ok (.ladd, 1) := by decide +kernel
theorem dX0_rounded_60 : decode cX0_rounded 60 = .ok (.lstore 4, 2) := by decide +kernel
theorem dX0_rounded_62 : decode cX0_rounded 62 = .ok (.iload_n 3, 1) := by decide +kernel
theorem dX0_rounded_63 : decode cX0_rounded 63 = .ok (.iconst 1, 1) := by decide +kernel
theorem dX0_rounded_64 : decode cX0_rounded 64 = .ok (.isub, 1) := by decide +kernel
theorem dX0_rounded_65 : decode cX0_rounded 65 = .ok (.i2l, 1) := by decide +kernel
theorem dX0_rounded_66 : decode cX0_rounded 66 = .ok (.aload_n 0, 1) := by decide +kernel
theorem dX0_rounded_67 : decode cX0_rounded 67 = .ok (.getfield 17, 3) := by decide +kernel
theorem dX0_rounded_70 : decode cX0_rounded 70 = .ok (.lshl, 1) := by decide +kernel
theorem dX0_rounded_71 : decode cX0_rounded 71 = .ok (.lload 4, 2) := by decide +kernel
theorem dX0_rounded_73 : decode cX0_rounded 73 = .ok (.ladd, 1) := by decide +kernel
theorem dX0_rounded_74 : decode cX0_rounded 74 = .ok (.lreturn, 1) := by decide +kernel
theorem dX1_init_0 : decode cX1_init 0 = .ok (.aload_n 0, 1) := by decide +kernel
theorem dX1_init_1 : decode cX1_init 1 = .ok (.invokespecial 3, 3) := by decide +kernel
theorem dX1_init_4 : decode cX1_init 4 = .ok (.aload_n 0, 1) := by decide +kernel
theorem dX1_init_5 : decode cX1_init 5 = .ok (.iload_n 1, 1) := by decide +kernel
theorem dX1_init_6 : decode cX1_init 6 = .ok (.putfield 9, 3) := by decide +kernel
theorem dX1_init_9 : decode cX1_init 9 = .ok (.aload_n 0, 1) := by decide +kernel
theorem dX1_init_10 : decode cX1_init 10 = .ok (.aload_n 2, 1) := by decide +kernel
theorem dX1_init_11 : decode cX1_init 11 = .ok (.putfield 15, 3) := by decide +kernel
theorem dX1_init_14 : decode cX1_init 14 = .ok (.aload_n 0, 1) := by decide +kernel
theorem dX1_init_15 : decode cX1_init 15 = .ok (.aload_n 2, 1) := by decide +kernel
theorem dX1_init_16 : decode cX1_init 16 = .ok (.getfield 19, 3) := by decide +kernel
theorem dX1_init_19 : decode cX1_init 19 = .ok (.putfield 25, 3) := by decide +kernel
theorem dX1_init_22 : decode cX1_init 22 = .ok (.aload_n 0, 1) := by decide +kernel
theorem dX1_init_23 : decode cX1_init 23 = .ok (.aload_n 2, 1) := by decide +kernel
theorem dX1_init_24 : decode cX1_init 24 = .ok (.getfield 28, 3) := by decide +kernel
theorem dX1_init_27 : decode cX1_init 27 = .ok (.putfield 31, 3) := by decide +kernel
theorem dX1_init_30 : decode cX1_init 30 = .ok (.aload_n 0, 1) := by decide +kernel
theorem dX1_init_31 : decode cX1_init 31 = .ok (.bipush 6, 2) := by decide +kernel
theorem dX1_init_33 : decode cX1_init 33 = .ok (.newarray .int, 2) := by decide +kernel
theorem dX1_init_35 : decode cX1_init 35 = .ok (.putfield 34, 3) := by decide +kernel
theorem dX1_init_38 : decode cX1_init 38 = .ok (.aload_n 0, 1) := by decide +kernel
theorem dX1_init_39 : decode cX1_init 39 = .ok (.bipush 6, 2) := by decide +kernel
theorem dX1_init_41 : decode cX1_init 41 = .ok (.newarray .long, 2) := by decide +kernel
theorem dX1_init_43 : decode cX1_init 43 = .ok (.putfield 38, 3) := by decide +kernel
theorem dX1_init_46 : decode cX1_init 46 = .ok (.aload_n 0, 1) := by decide +kernel
theorem dX1_init_47 : decode cX1_init 47 = .ok (.bipush 6, 2) := by decide +kernel
theorem dX1_init_49 : decode cX1_init 49 = .ok (.anewarray 10, 3) := by decide +kernel
theorem dX1_init_52 : decode cX1_init 52 = .ok (.putfield 42, 3) := by decide +kernel
theorem dX1_init_55 : decode cX1_init 55 = .ok (.aload_n 0, 1) := by decide +kernel
theorem dX1_init_56 : decode cX1_init 56 = .ok (.bipush 16, 2) := by decide +kernel
theorem dX1_init_58 : decode cX1_init 58 = .ok (.newarray .long, 2) := by decide +kernel
theorem dX1_init_60 : decode cX1_init 60 = .ok (.putfield 46, 3) := by decide +kernel
theorem dX1_init_63 : decode cX1_init 63 = .ok (.return_, 1) := by decide +kernel
theorem dX1_chainIsFull_0 : decode cX1_chainIsFull 0 = .ok (.aload_n 0, 1) := by decide +kernel
theorem dX1_chainIsFull_1 : decode cX1_chainIsFull 1 = .ok (.getfield 49, 3) := by decide +kernel
theorem dX1_chainIsFull_4 : decode cX1_chainIsFull 4 = .ok (.aload_n 0, 1) := by decide +kernel
theorem dX1_chainIsFull_5 : decode cX1_chainIsFull 5 = .ok (.getfield 34, 3) := by decide +kernel
theorem dX1_chainIsFull_8 : decode cX1_chainIsFull 8 = .ok (.arraylength, 1) := by decide +kernel
theorem dX1_chainIsFull_9 : decode cX1_chainIsFull 9 = .ok (.if_icmp .lt 7, 3) := by decide +kernel
theorem dX1_chainIsFull_12 : decode cX1_chainIsFull 12 = .ok (.iconst 1, 1) := by decide +kernel
theorem dX1_chainIsFull_13 : decode cX1_chainIsFull 13 = .ok (.goto 4, 3) := by decide +kernel
theorem dX1_chainIsFull_16 : decode cX1_chainIsFull 16 = .ok (.iconst 0, 1) := by decide +kernel
theorem dX1_chainIsFull_17 : decode cX1_chainIsFull 17 = .ok (.ireturn, 1) := by decide +kernel
theorem dX1_addStep_0 : decode cX1_addStep 0 = .ok (.aload_n 0, 1) := by decide +kernel
theorem dX1_addStep_1 : decode cX1_addStep 1 = .ok (.invokevirtual 52, 3) := by decide +kernel
theorem dX1_addStep_4 : decode cX1_addStep 4 = .ok (.ifCond .ne 44, 3) := by decide +kernel
theorem dX1_addStep_7 : decode cX1_addStep 7 = .ok (.aload_n 0, 1) := by decide +kernel
theorem dX1_addStep_8 : decode cX1_addStep 8 = .ok (.getfield 34, 3) := by decide +kernel
theorem dX1_addStep_11 : decode cX1_addStep 11 = .ok (.aload_n 0, 1) := by decide +kernel
theorem dX1_addStep_12 : decode cX1_addStep 12 = .ok (.getfield 49, 3) := by decide +kernel
theorem dX1_addStep_15 : decode cX1_addStep 15 = .ok (.iload_n 1, 1) := by decide +kernel
theorem dX1_addStep_16 : decode cX1_addStep 16 = .ok (.iastore, 1) := by decide +kernel
theorem dX1_addStep_17 : decode cX1_addStep 17 = .ok (.aload_n 0, 1) := by decide +kernel
theorem dX1_addStep_18 : decode cX1_addStep 18 = .ok (.getfield 38, 3) := by decide +kernel
theorem dX1_addStep_21 : decode cX1_addStep 21 = .ok (.aload_n 0, 1) := by decide +kernel
theorem dX1_addStep_22 : decode cX1_addStep 22 = .ok (.getfield 49, 3) := by decide +kernel
theorem dX1_addStep_25 : decode cX1_addStep 25 = .ok (.lload_n 2, 1) := by decide +kernel
theorem dX1_addStep_26 : decode cX1_addStep 26 = .ok (.lastore, 1) := by decide +kernel
theorem dX1_addStep_27 : decode cX1_addStep 27 = .ok (.aload_n 0, 1) := by decide +kernel
theorem dX1_addStep_28 : decode cX1_addStep 28 = .ok (.getfield 42, 3) := by decide +kernel
theorem dX1_addStep_31 : decode cX1_addStep 31 = .ok (.aload_n 0, 1) := by decide +kernel
theorem dX1_addStep_32 : decode cX1_addStep 32 = .ok (.getfield 49, 3) := by decide +kernel
theorem dX1_addStep_35 : decode cX1_addStep 35 = .ok (.aload 4, 2) := by decide +kernel
theorem dX1_addStep_37 : decode cX1_addStep 37 = .ok (.aastore, 1) := by decide +kernel
theorem dX1_addStep_38 : decode cX1_addStep 38 = .ok (.aload_n 0, 1) := by decide +kernel
theorem dX1_addStep_39 : decode cX1_addStep 39 = .ok (.dup, 1) := by decide +kernel
theorem dX1_addStep_40 : decode cX1_addStep 40 = .ok (.getfield 49, 3) := by decide +kernel
theorem dX1_addStep_43 : decode cX1_addStep 43 = .ok (.iconst 1, 1) := by decide +kernel
theorem dX1_addStep_44 : decode cX1_addStep 44 = .ok (.iadd, 1) := by decide +kernel
theorem dX1_addStep_45 : decode cX1_addStep 45 = .ok (.putfield 49, 3) := by decide +kernel
theorem dX1_addStep_48 : decode cX1_addStep 48 = .ok (.aload_n 0, 1) := by decide +kernel
theorem dX1_addStep_49 : decode cX1_addStep 49 = .ok (.getfield 49, 3) := by decide +kernel
theorem dX1_addStep_52 : decode cX1_addStep 52 = .ok (.ireturn, 1) := by decide +kernel
theorem dX1_throughChain_0 : decode cX1_throughChain 0 = .ok (.lload_n 1, 1) := by decide +kernel
theorem dX1_throughChain_1 : decode cX1_throughChain 1 = .ok (.lstore_n 3, 1) := by decide +kernel
theorem dX1_throughChain_2 : decode cX1_throughChain 2 = .ok (.iconst 0, 1) := by decide +kernel
theorem dX1_throughChain_3 : decode cX1_throughChain 3 = .ok (.istore 5, 2) := by decide +kernel
theorem dX1_throughChain_5 : decode cX1_throughChain 5 = .ok (.iload 5, 2) := by decide +kernel
theorem dX1_throughChain_7 : decode cX1_throughChain 7 = .ok (.aload_n 0, 1) := by decide +kernel
theorem dX1_throughChain_8 : decode cX1_throughChain 8 = .ok (.getfield 49, 3) := by decide +kernel
theorem dX1_throughChain_11 : decode cX1_throughChain 11 = .ok (.if_icmp .ge 58, 3) := by decide +kernel
theorem dX1_throughChain_14 : decode cX1_throughChain 14 = .ok (.aload_n 0, 1) := by decide +kernel
theorem dX1_throughChain_15 : decode cX1_throughChain 15 = .ok (.getfield 42, 3) := by decide +kernel
theorem dX1_throughChain_18 : decode cX1_throughChain 18 = .ok (.iload 5, 2) := by decide +kernel
theorem dX1_throughChain_20 : decode cX1_throughChain 20 = .ok (.aaload, 1) := by decide +kernel
theorem dX1_throughChain_21 : decode cX1_throughChain 21 = .ok (.astore 6, 2) := by decide +kernel
theorem dX1_throughChain_23 : decode cX1_throughChain 23 = .ok (.aload 6, 2) := by decide +kernel
theorem dX1_throughChain_25 : decode cX1_throughChain 25 = .ok (.ifnonnull 13, 3) := by decide +kernel
theorem dX1_throughChain_28 : decode cX1_throughChain 28 = .ok (.aload_n 0, 1) := by decide +kernel
theorem dX1_throughChain_29 : decode cX1_throughChain 29 = .ok (.getfield 38, 3) := by decide +kernel
theorem dX1_throughChain_32 : decode cX1_throughChain 32 = .ok (.iload 5, 2) := by decide +kernel
theorem dX1_throughChain_34 : decode cX1_throughChain 34 = .ok (.laload, 1) := by decide +kernel
theorem dX1_throughChain_35 : decode cX1_throughChain 35 = .ok (.goto 8, 3) := by decide +kernel
theorem dX1_throughChain_38 : decode cX1_throughChain 38 = .ok (.aload 6, 2) := by decide +kernel
theorem dX1_throughChain_40 : decode cX1_throughChain 40 = .ok (.invokevirtual 56, 3) := by decide +kernel
theorem dX1_throughChain_43 : decode cX1_throughChain 43 = .ok (.lstore 7, 2) := by decide +kernel
theorem dX1_throughChain_45 : decode cX1_throughChain 45 = .ok (.aload_n 0, 1) := by decide +kernel
theorem dX1_throughChain_46 : decode cX1_throughChain 46 = .ok (.getfield 15, 3) := by decide +kernel
theorem dX1_throughChain_49 : decode cX1_throughChain 49 = .ok (.aload_n 0, 1) := by decide +kernel
theorem dX1_throughChain_50 : decode cX1_throughChain 50 = .ok (.getfield 34, 3) := by decide +kernel
theorem dX1_throughChain_53 : decode cX1_throughChain 53 = .ok (.iload 5, 2) := by decide +kernel
theorem dX1_throughChain_55 : decode cX1_throughChain 55 = .ok (.iaload, 1) := by decide +kernel
theorem dX1_throughChain_56 : decode cX1_throughChain 56 = .ok (.lload_n 3, 1) := by decide +kernel
theorem dX1_throughChain_57 : decode cX1_throughChain 57 = .ok (.lload 7, 2) := by decide +kernel
theorem dX1_throughChain_59 : decode cX1_throughChain 59 = .ok (.invokevirtual 60, 3) := by decide +kernel
theorem dX1_throughChain_62 : decode cX1_throughChain 62 = .ok (.lstore_n 3, 1) := by decide +kernel
theorem dX1_throughChain_63 : decode cX1_throughChain 63 = .ok (.iinc 5 1, 3) := by decide +kernel
theorem dX1_throughChain_66 : decode cX1_throughChain 66 = .ok (.goto (-61), 3) := by decide +kernel
theorem dX1_throughChain_69 : decode cX1_throughChain 69 = .ok (.lload_n 3, 1) := by decide +kernel
theorem dX1_throughChain_70 : decode cX1_throughChain 70 = .ok (.lreturn, 1) := by decide +kernel
theorem dX1_keep_0 : decode cX1_keep 0 = .ok (.aload_n 0, 1) := by decide +kernel
theorem dX1_keep_1 : decode cX1_keep 1 = .ok (.invokevirtual 64, 3) := by decide +kernel
theorem dX1_keep_4 : decode cX1_keep 4 = .ok (.ifCond .eq 78, 3) := by decide +kernel
theorem dX1_keep_7 : decode cX1_keep 7 = .ok (.aload_n 0, 1) := by decide +kernel
theorem dX1_keep_8 : decode cX1_keep 8 = .ok (.aload_n 0, 1) := by decide +kernel
theorem dX1_keep_9 : decode cX1_keep 9 = .ok (.getfield 15, 3) := by decide +kernel
theorem dX1_keep_12 : decode cX1_keep 12 = .ok (.aload_n 0, 1) := by decide +kernel
theorem dX1_keep_13 : decode cX1_keep 13 = .ok (.getfield 67, 3) := by decide +kernel
theorem dX1_keep_16 : decode cX1_keep 16 = .ok (.lload_n 1, 1) := by decide +kernel
theorem dX1_keep_17 : decode cX1_keep 17 = .ok (.invokevirtual 70, 3) := by decide +kernel
theorem dX1_keep_20 : decode cX1_keep 20 = .ok (.putfield 67, 3) := by decide +kernel
theorem dX1_keep_23 : decode cX1_keep 23 = .ok (.aload_n 0, 1) := by decide +kernel
theorem dX1_keep_24 : decode cX1_keep 24 = .ok (.aload_n 0, 1) := by decide +kernel
theorem dX1_keep_25 : decode cX1_keep 25 = .ok (.getfield 15, 3) := by decide +kernel
theorem dX1_keep_28 : decode cX1_keep 28 = .ok (.aload_n 0, 1) := by decide +kernel
theorem dX1_keep_29 : decode cX1_keep 29 = .ok (.getfield 74, 3) := by decide +kernel
theorem dX1_keep_32 : decode cX1_keep 32 = .ok (.lload_n 1, 1) := by decide +kernel
theorem dX1_keep_33 : decode cX1_keep 33 = .ok (.invokevirtual 77, 3) := by decide +kernel
theorem dX1_keep_36 : decode cX1_keep 36 = .ok (.putfield 74, 3) := by decide +kernel
theorem dX1_keep_39 : decode cX1_keep 39 = .ok (.aload_n 0, 1) := by decide +kernel
theorem dX1_keep_40 : decode cX1_keep 40 = .ok (.aload_n 0, 1) := by decide +kernel
theorem dX1_keep_41 : decode cX1_keep 41 = .ok (.getfield 15, 3) := by decide +kernel
theorem dX1_keep_44 : decode cX1_keep 44 = .ok (.lload_n 1, 1) := by decide +kernel
theorem dX1_keep_45 : decode cX1_keep 45 = .ok (.aload_n 0, 1) := by decide +kernel
theorem dX1_keep_46 : decode cX1_keep 46 = .ok (.iconst 0, 1) := by decide +kernel
theorem dX1_keep_47 : decode cX1_keep 47 = .ok (.invokevirtual 80, 3) := by decide +kernel
theorem dX1_keep_50 : decode cX1_keep 50 = .ok (.invokevirtual 84, 3) := by decide +kernel
theorem dX1_keep_53 : decode cX1_keep 53 = .ok (.putfield 87, 3) := by decide +kernel
theorem dX1_keep_56 : decode cX1_keep 56 = .ok (.aload_n 0, 1) := by decide +kernel
theorem dX1_keep_57 : decode cX1_keep 57 = .ok (.aload_n 0, 1) := by decide +kernel
theorem dX1_keep_58 : decode cX1_keep 58 = .ok (.getfield 15, 3) := by decide +kernel
theorem dX1_keep_61 : decode cX1_keep 61 = .ok (.aload_n 0, 1) := by decide +kernel
theorem dX1_keep_62 : decode cX1_keep 62 = .ok (.getfield 90, 3) := by decide +kernel
theorem dX1_keep_65 : decode cX1_keep 65 = .ok (.aload_n 0, 1) := by decide +kernel
theorem dX1_keep_66 : decode cX1_keep 66 = .ok (.getfield 15, 3) := by decide +kernel
theorem dX1_keep_69 : decode cX1_keep 69 = .ok (.lload_n 1, 1) := by decide +kernel
theorem dX1_keep_70 : decode cX1_keep 70 = .ok (.invokevirtual 93, 3) := by decide +kernel
theorem dX1_keep_73 : decode cX1_keep 73 = .ok (.invokevirtual 97, 3) := by decide +kernel
theorem dX1_keep_76 : decode cX1_keep 76 = .ok (.putfield 90, 3) := by decide +kernel
theorem dX1_keep_79 : decode cX1_keep 79 = .ok (.goto 30, 3) := by decide +kernel
theorem dX1_keep_82 : decode cX1_keep 82 = .ok (.aload_n 0, 1) := by decide +kernel
theorem dX1_keep_83 : decode cX1_keep 83 = .ok (.lload_n 1, 1) := by decide +kernel
theorem dX1_keep_84 : decode cX1_keep 84 = .ok (.putfield 67, 3) := by decide +kernel
theorem dX1_keep_87 : decode cX1_keep 87 = .ok (.aload_n 0, 1) := by decide +kernel
theorem dX1_keep_88 : decode cX1_keep 88 = .ok (.lload_n 1, 1) := by decide +kernel
theorem dX1_keep_89 : decode cX1_keep 89 = .ok (.putfield 74, 3) := by decide +kernel
theorem dX1_keep_92 : decode cX1_keep 92 = .ok (.aload_n 0, 1) := by decide +kernel
theorem dX1_keep_93 : decode cX1_keep 93 = .ok (.lconst 0, 1) := by decide +kernel
theorem dX1_keep_94 : decode cX1_keep 94 = .ok (.putfield 87, 3) := by decide +kernel
theorem dX1_keep_97 : decode cX1_keep 97 = .ok (.aload_n 0, 1) := by decide +kernel
theorem dX1_keep_98 : decode cX1_keep 98 = .ok (.aload_n 0, 1) := by decide +kernel
theorem dX1_keep_99 : decode cX1_keep 99 = .ok (.getfield 15, 3) := by decide +kernel
theorem dX1_keep_102 : decode cX1_keep 102 = .ok (.lload_n 1, 1) := by decide +kernel
theorem dX1_keep_103 : decode cX1_keep 103 = .ok (.invokevirtual 93, 3) := by decide +kernel
theorem dX1_keep_106 : decode cX1_keep 106 = .ok (.putfield 90, 3) := by decide +kernel
theorem dX1_keep_109 : decode cX1_keep 109 = .ok (.aload_n 0, 1) := by decide +kernel
theorem dX1_keep_110 : decode cX1_keep 110 = .ok (.getfield 46, 3) := by decide +kernel
theorem dX1_keep_113 : decode cX1_keep 113 = .ok (.aload_n 0, 1) := by decide +kernel
theorem dX1_keep_114 : decode cX1_keep 114 = .ok (.getfield 100, 3) := by decide +kernel
theorem dX1_keep_117 : decode cX1_keep 117 = .ok (.bipush 15, 2) := by decide +kernel
theorem dX1_keep_119 : decode cX1_keep 119 = .ok (.iand, 1) := by decide +kernel
theorem dX1_keep_120 : decode cX1_keep 120 = .ok (.lload_n 1, 1) := by decide +kernel
theorem dX1_keep_121 : decode cX1_keep 121 = .ok (.lastore, 1) := by decide +kernel
theorem dX1_keep_122 : decode cX1_keep 122 = .ok (.aload_n 0, 1) := by decide +kernel
theorem dX1_keep_123 : decode cX1_keep 123 = .ok (.dup, 1) := by decide +kernel
theorem dX1_keep_124 : decode cX1_keep 124 = .ok (.getfield 100, 3) := by decide +kernel
theorem dX1_keep_127 : decode cX1_keep 127 = .ok (.iconst 1, 1) := by decide +kernel
theorem dX1_keep_128 : decode cX1_keep 128 = .ok (.iadd, 1) := by decide +kernel
theorem dX1_keep_129 : decode cX1_keep 129 = .ok (.putfield 100, 3) := by decide +kernel
theorem dX1_keep_132 : decode cX1_keep 132 = .ok (.return_, 1) := by decide +kernel
theorem dX1_isBeyondLimits_0 : decode cX1_isBeyondLimits 0 = .ok (.aload_n 0, 1) := by decide +kernel
theorem dX1_isBeyondLimits_1 : decode cX1_isBeyondLimits 1 = .ok (.getfield 15, 3) := by decide +kernel
theorem dX1_isBeyondLimits_4 : decode cX1_isBeyondLimits 4 = .ok (.aload_n 0, 1) := by decide +kernel
theorem dX1_isBeyondLimits_5 : decode cX1_isBeyondLimits 5 = .ok (.getfield 25, 3) := by decide +kernel
theorem dX1_isBeyondLimits_8 : decode cX1_isBeyondLimits 8 = .ok (.lload_n 1, 1) := by decide +kernel
theorem dX1_isBeyondLimits_9 : decode cX1_isBeyondLimits 9 = .ok (.invokevirtual 103, 3) := by decide +kernel
theorem dX1_isBeyondLimits_12 : decode cX1_isBeyondLimits 12 = .ok (.ifCond .ne 18, 3) := by decide +kernel
theorem dX1_isBeyondLimits_15 : decode cX1_isBeyondLimits 15 = .ok (.aload_n 0, 1) := by decide +kernel
theorem dX1_isBeyondLimits_16 : decode cX1_isBeyondLimits 16 = .ok (.getfield 15, 3) := by decide +kernel
theorem dX1_isBeyondLimits_19 : decode cX1_isBeyondLimits 19 = .ok (.lload_n 1, 1) := by decide +kernel
theorem dX1_isBeyondLimits_20 : decode cX1_isBeyondLimits 20 = .ok (.aload_n 0, 1) := by decide +kernel
theorem dX1_isBeyondLimits_21 : decode cX1_isBeyondLimits 21 = .ok (.getfield 31, 3) := by decide +kernel
theorem dX1_isBeyondLimits_24 : decode cX1_isBeyondLimits 24 = .ok (.invokevirtual 103, 3) := by decide +kernel
theorem dX1_isBeyondLimits_27 : decode cX1_isBeyondLimits 27 = .ok (.ifCond .eq 7, 3) := by decide +kernel
theorem dX1_isBeyondLimits_30 : decode cX1_isBeyondLimits 30 = .ok (.iconst 1, 1) := by decide +kernel
theorem dX1_isBeyondLimits_31 : decode cX1_isBeyondLimits 31 = .ok (.goto 4, 3) := by decide +kernel
theorem dX1_isBeyondLimits_34 : decode cX1_isBeyondLimits 34 = .ok (.iconst 0, 1) := by decide +kernel
theorem dX1_isBeyondLimits_35 : decode cX1_isBeyondLimits 35 = .ok (.ireturn, 1) := by decide +kernel
theorem dX1_hasRead_0 : decode cX1_hasRead 0 = .ok (.aload_n 0, 1) := by decide +kernel
theorem dX1_hasRead_1 : decode cX1_hasRead 1 = .ok (.getfield 100, 3) := by decide +kernel
theorem dX1_hasRead_4 : decode cX1_hasRead 4 = .ok (.ifCond .eq 7, 3) := by decide +kernel
theorem dX1_hasRead_7 : decode cX1_hasRead 7 = .ok (.iconst 1, 1) := by decide +kernel
theorem dX1_hasRead_8 : decode cX1_hasRead 8 = .ok (.goto 4, 3) := by decide +kernel
theorem dX1_hasRead_11 : decode cX1_hasRead 11 = .ok (.iconst 0, 1) := by decide +kernel
theorem dX1_hasRead_12 : decode cX1_hasRead 12 = .ok (.ireturn, 1) := by decide +kernel
theorem dX1_keeps_0 : decode cX1_keeps 0 = .ok (.iload_n 1, 1) := by decide +kernel
theorem dX1_keeps_1 : decode cX1_keeps 1 = .ok (.ifCond .lt 21, 3) := by decide +kernel
theorem dX1_keeps_4 : decode cX1_keeps 4 = .ok (.iload_n 1, 1) := by decide +kernel
theorem dX1_keeps_5 : decode cX1_keeps 5 = .ok (.bipush 16, 2) := by decide +kernel
theorem dX1_keeps_7 : decode cX1_keeps 7 = .ok (.if_icmp .ge 15, 3) := by decide +kernel
theorem dX1_keeps_10 : decode cX1_keeps 10 = .ok (.iload_n 1, 1) := by decide +kernel
theorem dX1_keeps_11 : decode cX1_keeps 11 = .ok (.aload_n 0, 1) := by decide +kernel
theorem dX1_keeps_12 : decode cX1_keeps 12 = .ok (.getfield 100, 3) := by decide +kernel
theorem dX1_keeps_15 : decode cX1_keeps 15 = .ok (.if_icmp .ge 7, 3) := by decide +kernel
theorem dX1_keeps_18 : decode cX1_keeps 18 = .ok (.iconst 1, 1) := by decide +kernel
theorem dX1_keeps_19 : decode cX1_keeps 19 = .ok (.goto 4, 3) := by decide +kernel
theorem dX1_keeps_22 : decode cX1_keeps 22 = .ok (.iconst 0, 1) := by decide +kernel
theorem dX1_keeps_23 : decode cX1_keeps 23 = .ok (.ireturn, 1) := by decide +kernel
theorem dX1_latest_0 : decode cX1_latest 0 = .ok (.aload_n 0, 1) := by decide +kernel
theorem dX1_latest_1 : decode cX1_latest 1 = .ok (.getfield 46, 3) := by decide +kernel
theorem dX1_latest_4 : decode cX1_latest 4 = .ok (.aload_n 0, 1) := by decide +kernel
theorem dX1_latest_5 : decode cX1_latest 5 = .ok (.getfield 100, 3) := by decide +kernel
theorem dX1_latest_8 : decode cX1_latest 8 = .ok (.iconst 1, 1) := by decide +kernel
theorem dX1_latest_9 : decode cX1_latest 9 = .ok (.isub, 1) := by decide +kernel
theorem dX1_latest_10 : decode cX1_latest 10 = .ok (.iload_n 1, 1) := by decide +kernel
theorem dX1_latest_11 : decode cX1_latest 11 = .ok (.isub, 1) := by decide +kernel
theorem dX1_latest_12 : decode cX1_latest 12 = .ok (.bipush 15, 2) := by decide +kernel
theorem dX1_latest_14 : decode cX1_latest 14 = .ok (.iand, 1) := by decide +kernel
theorem dX1_latest_15 : decode cX1_latest 15 = .ok (.laload, 1) := by decide +kernel
theorem dX1_latest_16 : decode cX1_latest 16 = .ok (.lreturn, 1) := by decide +kernel
theorem dX1_latestOrZero_0 : decode cX1_latestOrZero 0 = .ok (.aload_n 0, 1) := by decide +kernel
theorem dX1_latestOrZero_1 : decode cX1_latestOrZero 1 = .ok (.invokevirtual 64, 3) := by decide +kernel
theorem dX1_latestOrZero_4 : decode cX1_latestOrZero 4 = .ok (.ifCond .eq 11, 3) := by decide +kernel
theorem dX1_latestOrZero_7 : decode cX1_latestOrZero 7 = .ok (.aload_n 0, 1) := by decide +kernel
theorem dX1_latestOrZero_8 : decode cX1_latestOrZero 8 = .ok (.iconst 0, 1) := by decide +kernel
theorem dX1_latestOrZero_9 : decode cX1_latestOrZero 9 = .ok (.invokevirtual 80, 3) := by decide +kernel
theorem dX1_latestOrZero_12 : decode cX1_latestOrZero 12 = .ok (.goto 4, 3) := by decide +kernel
theorem dX1_latestOrZero_15 : decode cX1_latestOrZero 15 = .ok (.lconst 0, 1) := by decide +kernel
theorem dX1_latestOrZero_16 : decode cX1_latestOrZero 16 = .ok (.lreturn, 1) := by decide +kernel
theorem dX1_dropReadings_0 : decode cX1_dropReadings 0 = .ok (.aload_n 0, 1) := by decide +kernel
theorem dX1_dropReadings_1 : decode cX1_dropReadings 1 = .ok (.getfield 100, 3) := by decide +kernel
theorem dX1_dropReadings_4 : decode cX1_dropReadings 4 = .ok (.istore_n 1, 1) := by decide +kernel
theorem dX1_dropReadings_5 : decode cX1_dropReadings 5 = .ok (.aload_n 0, 1) := by decide +kernel
theorem dX1_dropReadings_6 : decode cX1_dropReadings 6 = .ok (.iconst 0, 1) := by decide +kernel
theorem dX1_dropReadings_7 : decode cX1_dropReadings 7 = .ok (.putfield 100, 3) := by decide +kernel
theorem dX1_dropReadings_10 : decode cX1_dropReadings 10 = .ok (.iload_n 1, 1) := by decide +kernel
theorem dX1_dropReadings_11 : decode cX1_dropReadings 11 = .ok (.ireturn, 1) := by decide +kernel
theorem dX2_init_0 : decode cX2_init 0 = .ok (.aload_n 0, 1) := by decide +kernel
theorem dX2_init_1 : decode cX2_init 1 = .ok (.invokespecial 3, 3) := by decide +kernel
theorem dX2_init_4 : decode cX2_init 4 = .ok (.aload_n 0, 1) := by decide +kernel
theorem dX2_init_5 : decode cX2_init 5 = .ok (.iload_n 1, 1) := by decide +kernel
theorem dX2_init_6 : decode cX2_init 6 = .ok (.putfield 9, 3) := by decide +kernel
theorem dX2_init_9 : decode cX2_init 9 = .ok (.aload_n 0, 1) := by decide +kernel
theorem dX2_init_10 : decode cX2_init 10 = .ok (.iload_n 2, 1) := by decide +kernel
theorem dX2_init_11 : decode cX2_init 11 = .ok (.putfield 15, 3) := by decide +kernel
theorem dX2_init_14 : decode cX2_init 14 = .ok (.aload_n 0, 1) := by decide +kernel
theorem dX2_init_15 : decode cX2_init 15 = .ok (.lload_n 3, 1) := by decide +kernel
theorem dX2_init_16 : decode cX2_init 16 = .ok (.putfield 18, 3) := by decide +kernel
theorem dX2_init_19 : decode cX2_init 19 = .ok (.aload_n 0, 1) := by decide +kernel
theorem dX2_init_20 : decode cX2_init 20 = .ok (.lload 5, 2) := by decide +kernel
theorem dX2_init_22 : decode cX2_init 22 = .ok (.putfield 22, 3) := by decide +kernel
theorem dX2_init_25 : decode cX2_init 25 = .ok (.return_, 1) := by decide +kernel
theorem dX2_ofWidth_0 : decode cX2_ofWidth 0 = .ok (.aload_n 0, 1) := by decide +kernel
theorem dX2_ofWidth_1 : decode cX2_ofWidth 1 = .ok (.getfield 9, 3) := by decide +kernel
theorem dX2_ofWidth_4 : decode cX2_ofWidth 4 = .ok (.bipush 32, 2) := by decide +kernel
theorem dX2_ofWidth_6 : decode cX2_ofWidth 6 = .ok (.if_icmp .ne 9, 3) := by decide +kernel
theorem dX2_ofWidth_9 : decode cX2_ofWidth 9 = .ok (.lload_n 1, 1) := by decide +kernel
theorem dX2_ofWidth_10 : decode cX2_ofWidth 10 = .ok (.l2i, 1) := by decide +kernel
theorem dX2_ofWidth_11 : decode cX2_ofWidth 11 = .ok (.i2l, 1) := by decide +kernel
theorem dX2_ofWidth_12 : decode cX2_ofWidth 12 = .ok (.goto 4, 3) := by decide +kernel
theorem dX2_ofWidth_15 : decode cX2_ofWidth 15 = .ok (.lload_n 1, 1) := by decide +kernel
theorem dX2_ofWidth_16 : decode cX2_ofWidth 16 = .ok (.lreturn, 1) := by decide +kernel
theorem dX2_hasStep_0 : decode cX2_hasStep 0 = .ok (.iload_n 1, 1) := by decide +kernel
theorem dX2_hasStep_1 : decode cX2_hasStep 1 = .ok (.ifCond .lt 15, 3) := by decide +kernel
theorem dX2_hasStep_4 : decode cX2_hasStep 4 = .ok (.iload_n 1, 1) := by decide +kernel
theorem dX2_hasStep_5 : decode cX2_hasStep 5 = .ok (.aload_n 0, 1) := by decide +kernel
theorem dX2_hasStep_6 : decode cX2_hasStep 6 = .ok (.getfield 15, 3) := by decide +kernel
theorem dX2_hasStep_9 : decode cX2_hasStep 9 = .ok (.if_icmp .gt 7, 3) := by decide +kernel
theorem dX2_hasStep_12 : decode cX2_hasStep 12 = .ok (.iconst 1, 1) := by decide +kernel
theorem dX2_hasStep_13 : decode cX2_hasStep 13 = .ok (.goto 4, 3) := by decide +kernel
theorem dX2_hasStep_16 : decode cX2_hasStep 16 = .ok (.iconst 0, 1) := by decide +kernel
theorem dX2_hasStep_17 : decode cX2_hasStep 17 = .ok (.ireturn, 1) := by decide +kernel
theorem dX2_stepped_0 : decode cX2_stepped 0 = .ok (.iload_n 1, 1) := by decide +kernel
theorem dX2_stepped_1 : decode cX2_stepped 1 = .ok (.tableswitch 49 0 2 #[27, 33, 41], 27) := by decide +kernel
theorem dX2_stepped_28 : decode cX2_stepped 28 = .ok (.aload_n 0, 1) := by decide +kernel
theorem dX2_stepped_29 : decode cX2_stepped 29 = .ok (.lload_n 2, 1) := by decide +kernel
theorem dX2_stepped_30 : decode cX2_stepped 30 = .ok (.invokevirtual 25, 3) := by decide +kernel
theorem dX2_stepped_33 : decode cX2_stepped 33 = .ok (.lreturn, 1) := by decide +kernel
theorem dX2_stepped_34 : decode cX2_stepped 34 = .ok (.aload_n 0, 1) := by decide +kernel
theorem dX2_stepped_35 : decode cX2_stepped 35 = .ok (.lload_n 2, 1) := by decide +kernel
theorem dX2_stepped_36 : decode cX2_stepped 36 = .ok (.lload 4, 2) := by decide +kernel
theorem dX2_stepped_38 : decode cX2_stepped 38 = .ok (.invokevirtual 29, 3) := by decide +kernel
theorem dX2_stepped_41 : decode cX2_stepped 41 = .ok (.lreturn, 1) := by decide +kernel
theorem dX2_stepped_42 : decode cX2_stepped 42 = .ok (.aload_n 0, 1) := by decide +kernel
theorem dX2_stepped_43 : decode cX2_stepped 43 = .ok (.lload_n 2, 1) := by decide +kernel
theorem dX2_stepped_44 : decode cX2_stepped 44 = .ok (.lload 4, 2) := by decide +kernel
theorem dX2_stepped_46 : decode cX2_stepped 46 = .ok (.invokevirtual 33, 3) := by decide +kernel
theorem dX2_stepped_49 : decode cX2_stepped 49 = .ok (.lreturn, 1) := by decide +kernel
theorem dX2_stepped_50 : decode cX2_stepped 50 = .ok (.aload_n 0, 1) := by decide +kernel
theorem dX2_stepped_51 : decode cX2_stepped 51 = .ok (.iload_n 1, 1) := by decide +kernel
theorem dX2_stepped_52 : decode cX2_stepped 52 = .ok (.lload_n 2, 1) := by decide +kernel
theorem dX2_stepped_53 : decode cX2_stepped 53 = .ok (.lload 4, 2) := by decide +kernel
theorem dX2_stepped_55 : decode cX2_stepped 55 = .ok (.invokevirtual 36, 3) := by decide +kernel
theorem dX2_stepped_58 : decode cX2_stepped 58 = .ok (.lreturn, 1) := by decide +kernel
theorem dX2_greater_0 : decode cX2_greater 0 = .ok (.aload_n 0, 1) := by decide +kernel
theorem dX2_greater_1 : decode cX2_greater 1 = .ok (.lload_n 1, 1) := by decide +kernel
theorem dX2_greater_2 : decode cX2_greater 2 = .ok (.invokevirtual 40, 3) := by decide +kernel
theorem dX2_greater_5 : decode cX2_greater 5 = .ok (.aload_n 0, 1) := by decide +kernel
theorem dX2_greater_6 : decode cX2_greater 6 = .ok (.lload_n 3, 1) := by decide +kernel
theorem dX2_greater_7 : decode cX2_greater 7 = .ok (.invokevirtual 40, 3) := by decide +kernel
theorem dX2_greater_10 : decode cX2_greater 10 = .ok (.lcmp, 1) := by decide +kernel
theorem dX2_greater_11 : decode cX2_greater 11 = .ok (.ifCond .lt 7, 3) := by decide +kernel
theorem dX2_greater_14 : decode cX2_greater 14 = .ok (.lload_n 1, 1) := by decide +kernel
theorem dX2_greater_15 : decode cX2_greater 15 = .ok (.goto 4, 3) := by decide +kernel
theorem dX2_greater_18 : decode cX2_greater 18 = .ok (.lload_n 3, 1) := by decide +kernel
theorem dX2_greater_19 : decode cX2_greater 19 = .ok (.lreturn, 1) := by decide +kernel
theorem dX2_lesser_0 : decode cX2_lesser 0 = .ok (.aload_n 0, 1) := by decide +kernel
theorem dX2_lesser_1 : decode cX2_lesser 1 = .ok (.lload_n 1, 1) := by decide +kernel
theorem dX2_lesser_2 : decode cX2_lesser 2 = .ok (.invokevirtual 40, 3) := by decide +kernel
theorem dX2_lesser_5 : decode cX2_lesser 5 = .ok (.aload_n 0, 1) := by decide +kernel
theorem dX2_lesser_6 : decode cX2_lesser 6 = .ok (.lload_n 3, 1) := by decide +kernel
theorem dX2_lesser_7 : decode cX2_lesser 7 = .ok (.invokevirtual 40, 3) := by decide +kernel
theorem dX2_lesser_10 : decode cX2_lesser 10 = .ok (.lcmp, 1) := by decide +kernel
theorem dX2_lesser_11 : decode cX2_lesser 11 = .ok (.ifCond .gt 7, 3) := by decide +kernel
theorem dX2_lesser_14 : decode cX2_lesser 14 = .ok (.lload_n 1, 1) := by decide +kernel
theorem dX2_lesser_15 : decode cX2_lesser 15 = .ok (.goto 4, 3) := by decide +kernel
theorem dX2_lesser_18 : decode cX2_lesser 18 = .ok (.lload_n 3, 1) := by decide +kernel
theorem dX2_lesser_19 : decode cX2_lesser 19 = .ok (.lreturn, 1) := by decide +kernel
theorem dX2_isAbove_0 : decode cX2_isAbove 0 = .ok (.aload_n 0, 1) := by decide +kernel
theorem dX2_isAbove_1 : decode cX2_isAbove 1 = .ok (.lload_n 1, 1) := by decide +kernel
theorem dX2_isAbove_2 : decode cX2_isAbove 2 = .ok (.invokevirtual 43, 3) := by decide +kernel
theorem dX2_isAbove_5 : decode cX2_isAbove 5 = .ok (.aload_n 0, 1) := by decide +kernel
theorem dX2_isAbove_6 : decode cX2_isAbove 6 = .ok (.lload_n 3, 1) := by decide +kernel
theorem dX2_isAbove_7 : decode cX2_isAbove 7 = .ok (.invokevirtual 43, 3) := by decide +kernel
theorem dX2_isAbove_10 : decode cX2_isAbove 10 = .ok (.lcmp, 1) := by decide +kernel
theorem dX2_isAbove_11 : decode cX2_isAbove 11 = .ok (.ifCond .le 7, 3) := by decide +kernel
theorem dX2_isAbove_14 : decode cX2_isAbove 14 = .ok (.iconst 1, 1) := by decide +kernel
theorem dX2_isAbove_15 : decode cX2_isAbove 15 = .ok (.goto 4, 3) := by decide +kernel
theorem dX2_isAbove_18 : decode cX2_isAbove 18 = .ok (.iconst 0, 1) := by decide +kernel
theorem dX2_isAbove_19 : decode cX2_isAbove 19 = .ok (.ireturn, 1) := by decide +kernel
theorem dX3_init_0 : decode cX3_init 0 = .ok (.aload_n 0, 1) := by decide +kernel
theorem dX3_init_1 : decode cX3_init 1 = .ok (.iload_n 1, 1) := by decide +kernel
theorem dX3_init_2 : decode cX3_init 2 = .ok (.iconst 2, 1) := by decide +kernel
theorem dX3_init_3 : decode cX3_init 3 = .ok (.ldc2_w 3, 3) := by decide +kernel
theorem dX3_init_6 : decode cX3_init 6 = .ok (.iload_n 1, 1) := by decide +kernel
theorem dX3_init_7 : decode cX3_init 7 = .ok (.iconst 1, 1) := by decide +kernel
theorem dX3_init_8 : decode cX3_init 8 = .ok (.isub, 1) := by decide +kernel
theorem dX3_init_9 : decode cX3_init 9 = .ok (.lshl, 1) := by decide +kernel
theorem dX3_init_10 : decode cX3_init 10 = .ok (.ldc2_w 3, 3) := by decide +kernel
theorem dX3_init_13 : decode cX3_init 13 = .ok (.iload_n 1, 1) := by decide +kernel
theorem dX3_init_14 : decode cX3_init 14 = .ok (.iconst 1, 1) := by decide +kernel
theorem dX3_init_15 : decode cX3_init 15 = .ok (.isub, 1) := by decide +kernel
theorem dX3_init_16 : decode cX3_init 16 = .ok (.lshl, 1) := by decide +kernel
theorem dX3_init_17 : decode cX3_init 17 = .ok (.ldc2_w 3, 3) := by decide +kernel
theorem dX3_init_20 : decode cX3_init 20 = .ok (.lxor, 1) := by decide +kernel
theorem dX3_init_21 : decode cX3_init 21 = .ok (.invokespecial 5, 3) := by decide +kernel
theorem dX3_init_24 : decode cX3_init 24 = .ok (.return_, 1) := by decide +kernel
theorem dX3_isNumber_0 : decode cX3_isNumber 0 = .ok (.iconst 1, 1) := by decide +kernel
theorem dX3_isNumber_1 : decode cX3_isNumber 1 = .ok (.ireturn, 1) := by decide +kernel
theorem dX3_amount_0 : decode cX3_amount 0 = .ok (.lload_n 1, 1) := by decide +kernel
theorem dX3_amount_1 : decode cX3_amount 1 = .ok (.lconst 0, 1) := by decide +kernel
theorem dX3_amount_2 : decode cX3_amount 2 = .ok (.lcmp, 1) := by decide +kernel
theorem dX3_amount_3 : decode cX3_amount 3 = .ok (.ifCond .ge 12, 3) := by decide +kernel
theorem dX3_amount_6 : decode cX3_amount 6 = .ok (.aload_n 0, 1) := by decide +kernel
theorem dX3_amount_7 : decode cX3_amount 7 = .ok (.lload_n 1, 1) := by decide +kernel
theorem dX3_amount_8 : decode cX3_amount 8 = .ok (.lneg, 1) := by decide +kernel
theorem dX3_amount_9 : decode cX3_amount 9 = .ok (.invokevirtual 11, 3) := by decide +kernel
theorem dX3_amount_12 : decode cX3_amount 12 = .ok (.goto 4, 3) := by decide +kernel
theorem dX3_amount_15 : decode cX3_amount 15 = .ok (.lload_n 1, 1) := by decide +kernel
theorem dX3_amount_16 : decode cX3_amount 16 = .ok (.lreturn, 1) := by decide +kernel
theorem dX3_plus_0 : decode cX3_plus 0 = .ok (.aload_n 0, 1) := by decide +kernel
theorem dX3_plus_1 : decode cX3_plus 1 = .ok (.lload_n 1, 1) := by decide +kernel
theorem dX3_plus_2 : decode cX3_plus 2 = .ok (.lload_n 3, 1) := by decide +kernel
theorem dX3_plus_3 : decode cX3_plus 3 = .ok (.ladd, 1) := by decide +kernel
theorem dX3_plus_4 : decode cX3_plus 4 = .ok (.invokevirtual 11, 3) := by decide +kernel
theorem dX3_plus_7 : decode cX3_plus 7 = .ok (.lreturn, 1) := by decide +kernel
theorem dX3_apart_0 : decode cX3_apart 0 = .ok (.aload_n 0, 1) := by decide +kernel
theorem dX3_apart_1 : decode cX3_apart 1 = .ok (.aload_n 0, 1) := by decide +kernel
theorem dX3_apart_2 : decode cX3_apart 2 = .ok (.lload_n 1, 1) := by decide +kernel
theorem dX3_apart_3 : decode cX3_apart 3 = .ok (.lload_n 3, 1) := by decide +kernel
theorem dX3_apart_4 : decode cX3_apart 4 = .ok (.lsub, 1) := by decide +kernel
theorem dX3_apart_5 : decode cX3_apart 5 = .ok (.invokevirtual 11, 3) := by decide +kernel
theorem dX3_apart_8 : decode cX3_apart 8 = .ok (.invokevirtual 17, 3) := by decide +kernel
theorem dX3_apart_11 : decode cX3_apart 11 = .ok (.lreturn, 1) := by decide +kernel
theorem dX3_toInt_0 : decode cX3_toInt 0 = .ok (.ldc2_w 22, 3) := by decide +kernel
theorem dX3_toInt_3 : decode cX3_toInt 3 = .ok (.ldc2_w 24, 3) := by decide +kernel
theorem dX3_toInt_6 : decode cX3_toInt 6 = .ok (.lload_n 1, 1) := by decide +kernel
theorem dX3_toInt_7 : decode cX3_toInt 7 = .ok (.invokestatic 26, 3) := by decide +kernel
theorem dX3_toInt_10 : decode cX3_toInt 10 = .ok (.invokestatic 32, 3) := by decide +kernel
theorem dX3_toInt_13 : decode cX3_toInt 13 = .ok (.l2i, 1) := by decide +kernel
theorem dX3_toInt_14 : decode cX3_toInt 14 = .ok (.ireturn, 1) := by decide +kernel
theorem dX3_rank_0 : decode cX3_rank 0 = .ok (.lload_n 1, 1) := by decide +kernel
theorem dX3_rank_1 : decode cX3_rank 1 = .ok (.lreturn, 1) := by decide +kernel
theorem dX3_level_0 : decode cX3_level 0 = .ok (.lload_n 1, 1) := by decide +kernel
theorem dX3_level_1 : decode cX3_level 1 = .ok (.lreturn, 1) := by decide +kernel
theorem dX3_furtherStepped_0 : decode cX3_furtherStepped 0 = .ok (.lload_n 2, 1) := by decide +kernel
theorem dX3_furtherStepped_1 : decode cX3_furtherStepped 1 = .ok (.lreturn, 1) := by decide +kernel
theorem dX4_init_0 : decode cX4_init 0 = .ok (.aload_n 0, 1) := by decide +kernel
theorem dX4_init_1 : decode cX4_init 1 = .ok (.invokespecial 1, 3) := by decide +kernel
theorem dX4_init_4 : decode cX4_init 4 = .ok (.aload_n 0, 1) := by decide +kernel
theorem dX4_init_5 : decode cX4_init 5 = .ok (.bipush 8, 2) := by decide +kernel
theorem dX4_init_7 : decode cX4_init 7 = .ok (.anewarray 9, 3) := by decide +kernel
theorem dX4_init_10 : decode cX4_init 10 = .ok (.putfield 11, 3) := by decide +kernel
theorem dX4_init_13 : decode cX4_init 13 = .ok (.return_, 1) := by decide +kernel
theorem dX4_mount_0 : decode cX4_mount 0 = .ok (.iload_n 1, 1) := by decide +kernel
theorem dX4_mount_1 : decode cX4_mount 1 = .ok (.invokestatic 15, 3) := by decide +kernel
theorem dX4_mount_4 : decode cX4_mount 4 = .ok (.ifCond .ne 13, 3) := by decide +kernel
theorem dX4_mount_7 : decode cX4_mount 7 = .ok (.new 19, 3) := by decide +kernel
theorem dX4_mount_10 : decode cX4_mount 10 = .ok (.dup, 1) := by decide +kernel
theorem dX4_mount_11 : decode cX4_mount 11 = .ok (.ldc 21, 2) := by decide +kernel
theorem dX4_mount_13 : decode cX4_mount 13 = .ok (.invokespecial 23, 3) := by decide +kernel
theorem dX4_mount_16 : decode cX4_mount 16 = .ok (.athrow, 1) := by decide +kernel
theorem dX4_mount_17 : decode cX4_mount 17 = .ok (.aload_n 0, 1) := by decide +kernel
theorem dX4_mount_18 : decode cX4_mount 18 = .ok (.getfield 26, 3) := by decide +kernel
theorem dX4_mount_21 : decode cX4_mount 21 = .ok (.aload_n 0, 1) := by decide +kernel
theorem dX4_mount_22 : decode cX4_mount 22 = .ok (.getfield 11, 3) := by decide +kernel
theorem dX4_mount_25 : decode cX4_mount 25 = .ok (.arraylength, 1) := by decide +kernel
theorem dX4_mount_26 : decode cX4_mount 26 = .ok (.if_icmp .lt 13, 3) := by decide +kernel
theorem dX4_mount_29 : decode cX4_mount 29 = .ok (.new 30, 3) := by decide +kernel
theorem dX4_mount_32 : decode cX4_mount 32 = .ok (.dup, 1) := by decide +kernel
theorem dX4_mount_33 : decode cX4_mount 33 = .ok (.ldc 32, 2) := by decide +kernel
theorem dX4_mount_35 : decode cX4_mount 35 = .ok (.invokespecial 34, 3) := by decide +kernel
theorem dX4_mount_38 : decode cX4_mount 38 = .ok (.athrow, 1) := by decide +kernel
theorem dX4_mount_39 : decode cX4_mount 39 = .ok (.aload_n 0, 1) := by decide +kernel
theorem dX4_mount_40 : decode cX4_mount 40 = .ok (.getfield 26, 3) := by decide +kernel
theorem dX4_mount_43 : decode cX4_mount 43 = .ok (.istore_n 2, 1) := by decide +kernel
theorem dX4_mount_44 : decode cX4_mount 44 = .ok (.aload_n 0, 1) := by decide +kernel
theorem dX4_mount_45 : decode cX4_mount 45 = .ok (.getfield 11, 3) := by decide +kernel
theorem dX4_mount_48 : decode cX4_mount 48 = .ok (.iload_n 2, 1) := by decide +kernel
theorem dX4_mount_49 : decode cX4_mount 49 = .ok (.new 9, 3) := by decide +kernel
theorem dX4_mount_52 : decode cX4_mount 52 = .ok (.dup, 1) := by decide +kernel
theorem dX4_mount_53 : decode cX4_mount 53 = .ok (.iload_n 1, 1) := by decide +kernel
theorem dX4_mount_54 : decode cX4_mount 54 = .ok (.iload_n 1, 1) := by decide +kernel
theorem dX4_mount_55 : decode cX4_mount 55 = .ok (.invokestatic 35, 3) := by decide +kernel
theorem dX4_mount_58 : decode cX4_mount 58 = .ok (.invokespecial 39, 3) := by decide +kernel
theorem dX4_mount_61 : decode cX4_mount 61 = .ok (.aastore, 1) := by decide +kernel
theorem dX4_mount_62 : decode cX4_mount 62 = .ok (.aload_n 0, 1) := by decide +kernel
theorem dX4_mount_63 : decode cX4_mount 63 = .ok (.iload_n 2, 1) := by decide +kernel
theorem dX4_mount_64 : decode cX4_mount 64 = .ok (.iconst 1, 1) := by decide +kernel
theorem dX4_mount_65 : decode cX4_mount 65 = .ok (.iadd, 1) := by decide +kernel
theorem dX4_mount_66 : decode cX4_mount 66 = .ok (.putfield 26, 3) := by decide +kernel
theorem dX4_mount_69 : decode cX4_mount 69 = .ok (.iload_n 2, 1) := by decide +kernel
theorem dX4_mount_70 : decode cX4_mount 70 = .ok (.ireturn, 1) := by decide +kernel
theorem dX4_step_0 : decode cX4_step 0 = .ok (.aload_n 0, 1) := by decide +kernel
theorem dX4_step_1 : decode cX4_step 1 = .ok (.iload_n 1, 1) := by decide +kernel
theorem dX4_step_2 : decode cX4_step 2 = .ok (.invokevirtual 42, 3) := by decide +kernel
theorem dX4_step_5 : decode cX4_step 5 = .ok (.astore 5, 2) := by decide +kernel
theorem dX4_step_7 : decode cX4_step 7 = .ok (.aload 5, 2) := by decide +kernel
theorem dX4_step_9 : decode cX4_step 9 = .ok (.getfield 46, 3) := by decide +kernel
theorem dX4_step_12 : decode cX4_step 12 = .ok (.astore 6, 2) := by decide +kernel
theorem dX4_step_14 : decode cX4_step 14 = .ok (.aload 6, 2) := by decide +kernel
theorem dX4_step_16 : decode cX4_step 16 = .ok (.iload_n 2, 1) := by decide +kernel
theorem dX4_step_17 : decode cX4_step 17 = .ok (.invokevirtual 50, 3) := by decide +kernel
theorem dX4_step_20 : decode cX4_step 20 = .ok (.ifCond .ne 13, 3) := by decide +kernel
theorem dX4_step_23 : decode cX4_step 23 = .ok (.new 19, 3) := by decide +kernel
theorem dX4_step_26 : decode cX4_step 26 = .ok (.dup, 1) := by decide +kernel
theorem dX4_step_27 : decode cX4_step 27 = .ok (.ldc 55, 2) := by decide +kernel
theorem dX4_step_29 : decode cX4_step 29 = .ok (.invokespecial 23, 3) := by decide +kernel
theorem dX4_step_32 : decode cX4_step 32 = .ok (.athrow, 1) := by decide +kernel
theorem dX4_step_33 : decode cX4_step 33 = .ok (.aload 6, 2) := by decide +kernel
theorem dX4_step_35 : decode cX4_step 35 = .ok (.lload_n 3, 1) := by decide +kernel
theorem dX4_step_36 : decode cX4_step 36 = .ok (.invokevirtual 57, 3) := by decide +kernel
theorem dX4_step_39 : decode cX4_step 39 = .ok (.lstore 7, 2) := by decide +kernel
theorem dX4_step_41 : decode cX4_step 41 = .ok (.iload_n 2, 1) := by decide +kernel
theorem dX4_step_42 : decode cX4_step 42 = .ok (.invokestatic 61, 3) := by decide +kernel
theorem dX4_step_45 : decode cX4_step 45 = .ok (.ifCond .eq 23, 3) := by decide +kernel
theorem dX4_step_48 : decode cX4_step 48 = .ok (.aload 6, 2) := by decide +kernel
theorem dX4_step_50 : decode cX4_step 50 = .ok (.lload 7, 2) := by decide +kernel
theorem dX4_step_52 : decode cX4_step 52 = .ok (.invokevirtual 64, 3) := by decide +kernel
theorem dX4_step_55 : decode cX4_step 55 = .ok (.ifCond .ne 13, 3) := by decide +kernel
theorem dX4_step_58 : decode cX4_step 58 = .ok (.new 19, 3) := by decide +kernel
theorem dX4_step_61 : decode cX4_step 61 = .ok (.dup, 1) := by decide +kernel
theorem dX4_step_62 : decode cX4_step 62 = .ok (.ldc 68, 2) := by decide +kernel
theorem dX4_step_64 : decode cX4_step 64 = .ok (.invokespecial 23, 3) := by decide +kernel
theorem dX4_step_67 : decode cX4_step 67 = .ok (.athrow, 1) := by decide +kernel
theorem dX4_step_68 : decode cX4_step 68 = .ok (.aload 5, 2) := by decide +kernel
theorem dX4_step_70 : decode cX4_step 70 = .ok (.invokevirtual 70, 3) := by decide +kernel
theorem dX4_step_73 : decode cX4_step 73 = .ok (.ifCond .eq 13, 3) := by decide +kernel
theorem dX4_step_76 : decode cX4_step 76 = .ok (.new 74, 3) := by decide +kernel
theorem dX4_step_79 : decode cX4_step 79 = .ok (.dup, 1) := by decide +kernel
theorem dX4_step_80 : decode cX4_step 80 = .ok (.ldc 76, 2) := by decide +kernel
theorem dX4_step_82 : decode cX4_step 82 = .ok (.invokespecial 78, 3) := by decide +kernel
theorem dX4_step_85 : decode cX4_step 85 = .ok (.athrow, 1) := by decide +kernel
theorem dX4_step_86 : decode cX4_step 86 = .ok (.aload 5, 2) := by decide +kernel
theorem dX4_step_88 : decode cX4_step 88 = .ok (.iload_n 2, 1) := by decide +kernel
theorem dX4_step_89 : decode cX4_step 89 = .ok (.lload 7, 2) := by decide +kernel
theorem dX4_step_91 : decode cX4_step 91 = .ok (.aconst_null, 1) := by decide +kernel
theorem dX4_step_92 : decode cX4_step 92 = .ok (.invokevirtual 79, 3) := by decide +kernel
theorem dX4_step_95 : decode cX4_step 95 = .ok (.ireturn, 1) := by decide +kernel
theorem dX4_follow_0 : decode cX4_follow 0 = .ok (.aload_n 0, 1) := by decide +kernel
theorem dX4_follow_1 : decode cX4_follow 1 = .ok (.iload_n 1, 1) := by decide +kernel
theorem dX4_follow_2 : decode cX4_follow 2 = .ok (.invokevirtual 42, 3) := by decide +kernel
theorem dX4_follow_5 : decode cX4_follow 5 = .ok (.astore 4, 2) := by decide +kernel
theorem dX4_follow_7 : decode cX4_follow 7 = .ok (.aload_n 0, 1) := by decide +kernel
theorem dX4_follow_8 : decode cX4_follow 8 = .ok (.iload_n 3, 1) := by decide +kernel
theorem dX4_follow_9 : decode cX4_follow 9 = .ok (.invokevirtual 42, 3) := by decide +kernel
theorem dX4_follow_12 : decode cX4_follow 12 = .ok (.astore 5, 2) := by decide +kernel
theorem dX4_follow_14 : decode cX4_follow 14 = .ok (.aload 4, 2) := by decide +kernel
theorem dX4_follow_16 : decode cX4_follow 16 = .ok (.getfield 46, 3) := by decide +kernel
theorem dX4_follow_19 : decode cX4_follow 19 = .ok (.iload_n 2, 1) := by decide +kernel
theorem dX4_follow_20 : decode cX4_follow 20 = .ok (.invokevirtual 50, 3) := by decide +kernel
theorem dX4_follow_23 : decode cX4_follow 23 = .ok (.ifCond .eq 10, 3) := by decide +kernel
theorem dX4_follow_26 : decode cX4_follow 26 = .ok (.iload_n 2, 1) := by decide +kernel
theorem dX4_follow_27 : decode cX4_follow 27 = .ok (.invokestatic 61, 3) := by decide +kernel
theorem dX4_follow_30 : decode cX4_follow 30 = .ok (.ifCond .ne 13, 3) := by decide +kernel
theorem dX4_follow_33 : decode cX4_follow 33 = .ok (.new 19, 3) := by decide +kernel
theorem dX4_follow_36 : decode cX4_follow 36 = .ok (.dup, 1) := by decide +kernel
theorem dX4_follow_37 : decode cX4_follow 37 = .ok (.ldc 83, 2) := by decide +kernel
theorem dX4_follow_39 : decode cX4_follow 39 = .ok (.invokespecial 23, 3) := by decide +kernel
theorem dX4_follow_42 : decode cX4_follow 42 = .ok (.athrow, 1) := by decide +kernel
theorem dX4_follow_43 : decode cX4_follow 43 = .ok (.aload 4, 2) := by decide +kernel
theorem dX4_follow_45 : decode cX4_follow 45 = .ok (.getfield 85, 3) := by decide +kernel
theorem dX4_follow_48 : decode cX4_follow 48 = .ok (.aload 5, 2) := by decide +kernel
theorem dX4_follow_50 : decode cX4_follow 50 = .ok (.getfield 85, 3) := by decide +kernel
theorem dX4_follow_53 : decode cX4_follow 53 = .ok (.if_icmp .eq 13, 3) := by decide +kernel
theorem dX4_follow_56 : decode cX4_follow 56 = .ok (.new 19, 3) := by decide +kernel
theorem dX4_follow_59 : decode cX4_follow 59 = .ok (.dup, 1) := by decide +kernel
theorem dX4_follow_60 : decode cX4_follow 60 = .ok (.ldc 88, 2) := by decide +kernel
theorem dX4_follow_62 : decode cX4_follow 62 = .ok (.invokespecial 23, 3) := by decide +kernel
theorem dX4_follow_65 : decode cX4_follow 65 = .ok (.athrow, 1) := by decide +kernel
theorem dX4_follow_66 : decode cX4_follow 66 = .ok (.aload 4, 2) := by decide +kernel
theorem dX4_follow_68 : decode cX4_follow 68 = .ok (.invokevirtual 70, 3) := by decide +kernel
theorem dX4_follow_71 : decode cX4_follow 71 = .ok (.ifCond .eq 13, 3) := by decide +kernel
theorem dX4_follow_74 : decode cX4_follow 74 = .ok (.new 74, 3) := by decide +kernel
theorem dX4_follow_77 : decode cX4_follow 77 = .ok (.dup, 1) := by decide +kernel
theorem dX4_follow_78 : decode cX4_follow 78 = .ok (.ldc 76, 2) := by decide +kernel
theorem dX4_follow_80 : decode cX4_follow 80 = .ok (.invokespecial 78, 3) := by decide +kernel
theorem dX4_follow_83 : decode cX4_follow 83 = .ok (.athrow, 1) := by decide +kernel
theorem dX4_follow_84 : decode cX4_follow 84 = .ok (.aload 4, 2) := by decide +kernel
theorem dX4_follow_86 : decode cX4_follow 86 = .ok (.iload_n 2, 1) := by decide +kernel
theorem dX4_follow_87 : decode cX4_follow 87 = .ok (.lconst 0, 1) := by decide +kernel
theorem dX4_follow_88 : decode cX4_follow 88 = .ok (.aload 5, 2) := by decide +kernel
theorem dX4_follow_90 : decode cX4_follow 90 = .ok (.invokevirtual 79, 3) := by decide +kernel
theorem dX4_follow_93 : decode cX4_follow 93 = .ok (.ireturn, 1) := by decide +kernel
theorem dX4_read_0 : decode cX4_read 0 = .ok (.aload_n 0, 1) := by decide +kernel
theorem dX4_read_1 : decode cX4_read 1 = .ok (.iload_n 1, 1) := by decide +kernel
theorem dX4_read_2 : decode cX4_read 2 = .ok (.invokevirtual 42, 3) := by decide +kernel
theorem dX4_read_5 : decode cX4_read 5 = .ok (.astore 4, 2) := by decide +kernel
theorem dX4_read_7 : decode cX4_read 7 = .ok (.aload 4, 2) := by decide +kernel
theorem dX4_read_9 : decode cX4_read 9 = .ok (.getfield 46, 3) := by decide +kernel
theorem dX4_read_12 : decode cX4_read 12 = .ok (.lload_n 2, 1) := by decide +kernel
theorem dX4_read_13 : decode cX4_read 13 = .ok (.invokevirtual 57, 3) := by decide +kernel
theorem dX4_read_16 : decode cX4_read 16 = .ok (.lstore 5, 2) := by decide +kernel
theorem dX4_read_18 : decode cX4_read 18 = .ok (.aload 4, 2) := by decide +kernel
theorem dX4_read_20 : decode cX4_read 20 = .ok (.getfield 46, 3) := by decide +kernel
theorem dX4_read_23 : decode cX4_read 23 = .ok (.lload 5, 2) := by decide +kernel
theorem dX4_read_25 : decode cX4_read 25 = .ok (.invokevirtual 64, 3) := by decide +kernel
theorem dX4_read_28 : decode cX4_read 28 = .ok (.ifCond .ne 13, 3) := by decide +kernel
theorem dX4_read_31 : decode cX4_read 31 = .ok (.new 19, 3) := by decide +kernel
theorem dX4_read_34 : decode cX4_read 34 = .ok (.dup, 1) := by decide +kernel
theorem dX4_read_35 : decode cX4_read 35 = .ok (.ldc 90, 2) := by decide +kernel
theorem dX4_read_37 : decode cX4_read 37 = .ok (.invokespecial 23, 3) := by decide +kernel
theorem dX4_read_40 : decode cX4_read 40 = .ok (.athrow, 1) := by decide +kernel
theorem dX4_read_41 : decode cX4_read 41 = .ok (.aload 4, 2) := by decide +kernel
theorem dX4_read_43 : decode cX4_read 43 = .ok (.lload 5, 2) := by decide +kernel
theorem dX4_read_45 : decode cX4_read 45 = .ok (.invokevirtual 92, 3) := by decide +kernel
theorem dX4_read_48 : decode cX4_read 48 = .ok (.lstore 7, 2) := by decide +kernel
theorem dX4_read_50 : decode cX4_read 50 = .ok (.aload 4, 2) := by decide +kernel
theorem dX4_read_52 : decode cX4_read 52 = .ok (.lload 7, 2) := by decide +kernel
theorem dX4_read_54 : decode cX4_read 54 = .ok (.invokevirtual 95, 3) := by decide +kernel
theorem dX4_read_57 : decode cX4_read 57 = .ok (.aload_n 0, 1) := by decide +kernel
theorem dX4_read_58 : decode cX4_read 58 = .ok (.dup, 1) := by decide +kernel
theorem dX4_read_59 : decode cX4_read 59 = .ok (.getfield 99, 3) := by decide +kernel
theorem dX4_read_62 : decode cX4_read 62 = .ok (.iconst 1, 1) := by decide +kernel
theorem dX4_read_63 : decode cX4_read 63 = .ok (.iadd, 1) := by decide +kernel
theorem dX4_read_64 : decode cX4_read 64 = .ok (.putfield 99, 3) := by decide +kernel
theorem dX4_read_67 : decode cX4_read 67 = .ok (.aload_n 0, 1) := by decide +kernel
theorem dX4_read_68 : decode cX4_read 68 = .ok (.dup, 1) := by decide +kernel
theorem dX4_read_69 : decode cX4_read 69 = .ok (.getfield 102, 3) := by decide +kernel
theorem dX4_read_72 : decode cX4_read 72 = .ok (.aload 4, 2) := by decide +kernel
theorem dX4_read_74 : decode cX4_read 74 = .ok (.getfield 105, 3) := by decide +kernel
theorem dX4_read_77 : decode cX4_read 77 = .ok (.iadd, 1) := by decide +kernel
theorem dX4_read_78 : decode cX4_read 78 = .ok (.putfield 102, 3) := by decide +kernel
theorem dX4_read_81 : decode cX4_read 81 = .ok (.aload 4, 2) := by decide +kernel
theorem dX4_read_83 : decode cX4_read 83 = .ok (.lload 7, 2) := by decide +kernel
theorem dX4_read_85 : decode cX4_read 85 = .ok (.invokevirtual 108, 3) := by decide +kernel
theorem dX4_read_88 : decode cX4_read 88 = .ok (.ifCond .eq 24, 3) := by decide +kernel
theorem dX4_read_91 : decode cX4_read 91 = .ok (.aload 4, 2) := by decide +kernel
theorem dX4_read_93 : decode cX4_read 93 = .ok (.dup, 1) := by decide +kernel
theorem dX4_read_94 : decode cX4_read 94 = .ok (.getfield 111, 3) := by decide +kernel
theorem dX4_read_97 : decode cX4_read 97 = .ok (.iconst 1, 1) := by decide +kernel
theorem dX4_read_98 : decode cX4_read 98 = .ok (.iadd, 1) := by decide +kernel
theorem dX4_read_99 : decode cX4_read 99 = .ok (.putfield 111, 3) := by decide +kernel
theorem dX4_read_102 : decode cX4_read 102 = .ok (.aload_n 0, 1) := by decide +kernel
theorem dX4_read_103 : decode cX4_read 103 = .ok (.dup, 1) := by decide +kernel
theorem dX4_read_104 : decode cX4_read 104 = .ok (.getfield 114, 3) := by decide +kernel
theorem dX4_read_107 : decode cX4_read 107 = .ok (.iconst 1, 1) := by decide +kernel
theorem dX4_read_108 : decode cX4_read 108 = .ok (.iadd, 1) := by decide +kernel
theorem dX4_read_109 : decode cX4_read 109 = .ok (.putfield 114, 3) := by decide +kernel
theorem dX4_read_112 : decode cX4_read 112 = .ok (.lload 7, 2) := by decide +kernel
theorem dX4_read_114 : decode cX4_read 114 = .ok (.lreturn, 1) := by decide +kernel
theorem dX4_reading_0 : decode cX4_reading 0 = .ok (.aload_n 0, 1) := by decide +kernel
theorem dX4_reading_1 : decode cX4_reading 1 = .ok (.iload_n 1, 1) := by decide +kernel
theorem dX4_reading_2 : decode cX4_reading 2 = .ok (.invokevirtual 42, 3) := by decide +kernel
theorem dX4_reading_5 : decode cX4_reading 5 = .ok (.astore_n 3, 1) := by decide +kernel
theorem dX4_reading_6 : decode cX4_reading 6 = .ok (.aload_n 3, 1) := by decide +kernel
theorem dX4_reading_7 : decode cX4_reading 7 = .ok (.iload_n 2, 1) := by decide +kernel
theorem dX4_reading_8 : decode cX4_reading 8 = .ok (.invokevirtual 117, 3) := by decide +kernel
theorem dX4_reading_11 : decode cX4_reading 11 = .ok (.ifCond .ne 13, 3) := by decide +kernel
theorem dX4_reading_14 : decode cX4_reading 14 = .ok (.new 120, 3) := by decide +kernel
theorem dX4_reading_17 : decode cX4_reading 17 = .ok (.dup, 1) := by decide +kernel
theorem dX4_reading_18 : decode cX4_reading 18 = .ok (.ldc 122, 2) := by decide +kernel
theorem dX4_reading_20 : decode cX4_reading 20 = .ok (.invokespecial 124, 3) := by decide +kernel
theorem dX4_reading_23 : decode cX4_reading 23 = .ok (.athrow, 1) := by decide +kernel
theorem dX4_reading_24 : decode cX4_reading 24 = .ok (.aload_n 3, 1) := by decide +kernel
theorem dX4_reading_25 : decode cX4_reading 25 = .ok (.iload_n 2, 1) := by decide +kernel
theorem dX4_reading_26 : decode cX4_reading 26 = .ok (.invokevirtual 125, 3) := by decide +kernel
theorem dX4_reading_29 : decode cX4_reading 29 = .ok (.lreturn, 1) := by decide +kernel
theorem dX4_tell_0 : decode cX4_tell 0 = .ok (.aload_n 0, 1) := by decide +kernel
theorem dX4_tell_1 : decode cX4_tell 1 = .ok (.iload_n 1, 1) := by decide +kernel
theorem dX4_tell_2 : decode cX4_tell 2 = .ok (.invokevirtual 42, 3) := by decide +kernel
theorem dX4_tell_5 : decode cX4_tell 5 = .ok (.astore_n 3, 1) := by decide +kernel
theorem dX4_tell_6 : decode cX4_tell 6 = .ok (.iload_n 2, 1) := by decide +kernel
theorem dX4_tell_7 : decode cX4_tell 7 = .ok (.ifCond .lt 8, 3) := by decide +kernel
theorem dX4_tell_10 : decode cX4_tell 10 = .ok (.iload_n 2, 1) := by decide +kernel
theorem dX4_tell_11 : decode cX4_tell 11 = .ok (.iconst 3, 1) := by decide +kernel
theorem dX4_tell_12 : decode cX4_tell 12 = .ok (.if_icmp .le 13, 3) := by decide +kernel
theorem dX4_tell_15 : decode cX4_tell 15 = .ok (.new 19, 3) := by decide +kernel
theorem dX4_tell_18 : decode cX4_tell 18 = .ok (.dup, 1) := by decide +kernel
theorem dX4_tell_19 : decode cX4_tell 19 = .ok (.ldc 129, 2) := by decide +kernel
theorem dX4_tell_21 : decode cX4_tell 21 = .ok (.invokespecial 23, 3) := by decide +kernel
theorem dX4_tell_24 : decode cX4_tell 24 = .ok (.athrow, 1) := by decide +kernel
theorem dX4_tell_25 : decode cX4_tell 25 = .ok (.aload_n 3, 1) := by decide +kernel
theorem dX4_tell_26 : decode cX4_tell 26 = .ok (.invokevirtual 131, 3) := by decide +kernel
theorem dX4_tell_29 : decode cX4_tell 29 = .ok (.ifCond .ne 13, 3) := by decide +kernel
theorem dX4_tell_32 : decode cX4_tell 32 = .ok (.new 120, 3) := by decide +kernel
theorem dX4_tell_35 : decode cX4_tell 35 = .ok (.dup, 1) := by decide +kernel
theorem dX4_tell_36 : decode cX4_tell 36 = .ok (.ldc 134, 2) := by decide +kernel
theorem dX4_tell_38 : decode cX4_tell 38 = .ok (.invokespecial 124, 3) := by decide +kernel
theorem dX4_tell_41 : decode cX4_tell 41 = .ok (.athrow, 1) := by decide +kernel
theorem dX4_tell_42 : decode cX4_tell 42 = .ok (.iload_n 2, 1) := by decide +kernel
theorem dX4_tell_43 : decode cX4_tell 43 = .ok (.tableswitch 40 0 2 #[25, 30, 35], 25) := by decide +kernel
theorem dX4_tell_68 : decode cX4_tell 68 = .ok (.aload_n 3, 1) := by decide +kernel
theorem dX4_tell_69 : decode cX4_tell 69 = .ok (.getfield 136, 3) := by decide +kernel
theorem dX4_tell_72 : decode cX4_tell 72 = .ok (.lreturn, 1) := by decide +kernel
theorem dX4_tell_73 : decode cX4_tell 73 = .ok (.aload_n 3, 1) := by decide +kernel
theorem dX4_tell_74 : decode cX4_tell 74 = .ok (.getfield 140, 3) := by decide +kernel
theorem dX4_tell_77 : decode cX4_tell 77 = .ok (.lreturn, 1) := by decide +kernel
theorem dX4_tell_78 : decode cX4_tell 78 = .ok (.aload_n 3, 1) := by decide +kernel
theorem dX4_tell_79 : decode cX4_tell 79 = .ok (.getfield 143, 3) := by decide +kernel
theorem dX4_tell_82 : decode cX4_tell 82 = .ok (.lreturn, 1) := by decide +kernel
theorem dX4_tell_83 : decode cX4_tell 83 = .ok (.aload_n 3, 1) := by decide +kernel
theorem dX4_tell_84 : decode cX4_tell 84 = .ok (.getfield 146, 3) := by decide +kernel
theorem dX4_tell_87 : decode cX4_tell 87 = .ok (.lreturn, 1) := by decide +kernel
theorem dX4_whole_0 : decode cX4_whole 0 = .ok (.aload_n 0, 1) := by decide +kernel
theorem dX4_whole_1 : decode cX4_whole 1 = .ok (.iload_n 1, 1) := by decide +kernel
theorem dX4_whole_2 : decode cX4_whole 2 = .ok (.invokevirtual 42, 3) := by decide +kernel
theorem dX4_whole_5 : decode cX4_whole 5 = .ok (.astore_n 2, 1) := by decide +kernel
theorem dX4_whole_6 : decode cX4_whole 6 = .ok (.aload_n 2, 1) := by decide +kernel
theorem dX4_whole_7 : decode cX4_whole 7 = .ok (.invokevirtual 131, 3) := by decide +kernel
theorem dX4_whole_10 : decode cX4_whole 10 = .ok (.ifCond .ne 13, 3) := by decide +kernel
theorem dX4_whole_13 : decode cX4_whole 13 = .ok (.new 120, 3) := by decide +kernel
theorem dX4_whole_16 : decode cX4_whole 16 = .ok (.dup, 1) := by decide +kernel
theorem dX4_whole_17 : decode cX4_whole 17 = .ok (.ldc 134, 2) := by decide +kernel
theorem dX4_whole_19 : decode cX4_whole 19 = .ok (.invokespecial 124, 3) := by decide +kernel
theorem dX4_whole_22 : decode cX4_whole 22 = .ok (.athrow, 1) := by decide +kernel
theorem dX4_whole_23 : decode cX4_whole 23 = .ok (.aload_n 2, 1) := by decide +kernel
theorem dX4_whole_24 : decode cX4_whole 24 = .ok (.getfield 46, 3) := by decide +kernel
theorem dX4_whole_27 : decode cX4_whole 27 = .ok (.aload_n 2, 1) := by decide +kernel
theorem dX4_whole_28 : decode cX4_whole 28 = .ok (.iconst 0, 1) := by decide +kernel
theorem dX4_whole_29 : decode cX4_whole 29 = .ok (.invokevirtual 125, 3) := by decide +kernel
theorem dX4_whole_32 : decode cX4_whole 32 = .ok (.invokevirtual 149, 3) := by decide +kernel
theorem dX4_whole_35 : decode cX4_whole 35 = .ok (.ireturn, 1) := by decide +kernel
theorem dX4_limits_0 : decode cX4_limits 0 = .ok (.aload_n 0, 1) := by decide +kernel
theorem dX4_limits_1 : decode cX4_limits 1 = .ok (.iload_n 1, 1) := by decide +kernel
theorem dX4_limits_2 : decode cX4_limits 2 = .ok (.invokevirtual 42, 3) := by decide +kernel
theorem dX4_limits_5 : decode cX4_limits 5 = .ok (.astore 6, 2) := by decide +kernel
theorem dX4_limits_7 : decode cX4_limits 7 = .ok (.aload 6, 2) := by decide +kernel
theorem dX4_limits_9 : decode cX4_limits 9 = .ok (.getfield 46, 3) := by decide +kernel
theorem dX4_limits_12 : decode cX4_limits 12 = .ok (.astore 7, 2) := by decide +kernel
theorem dX4_limits_14 : decode cX4_limits 14 = .ok (.aload 7, 2) := by decide +kernel
theorem dX4_limits_16 : decode cX4_limits 16 = .ok (.lload_n 2, 1) := by decide +kernel
theorem dX4_limits_17 : decode cX4_limits 17 = .ok (.invokevirtual 57, 3) := by decide +kernel
