/-! class: the tray's text, exactly (printed by wip/e2/u1.py) -/
theorem zap150_0 : xe_look (xc 86) 0 = some (.aload_n 0, 1, 0, 0, 0) := by decide +kernel
theorem zap150_1 : xe_look (xc 86) 1 = some (.getfield 18, 3, 9, 1, 944) := by decide +kernel
theorem zap150_4 : xe_look (xc 86) 4 = some (.bipush 60, 2, 0, 0, 0) := by decide +kernel
theorem zap150_6 : xe_look (xc 86) 6 = some (.if_icmp .ge 13, 3, 0, 0, 0) := by decide +kernel
theorem zap150_9 : xe_look (xc 86) 9 = some (.aload_n 0, 1, 0, 0, 0) := by decide +kernel
theorem zap150_10 : xe_look (xc 86) 10 = some (.getfield 9, 3, 9, 0, 945) := by decide +kernel
theorem zap150_13 : xe_look (xc 86) 13 = some (.aload_n 0, 1, 0, 0, 0) := by decide +kernel
theorem zap150_14 : xe_look (xc 86) 14 = some (.getfield 18, 3, 9, 1, 944) := by decide +kernel
theorem zap150_17 : xe_look (xc 86) 17 = some (.iload_n 1, 1, 0, 0, 0) := by decide +kernel
theorem zap150_18 : xe_look (xc 86) 18 = some (.iastore, 1, 0, 0, 0) := by decide +kernel
theorem zap150_19 : xe_look (xc 86) 19 = some (.aload_n 0, 1, 0, 0, 0) := by decide +kernel
theorem zap150_20 : xe_look (xc 86) 20 = some (.dup, 1, 0, 0, 0) := by decide +kernel
theorem zap150_21 : xe_look (xc 86) 21 = some (.getfield 18, 3, 9, 1, 944) := by decide +kernel
theorem zap150_24 : xe_look (xc 86) 24 = some (.iconst 1, 1, 0, 0, 0) := by decide +kernel
theorem zap150_25 : xe_look (xc 86) 25 = some (.iadd, 1, 0, 0, 0) := by decide +kernel
theorem zap150_26 : xe_look (xc 86) 26 = some (.putfield 18, 3, 9, 1, 944) := by decide +kernel
theorem zap150_29 : xe_look (xc 86) 29 = some (.return_, 1, 0, 0, 0) := by decide +kernel
theorem zap152_0 : xe_look (xc 86) 0 = some (.aload_n 0, 1, 0, 0, 0) := by decide +kernel
theorem zap152_1 : xe_look (xc 86) 1 = some (.getfield 18, 3, 9, 1, 944) := by decide +kernel
theorem zap152_4 : xe_look (xc 86) 4 = some (.bipush 60, 2, 0, 0, 0) := by decide +kernel
theorem zap152_6 : xe_look (xc 86) 6 = some (.if_icmp .ge 13, 3, 0, 0, 0) := by decide +kernel
theorem zap152_9 : xe_look (xc 86) 9 = some (.aload_n 0, 1, 0, 0, 0) := by decide +kernel
theorem zap152_10 : xe_look (xc 86) 10 = some (.getfield 9, 3, 9, 0, 945) := by decide +kernel
theorem zap152_13 : xe_look (xc 86) 13 = some (.aload_n 0, 1, 0, 0, 0) := by decide +kernel
theorem zap152_14 : xe_look (xc 86) 14 = some (.getfield 18, 3, 9, 1, 944) := by decide +kernel
theorem zap152_17 : xe_look (xc 86) 17 = some (.iload_n 1, 1, 0, 0, 0) := by decide +kernel
theorem zap152_18 : xe_look (xc 86) 18 = some (.iastore, 1, 0, 0, 0) := by decide +kernel
theorem zap152_19 : xe_look (xc 86) 19 = some (.aload_n 0, 1, 0, 0, 0) := by decide +kernel
theorem zap152_20 : xe_look (xc 86) 20 = some (.dup, 1, 0, 0, 0) := by decide +kernel
theorem zap152_21 : xe_look (xc 86) 21 = some (.getfield 18, 3, 9, 1, 944) := by decide +kernel
theorem zap152_24 : xe_look (xc 86) 24 = some (.iconst 1, 1, 0, 0, 0) := by decide +kernel
theorem zap152_25 : xe_look (xc 86) 25 = some (.iadd, 1, 0, 0, 0) := by decide +kernel
theorem zap152_26 : xe_look (xc 86) 26 = some (.putfield 18, 3, 9, 1, 944) := by decide +kernel
theorem zap152_29 : xe_look (xc 86) 29 = some (.return_, 1, 0, 0, 0) := by decide +kernel
theorem zfl150_0 : xe_look (xc 87) 0 = some (.aload_n 0, 1, 0, 0, 0) := by decide +kernel
theorem zfl150_1 : xe_look (xc 87) 1 = some (.getfield 34, 3, 9, 5, 946) := by decide +kernel
theorem zfl150_4 : xe_look (xc 87) 4 = some (.ifCond .ne 14, 3, 0, 0, 0) := by decide +kernel
theorem zfl150_7 : xe_look (xc 87) 7 = some (.aload_n 0, 1, 0, 0, 0) := by decide +kernel
theorem zfl150_8 : xe_look (xc 87) 8 = some (.sipush (-1000), 3, 0, 0, 0) := by decide +kernel
theorem zfl150_11 : xe_look (xc 87) 11 = some (.iload_n 1, 1, 0, 0, 0) := by decide +kernel
theorem zfl150_12 : xe_look (xc 87) 12 = some (.imul, 1, 0, 0, 0) := by decide +kernel
theorem zfl150_13 : xe_look (xc 87) 13 = some (.iload_n 2, 1, 0, 0, 0) := by decide +kernel
theorem zfl150_14 : xe_look (xc 87) 14 = some (.isub, 1, 0, 0, 0) := by decide +kernel
theorem zfl150_15 : xe_look (xc 87) 15 = some (.putfield 34, 3, 9, 5, 946) := by decide +kernel
theorem zfl150_18 : xe_look (xc 87) 18 = some (.return_, 1, 0, 0, 0) := by decide +kernel
theorem zfl152_0 : xe_look (xc 87) 0 = some (.aload_n 0, 1, 0, 0, 0) := by decide +kernel
theorem zfl152_1 : xe_look (xc 87) 1 = some (.getfield 34, 3, 9, 5, 946) := by decide +kernel
theorem zfl152_4 : xe_look (xc 87) 4 = some (.ifCond .ne 14, 3, 0, 0, 0) := by decide +kernel
theorem zfl152_7 : xe_look (xc 87) 7 = some (.aload_n 0, 1, 0, 0, 0) := by decide +kernel
theorem zfl152_8 : xe_look (xc 87) 8 = some (.sipush (-1000), 3, 0, 0, 0) := by decide +kernel
theorem zfl152_11 : xe_look (xc 87) 11 = some (.iload_n 1, 1, 0, 0, 0) := by decide +kernel
theorem zfl152_12 : xe_look (xc 87) 12 = some (.imul, 1, 0, 0, 0) := by decide +kernel
theorem zfl152_13 : xe_look (xc 87) 13 = some (.iload_n 2, 1, 0, 0, 0) := by decide +kernel
theorem zfl152_14 : xe_look (xc 87) 14 = some (.isub, 1, 0, 0, 0) := by decide +kernel
theorem zfl152_15 : xe_look (xc 87) 15 = some (.putfield 34, 3, 9, 5, 946) := by decide +kernel
theorem zfl152_18 : xe_look (xc 87) 18 = some (.return_, 1, 0, 0, 0) := by decide +kernel
theorem znu150_0 : xe_look (xc 93) 0 = some (.aload_n 0, 1, 0, 0, 0) := by decide +kernel
theorem znu150_1 : xe_look (xc 93) 1 = some (.getfield 31, 3, 9, 4, 951) := by decide +kernel
theorem znu150_4 : xe_look (xc 93) 4 = some (.istore_n 1, 1, 0, 0, 0) := by decide +kernel
theorem znu150_5 : xe_look (xc 93) 5 = some (.iconst 0, 1, 0, 0, 0) := by decide +kernel
theorem znu150_6 : xe_look (xc 93) 6 = some (.istore_n 2, 1, 0, 0, 0) := by decide +kernel
theorem znu150_7 : xe_look (xc 93) 7 = some (.iconst 0, 1, 0, 0, 0) := by decide +kernel
theorem znu150_8 : xe_look (xc 93) 8 = some (.istore_n 3, 1, 0, 0, 0) := by decide +kernel
theorem znu150_9 : xe_look (xc 93) 9 = some (.iload_n 3, 1, 0, 0, 0) := by decide +kernel
theorem znu150_10 : xe_look (xc 93) 10 = some (.iconst 2, 1, 0, 0, 0) := by decide +kernel
theorem znu150_11 : xe_look (xc 93) 11 = some (.if_icmp .ge 46, 3, 0, 0, 0) := by decide +kernel
theorem znu150_14 : xe_look (xc 93) 14 = some (.aload_n 0, 1, 0, 0, 0) := by decide +kernel
theorem znu150_15 : xe_look (xc 93) 15 = some (.invokevirtual 48, 3, 0, 97, 954) := by decide +kernel
theorem znu150_18 : xe_look (xc 93) 18 = some (.bipush 48, 2, 0, 0, 0) := by decide +kernel
theorem znu150_20 : xe_look (xc 93) 20 = some (.bipush 57, 2, 0, 0, 0) := by decide +kernel
theorem znu150_22 : xe_look (xc 93) 22 = some (.invokestatic 58, 3, 1, 124, 7) := by decide +kernel
theorem znu150_25 : xe_look (xc 93) 25 = some (.ifCond .eq 32, 3, 0, 0, 0) := by decide +kernel
theorem znu150_28 : xe_look (xc 93) 28 = some (.bipush 10, 2, 0, 0, 0) := by decide +kernel
theorem znu150_30 : xe_look (xc 93) 30 = some (.iload_n 2, 1, 0, 0, 0) := by decide +kernel
theorem znu150_31 : xe_look (xc 93) 31 = some (.imul, 1, 0, 0, 0) := by decide +kernel
theorem znu150_32 : xe_look (xc 93) 32 = some (.aload_n 0, 1, 0, 0, 0) := by decide +kernel
theorem znu150_33 : xe_look (xc 93) 33 = some (.invokevirtual 48, 3, 0, 97, 954) := by decide +kernel
theorem znu150_36 : xe_look (xc 93) 36 = some (.iadd, 1, 0, 0, 0) := by decide +kernel
theorem znu150_37 : xe_look (xc 93) 37 = some (.bipush 48, 2, 0, 0, 0) := by decide +kernel
theorem znu150_39 : xe_look (xc 93) 39 = some (.isub, 1, 0, 0, 0) := by decide +kernel
theorem znu150_40 : xe_look (xc 93) 40 = some (.istore_n 2, 1, 0, 0, 0) := by decide +kernel
theorem znu150_41 : xe_look (xc 93) 41 = some (.aload_n 0, 1, 0, 0, 0) := by decide +kernel
theorem znu150_42 : xe_look (xc 93) 42 = some (.dup, 1, 0, 0, 0) := by decide +kernel
theorem znu150_43 : xe_look (xc 93) 43 = some (.getfield 31, 3, 9, 4, 951) := by decide +kernel
theorem znu150_46 : xe_look (xc 93) 46 = some (.iconst 1, 1, 0, 0, 0) := by decide +kernel
theorem znu150_47 : xe_look (xc 93) 47 = some (.iadd, 1, 0, 0, 0) := by decide +kernel
theorem znu150_48 : xe_look (xc 93) 48 = some (.putfield 31, 3, 9, 4, 951) := by decide +kernel
theorem znu150_51 : xe_look (xc 93) 51 = some (.iinc 3 1, 3, 0, 0, 0) := by decide +kernel
theorem znu150_54 : xe_look (xc 93) 54 = some (.goto (-45), 3, 0, 0, 0) := by decide +kernel
theorem znu150_57 : xe_look (xc 93) 57 = some (.aload_n 0, 1, 0, 0, 0) := by decide +kernel
theorem znu150_58 : xe_look (xc 93) 58 = some (.getfield 31, 3, 9, 4, 951) := by decide +kernel
theorem znu150_61 : xe_look (xc 93) 61 = some (.iload_n 1, 1, 0, 0, 0) := by decide +kernel
theorem znu150_62 : xe_look (xc 93) 62 = some (.if_icmp .ne 15, 3, 0, 0, 0) := by decide +kernel
theorem znu150_65 : xe_look (xc 93) 65 = some (.aload_n 0, 1, 0, 0, 0) := by decide +kernel
theorem znu150_66 : xe_look (xc 93) 66 = some (.iconst 1, 1, 0, 0, 0) := by decide +kernel
theorem znu150_67 : xe_look (xc 93) 67 = some (.aload_n 0, 1, 0, 0, 0) := by decide +kernel
theorem znu150_68 : xe_look (xc 93) 68 = some (.getfield 31, 3, 9, 4, 951) := by decide +kernel
theorem znu150_71 : xe_look (xc 93) 71 = some (.invokevirtual 41, 3, 0, 87, 953) := by decide +kernel
theorem znu150_74 : xe_look (xc 93) 74 = some (.goto 15, 3, 0, 0, 0) := by decide +kernel
theorem znu150_77 : xe_look (xc 93) 77 = some (.iload_n 2, 1, 0, 0, 0) := by decide +kernel
theorem znu150_78 : xe_look (xc 93) 78 = some (.bipush 32, 2, 0, 0, 0) := by decide +kernel
theorem znu150_80 : xe_look (xc 93) 80 = some (.if_icmp .lt 9, 3, 0, 0, 0) := by decide +kernel
theorem znu150_83 : xe_look (xc 93) 83 = some (.aload_n 0, 1, 0, 0, 0) := by decide +kernel
theorem znu150_84 : xe_look (xc 93) 84 = some (.iconst 3, 1, 0, 0, 0) := by decide +kernel
theorem znu150_85 : xe_look (xc 93) 85 = some (.iload_n 1, 1, 0, 0, 0) := by decide +kernel
theorem znu150_86 : xe_look (xc 93) 86 = some (.invokevirtual 41, 3, 0, 87, 953) := by decide +kernel
theorem znu150_89 : xe_look (xc 93) 89 = some (.iload_n 2, 1, 0, 0, 0) := by decide +kernel
theorem znu150_90 : xe_look (xc 93) 90 = some (.ireturn, 1, 0, 0, 0) := by decide +kernel
theorem znu152_0 : xe_look (xc 93) 0 = some (.aload_n 0, 1, 0, 0, 0) := by decide +kernel
theorem znu152_1 : xe_look (xc 93) 1 = some (.getfield 31, 3, 9, 4, 951) := by decide +kernel
theorem znu152_4 : xe_look (xc 93) 4 = some (.istore_n 1, 1, 0, 0, 0) := by decide +kernel
theorem znu152_5 : xe_look (xc 93) 5 = some (.iconst 0, 1, 0, 0, 0) := by decide +kernel
theorem znu152_6 : xe_look (xc 93) 6 = some (.istore_n 2, 1, 0, 0, 0) := by decide +kernel
theorem znu152_7 : xe_look (xc 93) 7 = some (.iconst 0, 1, 0, 0, 0) := by decide +kernel
theorem znu152_8 : xe_look (xc 93) 8 = some (.istore_n 3, 1, 0, 0, 0) := by decide +kernel
theorem znu152_9 : xe_look (xc 93) 9 = some (.iload_n 3, 1, 0, 0, 0) := by decide +kernel
theorem znu152_10 : xe_look (xc 93) 10 = some (.iconst 2, 1, 0, 0, 0) := by decide +kernel
theorem znu152_11 : xe_look (xc 93) 11 = some (.if_icmp .ge 46, 3, 0, 0, 0) := by decide +kernel
theorem znu152_14 : xe_look (xc 93) 14 = some (.aload_n 0, 1, 0, 0, 0) := by decide +kernel
theorem znu152_15 : xe_look (xc 93) 15 = some (.invokevirtual 48, 3, 0, 97, 954) := by decide +kernel
theorem znu152_18 : xe_look (xc 93) 18 = some (.bipush 48, 2, 0, 0, 0) := by decide +kernel
theorem znu152_20 : xe_look (xc 93) 20 = some (.bipush 57, 2, 0, 0, 0) := by decide +kernel
theorem znu152_22 : xe_look (xc 93) 22 = some (.invokestatic 58, 3, 1, 124, 7) := by decide +kernel
theorem znu152_25 : xe_look (xc 93) 25 = some (.ifCond .eq 32, 3, 0, 0, 0) := by decide +kernel
theorem znu152_28 : xe_look (xc 93) 28 = some (.bipush 10, 2, 0, 0, 0) := by decide +kernel
theorem znu152_30 : xe_look (xc 93) 30 = some (.iload_n 2, 1, 0, 0, 0) := by decide +kernel
theorem znu152_31 : xe_look (xc 93) 31 = some (.imul, 1, 0, 0, 0) := by decide +kernel
theorem znu152_32 : xe_look (xc 93) 32 = some (.aload_n 0, 1, 0, 0, 0) := by decide +kernel
theorem znu152_33 : xe_look (xc 93) 33 = some (.invokevirtual 48, 3, 0, 97, 954) := by decide +kernel
theorem znu152_36 : xe_look (xc 93) 36 = some (.iadd, 1, 0, 0, 0) := by decide +kernel
theorem znu152_37 : xe_look (xc 93) 37 = some (.bipush 48, 2, 0, 0, 0) := by decide +kernel
theorem znu152_39 : xe_look (xc 93) 39 = some (.isub, 1, 0, 0, 0) := by decide +kernel
theorem znu152_40 : xe_look (xc 93) 40 = some (.istore_n 2, 1, 0, 0, 0) := by decide +kernel
theorem znu152_41 : xe_look (xc 93) 41 = some (.aload_n 0, 1, 0, 0, 0) := by decide +kernel
theorem znu152_42 : xe_look (xc 93) 42 = some (.dup, 1, 0, 0, 0) := by decide +kernel
theorem znu152_43 : xe_look (xc 93) 43 = some (.getfield 31, 3, 9, 4, 951) := by decide +kernel
theorem znu152_46 : xe_look (xc 93) 46 = some (.iconst 1, 1, 0, 0, 0) := by decide +kernel
theorem znu152_47 : xe_look (xc 93) 47 = some (.iadd, 1, 0, 0, 0) := by decide +kernel
theorem znu152_48 : xe_look (xc 93) 48 = some (.putfield 31, 3, 9, 4, 951) := by decide +kernel
theorem znu152_51 : xe_look (xc 93) 51 = some (.iinc 3 1, 3, 0, 0, 0) := by decide +kernel
theorem znu152_54 : xe_look (xc 93) 54 = some (.goto (-45), 3, 0, 0, 0) := by decide +kernel
theorem znu152_57 : xe_look (xc 93) 57 = some (.aload_n 0, 1, 0, 0, 0) := by decide +kernel
theorem znu152_58 : xe_look (xc 93) 58 = some (.getfield 31, 3, 9, 4, 951) := by decide +kernel
theorem znu152_61 : xe_look (xc 93) 61 = some (.iload_n 1, 1, 0, 0, 0) := by decide +kernel
theorem znu152_62 : xe_look (xc 93) 62 = some (.if_icmp .ne 15, 3, 0, 0, 0) := by decide +kernel
theorem znu152_65 : xe_look (xc 93) 65 = some (.aload_n 0, 1, 0, 0, 0) := by decide +kernel
theorem znu152_66 : xe_look (xc 93) 66 = some (.iconst 1, 1, 0, 0, 0) := by decide +kernel
theorem znu152_67 : xe_look (xc 93) 67 = some (.aload_n 0, 1, 0, 0, 0) := by decide +kernel
theorem znu152_68 : xe_look (xc 93) 68 = some (.getfield 31, 3, 9, 4, 951) := by decide +kernel
theorem znu152_71 : xe_look (xc 93) 71 = some (.invokevirtual 41, 3, 0, 87, 953) := by decide +kernel
theorem znu152_74 : xe_look (xc 93) 74 = some (.goto 15, 3, 0, 0, 0) := by decide +kernel
theorem znu152_77 : xe_look (xc 93) 77 = some (.iload_n 2, 1, 0, 0, 0) := by decide +kernel
theorem znu152_78 : xe_look (xc 93) 78 = some (.bipush 32, 2, 0, 0, 0) := by decide +kernel
theorem znu152_80 : xe_look (xc 93) 80 = some (.if_icmp .lt 9, 3, 0, 0, 0) := by decide +kernel
theorem znu152_83 : xe_look (xc 93) 83 = some (.aload_n 0, 1, 0, 0, 0) := by decide +kernel
theorem znu152_84 : xe_look (xc 93) 84 = some (.iconst 3, 1, 0, 0, 0) := by decide +kernel
theorem znu152_85 : xe_look (xc 93) 85 = some (.iload_n 1, 1, 0, 0, 0) := by decide +kernel
theorem znu152_86 : xe_look (xc 93) 86 = some (.invokevirtual 41, 3, 0, 87, 953) := by decide +kernel
theorem znu152_89 : xe_look (xc 93) 89 = some (.iload_n 2, 1, 0, 0, 0) := by decide +kernel
theorem znu152_90 : xe_look (xc 93) 90 = some (.ireturn, 1, 0, 0, 0) := by decide +kernel
theorem zrw150_0 : xe_look (xc 95) 0 = some (.aload_n 0, 1, 0, 0, 0) := by decide +kernel
theorem zrw150_1 : xe_look (xc 95) 1 = some (.invokevirtual 73, 3, 0, 93, 959) := by decide +kernel
theorem zrw150_4 : xe_look (xc 95) 4 = some (.istore_n 1, 1, 0, 0, 0) := by decide +kernel
theorem zrw150_5 : xe_look (xc 95) 5 = some (.iload_n 1, 1, 0, 0, 0) := by decide +kernel
theorem zrw150_6 : xe_look (xc 95) 6 = some (.istore_n 2, 1, 0, 0, 0) := by decide +kernel
theorem zrw150_7 : xe_look (xc 95) 7 = some (.aload_n 0, 1, 0, 0, 0) := by decide +kernel
theorem zrw150_8 : xe_look (xc 95) 8 = some (.getfield 34, 3, 9, 5, 946) := by decide +kernel
theorem zrw150_11 : xe_look (xc 95) 11 = some (.ifCond .ne 27, 3, 0, 0, 0) := by decide +kernel
theorem zrw150_14 : xe_look (xc 95) 14 = some (.aload_n 0, 1, 0, 0, 0) := by decide +kernel
theorem zrw150_15 : xe_look (xc 95) 15 = some (.invokevirtual 48, 3, 0, 97, 954) := by decide +kernel
theorem zrw150_18 : xe_look (xc 95) 18 = some (.bipush 45, 2, 0, 0, 0) := by decide +kernel
theorem zrw150_20 : xe_look (xc 95) 20 = some (.if_icmp .ne 18, 3, 0, 0, 0) := by decide +kernel
theorem zrw150_23 : xe_look (xc 95) 23 = some (.aload_n 0, 1, 0, 0, 0) := by decide +kernel
theorem zrw150_24 : xe_look (xc 95) 24 = some (.dup, 1, 0, 0, 0) := by decide +kernel
theorem zrw150_25 : xe_look (xc 95) 25 = some (.getfield 31, 3, 9, 4, 951) := by decide +kernel
theorem zrw150_28 : xe_look (xc 95) 28 = some (.iconst 1, 1, 0, 0, 0) := by decide +kernel
theorem zrw150_29 : xe_look (xc 95) 29 = some (.iadd, 1, 0, 0, 0) := by decide +kernel
theorem zrw150_30 : xe_look (xc 95) 30 = some (.putfield 31, 3, 9, 4, 951) := by decide +kernel
theorem zrw150_33 : xe_look (xc 95) 33 = some (.aload_n 0, 1, 0, 0, 0) := by decide +kernel
theorem zrw150_34 : xe_look (xc 95) 34 = some (.invokevirtual 73, 3, 0, 93, 959) := by decide +kernel
theorem zrw150_37 : xe_look (xc 95) 37 = some (.istore_n 2, 1, 0, 0, 0) := by decide +kernel
theorem zrw150_38 : xe_look (xc 95) 38 = some (.aload_n 0, 1, 0, 0, 0) := by decide +kernel
theorem zrw150_39 : xe_look (xc 95) 39 = some (.getfield 34, 3, 9, 5, 946) := by decide +kernel
theorem zrw150_42 : xe_look (xc 95) 42 = some (.ifCond .eq 4, 3, 0, 0, 0) := by decide +kernel
theorem zrw150_45 : xe_look (xc 95) 45 = some (.return_, 1, 0, 0, 0) := by decide +kernel
theorem zrw150_46 : xe_look (xc 95) 46 = some (.iload_n 1, 1, 0, 0, 0) := by decide +kernel
theorem zrw150_47 : xe_look (xc 95) 47 = some (.iload_n 2, 1, 0, 0, 0) := by decide +kernel
theorem zrw150_48 : xe_look (xc 95) 48 = some (.if_icmp .gt 7, 3, 0, 0, 0) := by decide +kernel
theorem zrw150_51 : xe_look (xc 95) 51 = some (.iconst 1, 1, 0, 0, 0) := by decide +kernel
theorem zrw150_52 : xe_look (xc 95) 52 = some (.goto 4, 3, 0, 0, 0) := by decide +kernel
theorem zrw150_55 : xe_look (xc 95) 55 = some (.iconst (-1), 1, 0, 0, 0) := by decide +kernel
theorem zrw150_56 : xe_look (xc 95) 56 = some (.istore_n 3, 1, 0, 0, 0) := by decide +kernel
theorem zrw150_57 : xe_look (xc 95) 57 = some (.iload_n 2, 1, 0, 0, 0) := by decide +kernel
theorem zrw150_58 : xe_look (xc 95) 58 = some (.iload_n 1, 1, 0, 0, 0) := by decide +kernel
theorem zrw150_59 : xe_look (xc 95) 59 = some (.isub, 1, 0, 0, 0) := by decide +kernel
theorem zrw150_60 : xe_look (xc 95) 60 = some (.invokestatic 76, 3, 8, 0, 960) := by decide +kernel
theorem zrw150_63 : xe_look (xc 95) 63 = some (.iconst 1, 1, 0, 0, 0) := by decide +kernel
theorem zrw150_64 : xe_look (xc 95) 64 = some (.iadd, 1, 0, 0, 0) := by decide +kernel
theorem zrw150_65 : xe_look (xc 95) 65 = some (.istore 4, 2, 0, 0, 0) := by decide +kernel
theorem zrw150_67 : xe_look (xc 95) 67 = some (.iconst 0, 1, 0, 0, 0) := by decide +kernel
theorem zrw150_68 : xe_look (xc 95) 68 = some (.istore 5, 2, 0, 0, 0) := by decide +kernel
theorem zrw150_70 : xe_look (xc 95) 70 = some (.iload 5, 2, 0, 0, 0) := by decide +kernel
theorem zrw150_72 : xe_look (xc 95) 72 = some (.iload 4, 2, 0, 0, 0) := by decide +kernel
theorem zrw150_74 : xe_look (xc 95) 74 = some (.if_icmp .ge 19, 3, 0, 0, 0) := by decide +kernel
theorem zrw150_77 : xe_look (xc 95) 77 = some (.aload_n 0, 1, 0, 0, 0) := by decide +kernel
theorem zrw150_78 : xe_look (xc 95) 78 = some (.iload_n 1, 1, 0, 0, 0) := by decide +kernel
theorem zrw150_79 : xe_look (xc 95) 79 = some (.iload 5, 2, 0, 0, 0) := by decide +kernel
theorem zrw150_81 : xe_look (xc 95) 81 = some (.iload_n 3, 1, 0, 0, 0) := by decide +kernel
theorem zrw150_82 : xe_look (xc 95) 82 = some (.imul, 1, 0, 0, 0) := by decide +kernel
theorem zrw150_83 : xe_look (xc 95) 83 = some (.iadd, 1, 0, 0, 0) := by decide +kernel
theorem zrw150_84 : xe_look (xc 95) 84 = some (.invokevirtual 70, 3, 0, 86, 961) := by decide +kernel
theorem zrw150_87 : xe_look (xc 95) 87 = some (.iinc 5 1, 3, 0, 0, 0) := by decide +kernel
theorem zrw150_90 : xe_look (xc 95) 90 = some (.goto (-20), 3, 0, 0, 0) := by decide +kernel
theorem zrw150_93 : xe_look (xc 95) 93 = some (.return_, 1, 0, 0, 0) := by decide +kernel
theorem zrw152_0 : xe_look (xc 95) 0 = some (.aload_n 0, 1, 0, 0, 0) := by decide +kernel
theorem zrw152_1 : xe_look (xc 95) 1 = some (.invokevirtual 73, 3, 0, 93, 959) := by decide +kernel
theorem zrw152_4 : xe_look (xc 95) 4 = some (.istore_n 1, 1, 0, 0, 0) := by decide +kernel
theorem zrw152_5 : xe_look (xc 95) 5 = some (.iload_n 1, 1, 0, 0, 0) := by decide +kernel
theorem zrw152_6 : xe_look (xc 95) 6 = some (.istore_n 2, 1, 0, 0, 0) := by decide +kernel
theorem zrw152_7 : xe_look (xc 95) 7 = some (.aload_n 0, 1, 0, 0, 0) := by decide +kernel
theorem zrw152_8 : xe_look (xc 95) 8 = some (.getfield 34, 3, 9, 5, 946) := by decide +kernel
theorem zrw152_11 : xe_look (xc 95) 11 = some (.ifCond .ne 27, 3, 0, 0, 0) := by decide +kernel
theorem zrw152_14 : xe_look (xc 95) 14 = some (.aload_n 0, 1, 0, 0, 0) := by decide +kernel
theorem zrw152_15 : xe_look (xc 95) 15 = some (.invokevirtual 48, 3, 0, 97, 954) := by decide +kernel
theorem zrw152_18 : xe_look (xc 95) 18 = some (.bipush 45, 2, 0, 0, 0) := by decide +kernel
theorem zrw152_20 : xe_look (xc 95) 20 = some (.if_icmp .ne 18, 3, 0, 0, 0) := by decide +kernel
theorem zrw152_23 : xe_look (xc 95) 23 = some (.aload_n 0, 1, 0, 0, 0) := by decide +kernel
theorem zrw152_24 : xe_look (xc 95) 24 = some (.dup, 1, 0, 0, 0) := by decide +kernel
theorem zrw152_25 : xe_look (xc 95) 25 = some (.getfield 31, 3, 9, 4, 951) := by decide +kernel
theorem zrw152_28 : xe_look (xc 95) 28 = some (.iconst 1, 1, 0, 0, 0) := by decide +kernel
theorem zrw152_29 : xe_look (xc 95) 29 = some (.iadd, 1, 0, 0, 0) := by decide +kernel
theorem zrw152_30 : xe_look (xc 95) 30 = some (.putfield 31, 3, 9, 4, 951) := by decide +kernel
theorem zrw152_33 : xe_look (xc 95) 33 = some (.aload_n 0, 1, 0, 0, 0) := by decide +kernel
theorem zrw152_34 : xe_look (xc 95) 34 = some (.invokevirtual 73, 3, 0, 93, 959) := by decide +kernel
theorem zrw152_37 : xe_look (xc 95) 37 = some (.istore_n 2, 1, 0, 0, 0) := by decide +kernel
theorem zrw152_38 : xe_look (xc 95) 38 = some (.aload_n 0, 1, 0, 0, 0) := by decide +kernel
theorem zrw152_39 : xe_look (xc 95) 39 = some (.getfield 34, 3, 9, 5, 946) := by decide +kernel
theorem zrw152_42 : xe_look (xc 95) 42 = some (.ifCond .eq 4, 3, 0, 0, 0) := by decide +kernel
theorem zrw152_45 : xe_look (xc 95) 45 = some (.return_, 1, 0, 0, 0) := by decide +kernel
theorem zrw152_46 : xe_look (xc 95) 46 = some (.iload_n 1, 1, 0, 0, 0) := by decide +kernel
theorem zrw152_47 : xe_look (xc 95) 47 = some (.iload_n 2, 1, 0, 0, 0) := by decide +kernel
theorem zrw152_48 : xe_look (xc 95) 48 = some (.if_icmp .gt 7, 3, 0, 0, 0) := by decide +kernel
theorem zrw152_51 : xe_look (xc 95) 51 = some (.iconst 1, 1, 0, 0, 0) := by decide +kernel
theorem zrw152_52 : xe_look (xc 95) 52 = some (.goto 4, 3, 0, 0, 0) := by decide +kernel
theorem zrw152_55 : xe_look (xc 95) 55 = some (.iconst (-1), 1, 0, 0, 0) := by decide +kernel
theorem zrw152_56 : xe_look (xc 95) 56 = some (.istore_n 3, 1, 0, 0, 0) := by decide +kernel
theorem zrw152_57 : xe_look (xc 95) 57 = some (.iload_n 2, 1, 0, 0, 0) := by decide +kernel
theorem zrw152_58 : xe_look (xc 95) 58 = some (.iload_n 1, 1, 0, 0, 0) := by decide +kernel
theorem zrw152_59 : xe_look (xc 95) 59 = some (.isub, 1, 0, 0, 0) := by decide +kernel
theorem zrw152_60 : xe_look (xc 95) 60 = some (.invokestatic 76, 3, 8, 0, 960) := by decide +kernel
theorem zrw152_63 : xe_look (xc 95) 63 = some (.iconst 1, 1, 0, 0, 0) := by decide +kernel
theorem zrw152_64 : xe_look (xc 95) 64 = some (.iadd, 1, 0, 0, 0) := by decide +kernel
theorem zrw152_65 : xe_look (xc 95) 65 = some (.istore 4, 2, 0, 0, 0) := by decide +kernel
theorem zrw152_67 : xe_look (xc 95) 67 = some (.iconst 0, 1, 0, 0, 0) := by decide +kernel
theorem zrw152_68 : xe_look (xc 95) 68 = some (.istore 5, 2, 0, 0, 0) := by decide +kernel
theorem zrw152_70 : xe_look (xc 95) 70 = some (.iload 5, 2, 0, 0, 0) := by decide +kernel
theorem zrw152_72 : xe_look (xc 95) 72 = some (.iload 4, 2, 0, 0, 0) := by decide +kernel
theorem zrw152_74 : xe_look (xc 95) 74 = some (.if_icmp .ge 19, 3, 0, 0, 0) := by decide +kernel
theorem zrw152_77 : xe_look (xc 95) 77 = some (.aload_n 0, 1, 0, 0, 0) := by decide +kernel
theorem zrw152_78 : xe_look (xc 95) 78 = some (.iload_n 1, 1, 0, 0, 0) := by decide +kernel
theorem zrw152_79 : xe_look (xc 95) 79 = some (.iload 5, 2, 0, 0, 0) := by decide +kernel
theorem zrw152_81 : xe_look (xc 95) 81 = some (.iload_n 3, 1, 0, 0, 0) := by decide +kernel
theorem zrw152_82 : xe_look (xc 95) 82 = some (.imul, 1, 0, 0, 0) := by decide +kernel
theorem zrw152_83 : xe_look (xc 95) 83 = some (.iadd, 1, 0, 0, 0) := by decide +kernel
theorem zrw152_84 : xe_look (xc 95) 84 = some (.invokevirtual 70, 3, 0, 86, 961) := by decide +kernel
theorem zrw152_87 : xe_look (xc 95) 87 = some (.iinc 5 1, 3, 0, 0, 0) := by decide +kernel
theorem zrw152_90 : xe_look (xc 95) 90 = some (.goto (-20), 3, 0, 0, 0) := by decide +kernel
theorem zrw152_93 : xe_look (xc 95) 93 = some (.return_, 1, 0, 0, 0) := by decide +kernel
theorem zsg150_0 : xe_look (xc 97) 0 = some (.aload_n 0, 1, 0, 0, 0) := by decide +kernel
theorem zsg150_1 : xe_look (xc 97) 1 = some (.getfield 31, 3, 9, 4, 951) := by decide +kernel
theorem zsg150_4 : xe_look (xc 97) 4 = some (.aload_n 0, 1, 0, 0, 0) := by decide +kernel
theorem zsg150_5 : xe_look (xc 97) 5 = some (.getfield 28, 3, 9, 3, 950) := by decide +kernel
theorem zsg150_8 : xe_look (xc 97) 8 = some (.if_icmp .ge 15, 3, 0, 0, 0) := by decide +kernel
theorem zsg150_11 : xe_look (xc 97) 11 = some (.aload_n 0, 1, 0, 0, 0) := by decide +kernel
theorem zsg150_12 : xe_look (xc 97) 12 = some (.getfield 15, 3, 9, 2, 948) := by decide +kernel
theorem zsg150_15 : xe_look (xc 97) 15 = some (.aload_n 0, 1, 0, 0, 0) := by decide +kernel
theorem zsg150_16 : xe_look (xc 97) 16 = some (.getfield 31, 3, 9, 4, 951) := by decide +kernel
theorem zsg150_19 : xe_look (xc 97) 19 = some (.iaload, 1, 0, 0, 0) := by decide +kernel
theorem zsg150_20 : xe_look (xc 97) 20 = some (.goto 4, 3, 0, 0, 0) := by decide +kernel
theorem zsg150_23 : xe_look (xc 97) 23 = some (.iconst (-1), 1, 0, 0, 0) := by decide +kernel
theorem zsg150_24 : xe_look (xc 97) 24 = some (.ireturn, 1, 0, 0, 0) := by decide +kernel
theorem zsg152_0 : xe_look (xc 97) 0 = some (.aload_n 0, 1, 0, 0, 0) := by decide +kernel
theorem zsg152_1 : xe_look (xc 97) 1 = some (.getfield 31, 3, 9, 4, 951) := by decide +kernel
theorem zsg152_4 : xe_look (xc 97) 4 = some (.aload_n 0, 1, 0, 0, 0) := by decide +kernel
theorem zsg152_5 : xe_look (xc 97) 5 = some (.getfield 28, 3, 9, 3, 950) := by decide +kernel
theorem zsg152_8 : xe_look (xc 97) 8 = some (.if_icmp .ge 15, 3, 0, 0, 0) := by decide +kernel
theorem zsg152_11 : xe_look (xc 97) 11 = some (.aload_n 0, 1, 0, 0, 0) := by decide +kernel
theorem zsg152_12 : xe_look (xc 97) 12 = some (.getfield 15, 3, 9, 2, 948) := by decide +kernel
theorem zsg152_15 : xe_look (xc 97) 15 = some (.aload_n 0, 1, 0, 0, 0) := by decide +kernel
theorem zsg152_16 : xe_look (xc 97) 16 = some (.getfield 31, 3, 9, 4, 951) := by decide +kernel
theorem zsg152_19 : xe_look (xc 97) 19 = some (.iaload, 1, 0, 0, 0) := by decide +kernel
theorem zsg152_20 : xe_look (xc 97) 20 = some (.goto 4, 3, 0, 0, 0) := by decide +kernel
theorem zsg152_23 : xe_look (xc 97) 23 = some (.iconst (-1), 1, 0, 0, 0) := by decide +kernel
theorem zsg152_24 : xe_look (xc 97) 24 = some (.ireturn, 1, 0, 0, 0) := by decide +kernel
theorem zsl150_0 : xe_look (xc 98) 0 = some (.iload_n 1, 1, 0, 0, 0) := by decide +kernel
theorem zsl150_1 : xe_look (xc 98) 1 = some (.ifCond .lt 26, 3, 0, 0, 0) := by decide +kernel
theorem zsl150_4 : xe_look (xc 98) 4 = some (.iload_n 1, 1, 0, 0, 0) := by decide +kernel
theorem zsl150_5 : xe_look (xc 98) 5 = some (.aload_n 0, 1, 0, 0, 0) := by decide +kernel
theorem zsl150_6 : xe_look (xc 98) 6 = some (.getfield 18, 3, 9, 1, 944) := by decide +kernel
theorem zsl150_9 : xe_look (xc 98) 9 = some (.if_icmp .ge 18, 3, 0, 0, 0) := by decide +kernel
theorem zsl150_12 : xe_look (xc 98) 12 = some (.iload_n 1, 1, 0, 0, 0) := by decide +kernel
theorem zsl150_13 : xe_look (xc 98) 13 = some (.bipush 60, 2, 0, 0, 0) := by decide +kernel
theorem zsl150_15 : xe_look (xc 98) 15 = some (.if_icmp .ge 12, 3, 0, 0, 0) := by decide +kernel
theorem zsl150_18 : xe_look (xc 98) 18 = some (.aload_n 0, 1, 0, 0, 0) := by decide +kernel
theorem zsl150_19 : xe_look (xc 98) 19 = some (.getfield 9, 3, 9, 0, 945) := by decide +kernel
theorem zsl150_22 : xe_look (xc 98) 22 = some (.iload_n 1, 1, 0, 0, 0) := by decide +kernel
theorem zsl150_23 : xe_look (xc 98) 23 = some (.iaload, 1, 0, 0, 0) := by decide +kernel
theorem zsl150_24 : xe_look (xc 98) 24 = some (.goto 4, 3, 0, 0, 0) := by decide +kernel
theorem zsl150_27 : xe_look (xc 98) 27 = some (.iconst (-1), 1, 0, 0, 0) := by decide +kernel
theorem zsl150_28 : xe_look (xc 98) 28 = some (.ireturn, 1, 0, 0, 0) := by decide +kernel
theorem zsl152_0 : xe_look (xc 98) 0 = some (.iload_n 1, 1, 0, 0, 0) := by decide +kernel
theorem zsl152_1 : xe_look (xc 98) 1 = some (.ifCond .lt 26, 3, 0, 0, 0) := by decide +kernel
theorem zsl152_4 : xe_look (xc 98) 4 = some (.iload_n 1, 1, 0, 0, 0) := by decide +kernel
theorem zsl152_5 : xe_look (xc 98) 5 = some (.aload_n 0, 1, 0, 0, 0) := by decide +kernel
theorem zsl152_6 : xe_look (xc 98) 6 = some (.getfield 18, 3, 9, 1, 944) := by decide +kernel
theorem zsl152_9 : xe_look (xc 98) 9 = some (.if_icmp .ge 18, 3, 0, 0, 0) := by decide +kernel
theorem zsl152_12 : xe_look (xc 98) 12 = some (.iload_n 1, 1, 0, 0, 0) := by decide +kernel
theorem zsl152_13 : xe_look (xc 98) 13 = some (.bipush 60, 2, 0, 0, 0) := by decide +kernel
theorem zsl152_15 : xe_look (xc 98) 15 = some (.if_icmp .ge 12, 3, 0, 0, 0) := by decide +kernel
theorem zsl152_18 : xe_look (xc 98) 18 = some (.aload_n 0, 1, 0, 0, 0) := by decide +kernel
theorem zsl152_19 : xe_look (xc 98) 19 = some (.getfield 9, 3, 9, 0, 945) := by decide +kernel
theorem zsl152_22 : xe_look (xc 98) 22 = some (.iload_n 1, 1, 0, 0, 0) := by decide +kernel
theorem zsl152_23 : xe_look (xc 98) 23 = some (.iaload, 1, 0, 0, 0) := by decide +kernel
theorem zsl152_24 : xe_look (xc 98) 24 = some (.goto 4, 3, 0, 0, 0) := by decide +kernel
theorem zsl152_27 : xe_look (xc 98) 27 = some (.iconst (-1), 1, 0, 0, 0) := by decide +kernel
theorem zsl152_28 : xe_look (xc 98) 28 = some (.ireturn, 1, 0, 0, 0) := by decide +kernel
def tW150 : Nat := 2 ^ (cn 150 + 1) + 2 ^ (cn 150 + 4) + 2 ^ (cn 150 + 5) + 2 ^ cn 151
def tq150k : List (Nat × Nat) := [(150, 4), (150, 1), (150, 5)]
def tq150a : List Nat := [151]
/-- place, how many, fault; the row -/
abbrev tS150 (g0 g : pH) (p m f : Int) (c : tC) : Prop := sE tq150k tq150a tW150 g0 g [p, m, f] [c]
def tB150 (g0 : pH) (B : tC) (n : Int) : Prop := cF g0 150 3 = n ∧ g0.2.2.1 150 2 = some 1 ∧ fA g0 1 = B ∧ 0 ≤ n ∧ n ≤ 120 ∧ ∀ j, j < 260 → 0 ≤ B j ∧ B j ≤ 255
def tW152 : Nat := 2 ^ (cn 152 + 1) + 2 ^ (cn 152 + 4) + 2 ^ (cn 152 + 5) + 2 ^ cn 153
def tq152k : List (Nat × Nat) := [(152, 4), (152, 1), (152, 5)]
def tq152a : List Nat := [153]
/-- place, how many, fault; the row -/
abbrev tS152 (g0 g : pH) (p m f : Int) (c : tC) : Prop := sE tq152k tq152a tW152 g0 g [p, m, f] [c]
def tB152 (g0 : pH) (B : tC) (n : Int) : Prop := cF g0 152 3 = n ∧ g0.2.2.1 152 2 = some 1 ∧ fA g0 1 = B ∧ 0 ≤ n ∧ n ≤ 120 ∧ ∀ j, j < 260 → 0 ≤ B j ∧ B j ≤ 255
theorem eo_150 : eL[150]? = some (0, 9) := by decide +kernel
theorem eo_152 : eL[152]? = some (0, 9) := by decide +kernel
theorem gu_1 : eG (cn 1) = (0, 255, []) := by decide +kernel
theorem gu_151 : eG (cn 151) = ((-40), 90, []) := by decide +kernel
theorem gu_153 : eG (cn 153) = ((-40), 90, []) := by decide +kernel
theorem gy_150_1 : eG (cn 150 + 1) = (0, 540, []) := by decide +kernel
theorem gy_150_4 : eG (cn 150 + 4) = (0, 120, []) := by decide +kernel
theorem gy_150_5 : eG (cn 150 + 5) = ((-9999), 0, []) := by decide +kernel
theorem gy_152_1 : eG (cn 152 + 1) = (0, 540, []) := by decide +kernel
theorem gy_152_4 : eG (cn 152 + 4) = (0, 120, []) := by decide +kernel
theorem gy_152_5 : eG (cn 152 + 5) = ((-9999), 0, []) := by decide +kernel
theorem wn_tW150_150_2 : tW150.testBit (cn 150 + 2) = false := by decide +kernel
theorem wn_tW150_150_3 : tW150.testBit (cn 150 + 3) = false := by decide +kernel
theorem wn_tW152_152_2 : tW152.testBit (cn 152 + 2) = false := by decide +kernel
theorem wn_tW152_152_3 : tW152.testBit (cn 152 + 3) = false := by decide +kernel
theorem wm_tW150_1 : tW150.testBit (cn 1) = false := by decide +kernel
theorem wm_tW152_1 : tW152.testBit (cn 1) = false := by decide +kernel
theorem ch_150_0 : (eG (cn 150 + 0)).2.2 = [152] := by decide +kernel
theorem cq_150_0 {d i : Nat} {lv : List (Nat × pv)} {r : List pv} {g : pH} (hG : g_I eG g) : px_push eL d none (.getfield i) 9 0 lv (pvR 150 :: r) g = some (pvR 151 :: r) := pget eo_150 (gI_r (r := 151) hG eo_150 (Nat.le_of_ble_eq_true rfl) (y := 0) rfl ch_150_0)
theorem ch_152_0 : (eG (cn 152 + 0)).2.2 = [154] := by decide +kernel
theorem cq_152_0 {d i : Nat} {lv : List (Nat × pv)} {r : List pv} {g : pH} (hG : g_I eG g) : px_push eL d none (.getfield i) 9 0 lv (pvR 152 :: r) g = some (pvR 153 :: r) := pget eo_152 (gI_r (r := 153) hG eo_152 (Nat.le_of_ble_eq_true rfl) (y := 0) rfl ch_152_0)
theorem ez_1 : eL[1]? = some (1, 260) := by decide +kernel
theorem ez_151 : eL[151]? = some (1, 60) := by decide +kernel
theorem ez_153 : eL[153]? = some (1, 60) := by decide +kernel
theorem wt_tW150_150_1 : tW150.testBit (cn 150 + 1) = true := by decide +kernel
theorem wt_tW150_150_4 : tW150.testBit (cn 150 + 4) = true := by decide +kernel
theorem wt_tW150_150_5 : tW150.testBit (cn 150 + 5) = true := by decide +kernel
theorem wt_tW152_152_1 : tW152.testBit (cn 152 + 1) = true := by decide +kernel
theorem wt_tW152_152_4 : tW152.testBit (cn 152 + 4) = true := by decide +kernel
theorem wt_tW152_152_5 : tW152.testBit (cn 152 + 5) = true := by decide +kernel
theorem wu_tW150_151 : tW150.testBit (cn 151) = true := by decide +kernel
theorem wu_tW152_153 : tW152.testBit (cn 153) = true := by decide +kernel
theorem ce150 {g0 g : pH} {B : tC} {n p m f : Int} {c : tC} (hB : tB150 g0 B n) (h : tS150 g0 g p m f c) : cF g 150 3 = n := (cF_M (S_J h).2 wn_tW150_150_3).trans hB.1
theorem cr150 {g0 g : pH} {B : tC} {n p m f : Int} {c : tC} (hB : tB150 g0 B n) (h : tS150 g0 g p m f c) : g.2.2.1 150 2 = some 1 := ((S_J h).2.1 150 2 wn_tW150_150_2).2.2.trans hB.2.1
theorem cb150 {g0 g : pH} {B : tC} {n p m f : Int} {c : tC} (hB : tB150 g0 B n) (h : tS150 g0 g p m f c) : fA g 1 = B := (fA_M (S_J h).2 wm_tW150_1).trans hB.2.2.1
theorem cm150 {g0 g : pH} {B : tC} {n p m f : Int} {c : tC} (hB : tB150 g0 B n) (h : tS150 g0 g p m f c) : 0 ≤ n ∧ n ≤ 120 ∧ (0 ≤ p ∧ p ≤ 120) ∧ (0 ≤ m ∧ m ≤ 540) ∧ (∀ q, 0 ≤ q → -1 ≤ tH B n q ∧ tH B n q ≤ 255) := ⟨hB.2.2.2.1, hB.2.2.2.2.1, by have := cb_i (S_J h).1 eo_150 (Nat.le_of_ble_eq_true rfl) rfl gy_150_4; rw [(show cF g 150 4 = p from S_f h 0 (Nat.le_of_ble_eq_true rfl))] at this; exact this, by have := cb_i (S_J h).1 eo_150 (Nat.le_of_ble_eq_true rfl) rfl gy_150_1; rw [(show cF g 150 1 = m from S_f h 1 (Nat.le_of_ble_eq_true rfl))] at this; exact this, fun q hq => tH_b hB.2.2.2.2.2 (by have := hB.2.2.2.2.1; omega) hq⟩
theorem sg150_run {d : Nat} {g0 g : pH} {B : tC} {n : Int} (hB : tB150 g0 B n) {p m f : Int} {c : tC} (hS : tS150 g0 g p m f c) {P : Option pv × pH → Prop} (hP : P (some (oI (tH B n p)), g)) {lv : List (Nat × pv)} (l0 : px_lg lv 0 = some (pvR 150)) : t_X d 97 0 lv [] g P := by
  obtain ⟨hn0, hn1, hp1, hm1, hH⟩ := cm150 hB hS
  refine t_0 zsg150_0 rfl (ld_a l0) ?_
  refine t_0 zsg150_1 rfl (pq_cv eo_150 rfl (show cF g 150 4 = p from S_f hS 0 (Nat.le_of_ble_eq_true rfl))) ?_
  show t_X d 97 4 lv [oI (p)] g P
  refine t_0 zsg150_4 rfl (ld_a l0) ?_
  refine t_0 zsg150_5 rfl (pq_cv eo_150 rfl (ce150 hB hS : cF g 150 3 = n)) ?_
  show t_X d 97 8 lv [oI (n), oI (p)] g P
  refine tb_ge zsg150_8 (by decide) ⟨by omega, by omega⟩ ⟨by omega, by omega⟩ (fun c1 => ?_) (fun c1 => ?_)
  · show t_X d 97 23 lv [] g P
    refine t_0 zsg150_23 rfl rfl ?_
    refine t_5 zsg150_24 rfl rfl ?_
    rw [tH_e (by omega)] at hP
    exact hP
  · show t_X d 97 11 lv [] g P
    refine t_0 zsg150_11 rfl (ld_a l0) ?_
    refine t_0 zsg150_12 rfl (pq_rv eo_150 rfl (cr150 hB hS)) ?_
    show t_X d 97 15 lv [pvR 1] g P
    refine t_0 zsg150_15 rfl (ld_a l0) ?_
    refine t_0 zsg150_16 rfl (pq_cv eo_150 rfl (show cF g 150 4 = p from S_f hS 0 (Nat.le_of_ble_eq_true rfl))) ?_
    show t_X d 97 19 lv [oI (p), pvR 1] g P
    have r2 := pb_a (S_J hS).1 ez_1 (j := p.toNat) (by omega) gu_1 (cb150 hB hS : fA g 1 = B)
    refine t_0 zsg150_19 rfl (pq_iv ez_1 rfl ⟨by omega, by omega⟩ (cb150 hB hS : fA g 1 = B)) ?_
    show t_X d 97 20 lv [oI (B p.toNat)] g P
    refine t_1 zsg150_20 rfl (pb_goto (pc := 20) (by decide)) ?_
    show t_X d 97 24 lv [oI (B p.toNat)] g P
    refine t_5 zsg150_24 rfl rfl ?_
    rw [tH_i (by omega)] at hP
    exact hP
theorem fl150_run {d : Nat} {g0 g : pH} {B : tC} {n : Int} (hB : tB150 g0 B n) {p m : Int} {c : tC} (hS : tS150 g0 g p m 0 c) {a b : Int} (ha : 1 ≤ a ∧ a ≤ 6) (hb : 0 ≤ b ∧ b ≤ 122) {P : Option pv × pH → Prop} (hP : ∀ g1 : pH, tS150 g0 g1 p m (-1000 * a - b) c → P (none, g1)) {lv : List (Nat × pv)} (l0 : px_lg lv 0 = some (pvR 150)) (l1 : px_lg lv 1 = some (oI a)) (l2 : px_lg lv 2 = some (oI b)) : t_X d 87 0 lv [] g P := by
  obtain ⟨hn0, hn1, hp1, hm1, hH⟩ := cm150 hB hS
  refine t_0 zfl150_0 rfl (ld_a l0) ?_
  refine t_0 zfl150_1 rfl (pq_cv eo_150 rfl (show cF g 150 5 = 0 from S_f hS 2 (Nat.le_of_ble_eq_true rfl))) ?_
  show t_X d 87 4 lv [oI 0] g P
  refine tz_ne zfl150_4 (by decide) ⟨by omega, by omega⟩ (fun c1 => absurd c1 (by omega)) (fun c1 => ?_)
  show t_X d 87 7 lv [] g P
  refine t_0 zfl150_7 rfl (ld_a l0) ?_
  refine t_0 zfl150_8 rfl (pq_s (by decide)) ?_
  refine t_0 zfl150_11 rfl (ld_i l1) ?_
  refine t_0 zfl150_12 rfl pq_mul ?_
  refine t_0 zfl150_13 rfl (ld_i l2) ?_
  refine t_0 zfl150_14 rfl pq_sub ?_
  refine ts_f (n := 2) rfl rfl (by decide) zfl150_15 rfl eo_150 hS wt_tW150_150_5 gy_150_5 (by decide) ⟨by omega, by omega⟩ (fun g2 hS2 => ?_)
  replace hS2 : tS150 g0 g2 p m ((-1000 * a) - b) c := hS2
  show t_X d 87 18 lv [] g2 P
  refine t_5 zfl150_18 rfl rfl ?_
  exact hP _ hS2
theorem fn150_run {d : Nat} {g0 g : pH} {B : tC} {n : Int} (hB : tB150 g0 B n) {p m f : Int} {c : tC} (hS : tS150 g0 g p m f c) (hf : f < 0) (hf2 : -9999 ≤ f) {a b : Int} {P : Option pv × pH → Prop} (hP : P (none, g)) {lv : List (Nat × pv)} (l0 : px_lg lv 0 = some (pvR 150)) : t_X d 87 0 lv [] g P := by
  obtain ⟨hn0, hn1, hp1, hm1, hH⟩ := cm150 hB hS
  refine t_0 zfl150_0 rfl (ld_a l0) ?_
  refine t_0 zfl150_1 rfl (pq_cv eo_150 rfl (show cF g 150 5 = f from S_f hS 2 (Nat.le_of_ble_eq_true rfl))) ?_
  show t_X d 87 4 lv [oI (f)] g P
  refine tz_ne zfl150_4 (by decide) ⟨by omega, by omega⟩ (fun c1 => ?_) (fun c1 => absurd c1 (by omega))
  show t_X d 87 18 lv [] g P
  refine t_5 zfl150_18 rfl rfl ?_
  exact hP
theorem ap150_run {d : Nat} {g0 g : pH} {B : tC} {n : Int} (hB : tB150 g0 B n) {p m f : Int} {c : tC} (hS : tS150 g0 g p m f c) {e : Int} (he : -40 ≤ e ∧ e ≤ 90) (hm : m < 540) {P : Option pv × pH → Prop} (h1 : m < 60 → ∀ g1 : pH, tS150 g0 g1 p (m + 1) f (updI c m.toNat e) → P (none, g1)) (h2 : 60 ≤ m → ∀ g1 : pH, tS150 g0 g1 p (m + 1) f c → P (none, g1)) {lv : List (Nat × pv)} (l0 : px_lg lv 0 = some (pvR 150)) (l1 : px_lg lv 1 = some (oI e)) : t_X d 86 0 lv [] g P := by
  obtain ⟨hn0, hn1, hp1, hm1, hH⟩ := cm150 hB hS
  refine t_0 zap150_0 rfl (ld_a l0) ?_
  refine t_0 zap150_1 rfl (pq_cv eo_150 rfl (show cF g 150 1 = m from S_f hS 1 (Nat.le_of_ble_eq_true rfl))) ?_
  show t_X d 86 4 lv [oI (m)] g P
  refine t_0 zap150_4 rfl (pq_b (by decide)) ?_
  refine tb_ge zap150_6 (by decide) ⟨by omega, by omega⟩ ⟨by omega, by omega⟩ (fun c1 => ?_) (fun c1 => ?_)
  · show t_X d 86 19 lv [] g P
    refine t_0 zap150_19 rfl (ld_a l0) ?_
    refine t_0 zap150_20 rfl rfl ?_
    refine t_0 zap150_21 rfl (pq_cv eo_150 rfl (show cF g 150 1 = m from S_f hS 1 (Nat.le_of_ble_eq_true rfl))) ?_
    show t_X d 86 24 lv [oI (m), pvR 150] g P
    refine t_0 zap150_24 rfl rfl ?_
    refine t_0 zap150_25 rfl pq_add ?_
    refine ts_f (n := 1) rfl rfl (by decide) zap150_26 rfl eo_150 hS wt_tW150_150_1 gy_150_1 (by decide) ⟨by omega, by omega⟩ (fun g2 hS2 => ?_)
    replace hS2 : tS150 g0 g2 p (m + 1) f c := hS2
    show t_X d 86 29 lv [] g2 P
    refine t_5 zap150_29 rfl rfl ?_
    exact h2 (by omega) _ hS2
  · show t_X d 86 9 lv [] g P
    refine t_0 zap150_9 rfl (ld_a l0) ?_
    refine t_0 zap150_10 rfl (cq_150_0 (S_J hS).1) ?_
    show t_X d 86 13 lv [pvR 151] g P
    refine t_0 zap150_13 rfl (ld_a l0) ?_
    refine t_0 zap150_14 rfl (pq_cv eo_150 rfl (show cF g 150 1 = m from S_f hS 1 (Nat.le_of_ble_eq_true rfl))) ?_
    show t_X d 86 17 lv [oI (m), pvR 151] g P
    refine t_0 zap150_17 rfl (ld_i l1) ?_
    refine ts_a (n := 0) rfl rfl (by decide) zap150_18 hS ez_151 rfl wu_tW150_151 gu_151 (by decide) ⟨by omega, by omega⟩ ⟨by omega, by omega⟩ (fun g3 hS3 => ?_)
    replace hS3 : tS150 g0 g3 p m f (updI c m.toNat e) := hS3
    show t_X d 86 19 lv [] g3 P
    refine t_0 zap150_19 rfl (ld_a l0) ?_
    refine t_0 zap150_20 rfl rfl ?_
    refine t_0 zap150_21 rfl (pq_cv eo_150 rfl (show cF g3 150 1 = m from S_f hS3 1 (Nat.le_of_ble_eq_true rfl))) ?_
    show t_X d 86 24 lv [oI (m), pvR 150] g3 P
    refine t_0 zap150_24 rfl rfl ?_
    refine t_0 zap150_25 rfl pq_add ?_
    refine ts_f (n := 1) rfl rfl (by decide) zap150_26 rfl eo_150 hS3 wt_tW150_150_1 gy_150_1 (by decide) ⟨by omega, by omega⟩ (fun g4 hS4 => ?_)
    replace hS4 : tS150 g0 g4 p (m + 1) f (updI c m.toNat e) := hS4
    show t_X d 86 29 lv [] g4 P
    refine t_5 zap150_29 rfl rfl ?_
    exact h1 (by omega) _ hS4
theorem sl150_run {d : Nat} {g0 g : pH} {B : tC} {n : Int} (hB : tB150 g0 B n) {p m f : Int} {c : tC} (hS : tS150 g0 g p m f c) {k : Int} (hk : -2147483648 ≤ k ∧ k ≤ 2147483647) {P : Option pv × pH → Prop} (h1 : 0 ≤ k ∧ k < m ∧ k < 60 → P (some (oI (c k.toNat)), g)) (h0 : ¬ (0 ≤ k ∧ k < m ∧ k < 60) → P (some (oI (-1)), g)) {lv : List (Nat × pv)} (l0 : px_lg lv 0 = some (pvR 150)) (l1 : px_lg lv 1 = some (oI k)) : t_X d 98 0 lv [] g P := by
  obtain ⟨hn0, hn1, hp1, hm1, hH⟩ := cm150 hB hS
  refine t_0 zsl150_0 rfl (ld_i l1) ?_
  refine tz_lt zsl150_1 (by decide) ⟨by omega, by omega⟩ (fun c1 => ?_) (fun c1 => ?_)
  · show t_X d 98 27 lv [] g P
    refine t_0 zsl150_27 rfl rfl ?_
    refine t_5 zsl150_28 rfl rfl ?_
    exact h0 (by omega)
  · show t_X d 98 4 lv [] g P
    refine t_0 zsl150_4 rfl (ld_i l1) ?_
    refine t_0 zsl150_5 rfl (ld_a l0) ?_
    refine t_0 zsl150_6 rfl (pq_cv eo_150 rfl (show cF g 150 1 = m from S_f hS 1 (Nat.le_of_ble_eq_true rfl))) ?_
    show t_X d 98 9 lv [oI (m), oI (k)] g P
    refine tb_ge zsl150_9 (by decide) ⟨by omega, by omega⟩ ⟨by omega, by omega⟩ (fun c2 => ?_) (fun c2 => ?_)
    · show t_X d 98 27 lv [] g P
      refine t_0 zsl150_27 rfl rfl ?_
      refine t_5 zsl150_28 rfl rfl ?_
      exact h0 (by omega)
    · show t_X d 98 12 lv [] g P
      refine t_0 zsl150_12 rfl (ld_i l1) ?_
      refine t_0 zsl150_13 rfl (pq_b (by decide)) ?_
      refine tb_ge zsl150_15 (by decide) ⟨by omega, by omega⟩ ⟨by omega, by omega⟩ (fun c3 => ?_) (fun c3 => ?_)
      · show t_X d 98 27 lv [] g P
        refine t_0 zsl150_27 rfl rfl ?_
        refine t_5 zsl150_28 rfl rfl ?_
        exact h0 (by omega)
      · show t_X d 98 18 lv [] g P
        refine t_0 zsl150_18 rfl (ld_a l0) ?_
        refine t_0 zsl150_19 rfl (cq_150_0 (S_J hS).1) ?_
        show t_X d 98 22 lv [pvR 151] g P
        refine t_0 zsl150_22 rfl (ld_i l1) ?_
        have r4 := pb_a (S_J hS).1 ez_151 (j := k.toNat) (by omega) gu_151 (show fA g 151 = c from S_a hS 0 (Nat.le_of_ble_eq_true rfl))
        refine t_0 zsl150_23 rfl (pq_iv ez_151 rfl ⟨by omega, by omega⟩ (show fA g 151 = c from S_a hS 0 (Nat.le_of_ble_eq_true rfl))) ?_
        show t_X d 98 24 lv [oI (c k.toNat)] g P
        refine t_1 zsl150_24 rfl (pb_goto (pc := 24) (by decide)) ?_
        show t_X d 98 28 lv [oI (c k.toNat)] g P
        refine t_5 zsl150_28 rfl rfl ?_
        exact h1 (by omega)
set_option maxHeartbeats 2000000 in
theorem nu150_run {d : Nat} (hd : 1 ≤ d) {g0 g : pH} {B : tC} {n : Int} (hB : tB150 g0 B n) {p m : Int} {c : tC} (hS : tS150 g0 g p m 0 c) {P : Option pv × pH → Prop} (hF : ∀ (g1 : pH) (f q v : Int), tS150 g0 g1 q m f c → tNf (tH B n) p f → P (some (oI v), g1)) (hO : ∀ (g1 : pH) (v q : Int), tS150 g0 g1 q m 0 c → tNu (tH B n) p v q → P (some (oI v), g1)) {lv : List (Nat × pv)} (l0 : px_lg lv 0 = some (pvR 150)) : t_X d 93 0 lv [] g P := by
  obtain ⟨hn0, hn1, hp1, hm1, hH⟩ := cm150 hB hS
  refine t_0 znu150_0 rfl (ld_a l0) ?_
  refine t_0 znu150_1 rfl (pq_cv eo_150 rfl (show cF g 150 4 = p from S_f hS 0 (Nat.le_of_ble_eq_true rfl))) ?_
  show t_X d 93 4 lv [oI (p)] g P
  refine t_2 znu150_4 rfl (w := (px_s1 lv 1 (oI (p)), [])) rfl ?_
  replace l0 : px_lg (px_s1 lv 1 (oI (p))) 0 = some (pvR 150) := s1_ne (by decide) (fun _ => rfl) l0
  have l1 : px_lg (px_s1 lv 1 (oI (p))) 1 = some (oI (p)) := s1_eq
  generalize px_s1 lv 1 (oI (p)) = lv1 at l0 l1 ⊢
  show t_X d 93 5 lv1 [] g P
  refine t_0 znu150_5 rfl rfl ?_
  refine t_2 znu150_6 rfl (w := (px_s1 lv1 2 (oI 0), [])) rfl ?_
  replace l0 : px_lg (px_s1 lv1 2 (oI 0)) 0 = some (pvR 150) := s1_ne (by decide) (fun _ => rfl) l0
  replace l1 : px_lg (px_s1 lv1 2 (oI 0)) 1 = some (oI (p)) := s1_ne (by decide) (fun _ => rfl) l1
  have l2 : px_lg (px_s1 lv1 2 (oI 0)) 2 = some (oI 0) := s1_eq
  generalize px_s1 lv1 2 (oI 0) = lv2 at l0 l1 l2 ⊢
  show t_X d 93 7 lv2 [] g P
  refine t_0 znu150_7 rfl rfl ?_
  refine t_2 znu150_8 rfl (w := (px_s1 lv2 3 (oI 0), [])) rfl ?_
  replace l0 : px_lg (px_s1 lv2 3 (oI 0)) 0 = some (pvR 150) := s1_ne (by decide) (fun _ => rfl) l0
  replace l1 : px_lg (px_s1 lv2 3 (oI 0)) 1 = some (oI (p)) := s1_ne (by decide) (fun _ => rfl) l1
  replace l2 : px_lg (px_s1 lv2 3 (oI 0)) 2 = some (oI 0) := s1_ne (by decide) (fun _ => rfl) l2
  have l3 : px_lg (px_s1 lv2 3 (oI 0)) 3 = some (oI 0) := s1_eq
  generalize px_s1 lv2 3 (oI 0) = lv3 at l0 l1 l2 l3 ⊢
  show t_X d 93 9 lv3 [] g P
  refine t_0 znu150_9 rfl (ld_i l3) ?_
  refine t_0 znu150_10 rfl rfl ?_
  refine tb_ge znu150_11 (by decide) ⟨by omega, by omega⟩ ⟨by omega, by omega⟩ (fun c4 => absurd c4 (by omega)) (fun c4 => ?_)
  show t_X d 93 14 lv3 [] g P
  refine t_0 znu150_14 rfl (ld_a l0) ?_
  refine t_3 znu150_15 rfl (ar := ([pvR 150], [])) (pcal_w (as := []) rfl rfl rfl eo_150) ⟨by omega, Nat.le_of_ble_eq_true rfl, Nat.le_of_ble_eq_true rfl, rfl⟩ ?_
  refine sg150_run hB hS ?_ rfl
  have b5 := hH p (by omega)
  have z5 := tH_n (B := B) (n := n) (p := p)
  show t_X d 93 18 lv3 [oI (tH B n p)] g P
  refine t_0 znu150_18 rfl (pq_b (by decide)) ?_
  refine t_0 znu150_20 rfl (pq_b (by decide)) ?_
  refine t_3 znu150_22 rfl (ar := ([oI (tH B n p), oI 48, oI 57], [])) (pcal_s ⟨Or.inr rfl, rfl, Nat.le_of_ble_eq_true rfl⟩) ⟨by omega, Nat.le_of_ble_eq_true rfl, Nat.le_of_ble_eq_true rfl, rfl⟩ ?_
  refine ii_run ⟨by omega, by omega⟩ ⟨by omega, by omega⟩ ⟨by omega, by omega⟩ rfl rfl rfl (fun t6 => ?_) (fun t6 => ?_)
  · show t_X d 93 25 lv3 [oI 1] g P
    refine tz_eq znu150_25 (by decide) ⟨by omega, by omega⟩ (fun c7 => absurd c7 (by omega)) (fun c7 => ?_)
    show t_X d 93 28 lv3 [] g P
    refine t_0 znu150_28 rfl (pq_b (by decide)) ?_
    refine t_0 znu150_30 rfl (ld_i l2) ?_
    refine t_0 znu150_31 rfl pq_mul ?_
    refine t_0 znu150_32 rfl (ld_a l0) ?_
    refine t_3 znu150_33 rfl (ar := ([pvR 150], [oI (10 * 0)])) (pcal_w (as := []) rfl rfl rfl eo_150) ⟨by omega, Nat.le_of_ble_eq_true rfl, Nat.le_of_ble_eq_true rfl, rfl⟩ ?_
    refine sg150_run hB hS ?_ rfl
    show t_X d 93 36 lv3 [oI (tH B n p), oI (10 * 0)] g P
    refine t_0 znu150_36 rfl pq_add ?_
    refine t_0 znu150_37 rfl (pq_b (by decide)) ?_
    refine t_0 znu150_39 rfl pq_sub ?_
    refine t_2 znu150_40 rfl (w := (px_s1 lv3 2 (oI (((10 * 0) + (tH B n p)) - 48)), [])) rfl ?_
    replace l0 : px_lg (px_s1 lv3 2 (oI (((10 * 0) + (tH B n p)) - 48))) 0 = some (pvR 150) := s1_ne (by decide) (fun _ => rfl) l0
    replace l1 : px_lg (px_s1 lv3 2 (oI (((10 * 0) + (tH B n p)) - 48))) 1 = some (oI (p)) := s1_ne (by decide) (fun _ => rfl) l1
    replace l3 : px_lg (px_s1 lv3 2 (oI (((10 * 0) + (tH B n p)) - 48))) 3 = some (oI 0) := s1_ne (by decide) (fun _ => rfl) l3
    have l2 : px_lg (px_s1 lv3 2 (oI (((10 * 0) + (tH B n p)) - 48))) 2 = some (oI (((10 * 0) + (tH B n p)) - 48)) := s1_eq
    generalize px_s1 lv3 2 (oI (((10 * 0) + (tH B n p)) - 48)) = lv8 at l0 l1 l3 l2 ⊢
    show t_X d 93 41 lv8 [] g P
    refine t_0 znu150_41 rfl (ld_a l0) ?_
    refine t_0 znu150_42 rfl rfl ?_
    refine t_0 znu150_43 rfl (pq_cv eo_150 rfl (show cF g 150 4 = p from S_f hS 0 (Nat.le_of_ble_eq_true rfl))) ?_
    show t_X d 93 46 lv8 [oI (p), pvR 150] g P
    refine t_0 znu150_46 rfl rfl ?_
    refine t_0 znu150_47 rfl pq_add ?_
    refine ts_f (n := 0) rfl rfl (by decide) znu150_48 rfl eo_150 hS wt_tW150_150_4 gy_150_4 (by decide) ⟨by omega, by omega⟩ (fun g9 hS9 => ?_)
    replace hS9 : tS150 g0 g9 (p + 1) m 0 c := hS9
    show t_X d 93 51 lv8 [] g9 P
    refine t_2 znu150_51 rfl (w := (px_s1 lv8 3 (oI 1), [])) (pq_inc l3 (by decide)) ?_
    replace l0 : px_lg (px_s1 lv8 3 (oI 1)) 0 = some (pvR 150) := s1_ne (by decide) (fun _ => rfl) l0
    replace l1 : px_lg (px_s1 lv8 3 (oI 1)) 1 = some (oI (p)) := s1_ne (by decide) (fun _ => rfl) l1
    replace l2 : px_lg (px_s1 lv8 3 (oI 1)) 2 = some (oI (((10 * 0) + (tH B n p)) - 48)) := s1_ne (by decide) (fun _ => rfl) l2
    have l3 : px_lg (px_s1 lv8 3 (oI 1)) 3 = some (oI 1) := s1_eq
    generalize px_s1 lv8 3 (oI 1) = lv10 at l0 l1 l2 l3 ⊢
    show t_X d 93 54 lv10 [] g9 P
    refine t_1 znu150_54 rfl (pb_goto (pc := 54) (by decide)) ?_
    show t_X d 93 9 lv10 [] g9 P
    refine t_0 znu150_9 rfl (ld_i l3) ?_
    refine t_0 znu150_10 rfl rfl ?_
    refine tb_ge znu150_11 (by decide) ⟨by omega, by omega⟩ ⟨by omega, by omega⟩ (fun c11 => absurd c11 (by omega)) (fun c11 => ?_)
    show t_X d 93 14 lv10 [] g9 P
    refine t_0 znu150_14 rfl (ld_a l0) ?_
    refine t_3 znu150_15 rfl (ar := ([pvR 150], [])) (pcal_w (as := []) rfl rfl rfl eo_150) ⟨by omega, Nat.le_of_ble_eq_true rfl, Nat.le_of_ble_eq_true rfl, rfl⟩ ?_
    refine sg150_run hB hS9 ?_ rfl
    have b12 := hH (p + 1) (by omega)
    have z12 := tH_n (B := B) (n := n) (p := p + 1)
    show t_X d 93 18 lv10 [oI (tH B n (p + 1))] g9 P
    refine t_0 znu150_18 rfl (pq_b (by decide)) ?_
    refine t_0 znu150_20 rfl (pq_b (by decide)) ?_
    refine t_3 znu150_22 rfl (ar := ([oI (tH B n (p + 1)), oI 48, oI 57], [])) (pcal_s ⟨Or.inr rfl, rfl, Nat.le_of_ble_eq_true rfl⟩) ⟨by omega, Nat.le_of_ble_eq_true rfl, Nat.le_of_ble_eq_true rfl, rfl⟩ ?_
    refine ii_run ⟨by omega, by omega⟩ ⟨by omega, by omega⟩ ⟨by omega, by omega⟩ rfl rfl rfl (fun t13 => ?_) (fun t13 => ?_)
    · show t_X d 93 25 lv10 [oI 1] g9 P
      refine tz_eq znu150_25 (by decide) ⟨by omega, by omega⟩ (fun c14 => absurd c14 (by omega)) (fun c14 => ?_)
      show t_X d 93 28 lv10 [] g9 P
      refine t_0 znu150_28 rfl (pq_b (by decide)) ?_
      refine t_0 znu150_30 rfl (ld_i l2) ?_
      refine t_0 znu150_31 rfl pq_mul ?_
      refine t_0 znu150_32 rfl (ld_a l0) ?_
      refine t_3 znu150_33 rfl (ar := ([pvR 150], [oI (10 * (((10 * 0) + (tH B n p)) - 48))])) (pcal_w (as := []) rfl rfl rfl eo_150) ⟨by omega, Nat.le_of_ble_eq_true rfl, Nat.le_of_ble_eq_true rfl, rfl⟩ ?_
      refine sg150_run hB hS9 ?_ rfl
      show t_X d 93 36 lv10 [oI (tH B n (p + 1)), oI (10 * (((10 * 0) + (tH B n p)) - 48))] g9 P
      refine t_0 znu150_36 rfl pq_add ?_
      refine t_0 znu150_37 rfl (pq_b (by decide)) ?_
      refine t_0 znu150_39 rfl pq_sub ?_
      refine t_2 znu150_40 rfl (w := (px_s1 lv10 2 (oI (((10 * (((10 * 0) + (tH B n p)) - 48)) + (tH B n (p + 1))) - 48)), [])) rfl ?_
      replace l0 : px_lg (px_s1 lv10 2 (oI (((10 * (((10 * 0) + (tH B n p)) - 48)) + (tH B n (p + 1))) - 48))) 0 = some (pvR 150) := s1_ne (by decide) (fun _ => rfl) l0
      replace l1 : px_lg (px_s1 lv10 2 (oI (((10 * (((10 * 0) + (tH B n p)) - 48)) + (tH B n (p + 1))) - 48))) 1 = some (oI (p)) := s1_ne (by decide) (fun _ => rfl) l1
      replace l3 : px_lg (px_s1 lv10 2 (oI (((10 * (((10 * 0) + (tH B n p)) - 48)) + (tH B n (p + 1))) - 48))) 3 = some (oI 1) := s1_ne (by decide) (fun _ => rfl) l3
      have l2 : px_lg (px_s1 lv10 2 (oI (((10 * (((10 * 0) + (tH B n p)) - 48)) + (tH B n (p + 1))) - 48))) 2 = some (oI (((10 * (((10 * 0) + (tH B n p)) - 48)) + (tH B n (p + 1))) - 48)) := s1_eq
      generalize px_s1 lv10 2 (oI (((10 * (((10 * 0) + (tH B n p)) - 48)) + (tH B n (p + 1))) - 48)) = lv15 at l0 l1 l3 l2 ⊢
      show t_X d 93 41 lv15 [] g9 P
      refine t_0 znu150_41 rfl (ld_a l0) ?_
      refine t_0 znu150_42 rfl rfl ?_
      refine t_0 znu150_43 rfl (pq_cv eo_150 rfl (show cF g9 150 4 = p + 1 from S_f hS9 0 (Nat.le_of_ble_eq_true rfl))) ?_
      show t_X d 93 46 lv15 [oI (p + 1), pvR 150] g9 P
      refine t_0 znu150_46 rfl rfl ?_
      refine t_0 znu150_47 rfl pq_add ?_
      refine ts_f (n := 0) rfl rfl (by decide) znu150_48 rfl eo_150 hS9 wt_tW150_150_4 gy_150_4 (by decide) ⟨by omega, by omega⟩ (fun g16 hS16 => ?_)
      replace hS16 : tS150 g0 g16 ((p + 1) + 1) m 0 c := hS16
      show t_X d 93 51 lv15 [] g16 P
      refine t_2 znu150_51 rfl (w := (px_s1 lv15 3 (oI 2), [])) (pq_inc l3 (by decide)) ?_
      replace l0 : px_lg (px_s1 lv15 3 (oI 2)) 0 = some (pvR 150) := s1_ne (by decide) (fun _ => rfl) l0
      replace l1 : px_lg (px_s1 lv15 3 (oI 2)) 1 = some (oI (p)) := s1_ne (by decide) (fun _ => rfl) l1
      replace l2 : px_lg (px_s1 lv15 3 (oI 2)) 2 = some (oI (((10 * (((10 * 0) + (tH B n p)) - 48)) + (tH B n (p + 1))) - 48)) := s1_ne (by decide) (fun _ => rfl) l2
      have l3 : px_lg (px_s1 lv15 3 (oI 2)) 3 = some (oI 2) := s1_eq
      generalize px_s1 lv15 3 (oI 2) = lv17 at l0 l1 l2 l3 ⊢
      show t_X d 93 54 lv17 [] g16 P
      refine t_1 znu150_54 rfl (pb_goto (pc := 54) (by decide)) ?_
      show t_X d 93 9 lv17 [] g16 P
      refine t_0 znu150_9 rfl (ld_i l3) ?_
      refine t_0 znu150_10 rfl rfl ?_
      refine tb_ge znu150_11 (by decide) ⟨by omega, by omega⟩ ⟨by omega, by omega⟩ (fun c18 => ?_) (fun c18 => absurd c18 (by omega))
      show t_X d 93 57 lv17 [] g16 P
      refine t_0 znu150_57 rfl (ld_a l0) ?_
      refine t_0 znu150_58 rfl (pq_cv eo_150 rfl (show cF g16 150 4 = (p + 1) + 1 from S_f hS16 0 (Nat.le_of_ble_eq_true rfl))) ?_
      show t_X d 93 61 lv17 [oI ((p + 1) + 1)] g16 P
      refine t_0 znu150_61 rfl (ld_i l1) ?_
      refine tb_ne znu150_62 (by decide) ⟨by omega, by omega⟩ ⟨by omega, by omega⟩ (fun c19 => ?_) (fun c19 => absurd c19 (by omega))
      show t_X d 93 77 lv17 [] g16 P
      refine t_0 znu150_77 rfl (ld_i l2) ?_
      refine t_0 znu150_78 rfl (pq_b (by decide)) ?_
      refine tb_lt znu150_80 (by decide) ⟨by omega, by omega⟩ ⟨by omega, by omega⟩ (fun c20 => ?_) (fun c20 => ?_)
      · show t_X d 93 89 lv17 [] g16 P
        refine t_0 znu150_89 rfl (ld_i l2) ?_
        refine t_5 znu150_90 rfl rfl ?_
        refine hO _ _ _ hS16 ?_
        unfold tNu tDg
        omega
      · show t_X d 93 83 lv17 [] g16 P
        refine t_0 znu150_83 rfl (ld_a l0) ?_
        refine t_0 znu150_84 rfl rfl ?_
        refine t_0 znu150_85 rfl (ld_i l1) ?_
        refine t_3 znu150_86 rfl (ar := ([pvR 150, oI 3, oI (p)], [])) (pcal_w (as := [oI (p), oI 3]) rfl rfl rfl eo_150) ⟨by omega, Nat.le_of_ble_eq_true rfl, Nat.le_of_ble_eq_true rfl, rfl⟩ ?_
        refine fl150_run hB hS16 ⟨by omega, by omega⟩ ⟨by omega, by omega⟩ (fun g21 hS21 => ?_) rfl rfl rfl
        replace hS21 : tS150 g0 g21 ((p + 1) + 1) m (-1000 * 3 - p) c := hS21
        show t_X d 93 89 lv17 [] g21 P
        refine t_0 znu150_89 rfl (ld_i l2) ?_
        refine t_5 znu150_90 rfl rfl ?_
        exact hF _ _ _ _ hS21 (by unfold tNf tDg; omega)
    · show t_X d 93 25 lv10 [oI 0] g9 P
      refine tz_eq znu150_25 (by decide) ⟨by omega, by omega⟩ (fun c22 => ?_) (fun c22 => absurd c22 (by omega))
      show t_X d 93 57 lv10 [] g9 P
      refine t_0 znu150_57 rfl (ld_a l0) ?_
      refine t_0 znu150_58 rfl (pq_cv eo_150 rfl (show cF g9 150 4 = p + 1 from S_f hS9 0 (Nat.le_of_ble_eq_true rfl))) ?_
      show t_X d 93 61 lv10 [oI (p + 1)] g9 P
      refine t_0 znu150_61 rfl (ld_i l1) ?_
      refine tb_ne znu150_62 (by decide) ⟨by omega, by omega⟩ ⟨by omega, by omega⟩ (fun c23 => ?_) (fun c23 => absurd c23 (by omega))
      show t_X d 93 77 lv10 [] g9 P
      refine t_0 znu150_77 rfl (ld_i l2) ?_
      refine t_0 znu150_78 rfl (pq_b (by decide)) ?_
      refine tb_lt znu150_80 (by decide) ⟨by omega, by omega⟩ ⟨by omega, by omega⟩ (fun c24 => ?_) (fun c24 => absurd c24 (by omega))
      show t_X d 93 89 lv10 [] g9 P
      refine t_0 znu150_89 rfl (ld_i l2) ?_
      refine t_5 znu150_90 rfl rfl ?_
      refine hO _ _ _ hS9 ?_
      unfold tNu tDg
      omega
  · show t_X d 93 25 lv3 [oI 0] g P
    refine tz_eq znu150_25 (by decide) ⟨by omega, by omega⟩ (fun c25 => ?_) (fun c25 => absurd c25 (by omega))
    show t_X d 93 57 lv3 [] g P
    refine t_0 znu150_57 rfl (ld_a l0) ?_
    refine t_0 znu150_58 rfl (pq_cv eo_150 rfl (show cF g 150 4 = p from S_f hS 0 (Nat.le_of_ble_eq_true rfl))) ?_
    show t_X d 93 61 lv3 [oI (p)] g P
    refine t_0 znu150_61 rfl (ld_i l1) ?_
    refine tb_ne znu150_62 (by decide) ⟨by omega, by omega⟩ ⟨by omega, by omega⟩ (fun c26 => absurd c26 (by omega)) (fun c26 => ?_)
    show t_X d 93 65 lv3 [] g P
    refine t_0 znu150_65 rfl (ld_a l0) ?_
    refine t_0 znu150_66 rfl rfl ?_
    refine t_0 znu150_67 rfl (ld_a l0) ?_
    refine t_0 znu150_68 rfl (pq_cv eo_150 rfl (show cF g 150 4 = p from S_f hS 0 (Nat.le_of_ble_eq_true rfl))) ?_
    show t_X d 93 71 lv3 [oI (p), oI 1, pvR 150] g P
    refine t_3 znu150_71 rfl (ar := ([pvR 150, oI 1, oI (p)], [])) (pcal_w (as := [oI (p), oI 1]) rfl rfl rfl eo_150) ⟨by omega, Nat.le_of_ble_eq_true rfl, Nat.le_of_ble_eq_true rfl, rfl⟩ ?_
    refine fl150_run hB hS ⟨by omega, by omega⟩ ⟨by omega, by omega⟩ (fun g27 hS27 => ?_) rfl rfl rfl
    replace hS27 : tS150 g0 g27 p m (-1000 * 1 - p) c := hS27
    show t_X d 93 74 lv3 [] g27 P
    refine t_1 znu150_74 rfl (pb_goto (pc := 74) (by decide)) ?_
    show t_X d 93 89 lv3 [] g27 P
    refine t_0 znu150_89 rfl (ld_i l2) ?_
    refine t_5 znu150_90 rfl rfl ?_
    exact hF _ _ _ _ hS27 (by unfold tNf tDg; omega)
set_option maxHeartbeats 2000000 in
theorem rl150p {d : Nat} (hd : 1 ≤ d) {g0 : pH} {B : tC} {n : Int} (hB : tB150 g0 B n) {p m a z : Int} (ha : 0 ≤ a ∧ a ≤ 31 ∧ 0 ≤ z ∧ z ≤ 31 ∧ a ≤ z) (hm : 0 ≤ m ∧ m ≤ 60) {c0 : tC} {P : Option pv × pH → Prop} (hO : ∀ (g1 : pH) (c1 : tC), tS150 g0 g1 p (m + (z - a + 1)) 0 c1 → (∀ j : Nat, (j : Int) < m → c1 j = c0 j) → (∀ i : Nat, (i : Int) < z - a + 1 → m + i < 60 → c1 (m + i).toNat = a + (i : Int)) → P (none, g1)) : ∀ (y k : Nat) (g : pH) (lv : List (Nat × pv)) {c : tC}, z - a + 1 - k ≤ y → (k : Int) ≤ z - a + 1 → tS150 g0 g p (m + (k : Int)) 0 c → ((∀ j : Nat, (j : Int) < m → c j = c0 j) ∧ ∀ i : Nat, i < k → m + i < 60 → c (m + i).toNat = a + (i : Int)) → px_lg lv 0 = some (pvR 150) → px_lg lv 1 = some (oI a) → px_lg lv 2 = some (oI z) → px_lg lv 3 = some (oI 1) → px_lg lv 4 = some (oI (z - a + 1)) → px_lg lv 5 = some (oI (k : Int)) → t_X d 95 70 lv [] g P := by
  intro y
  induction y with
  | zero =>
    intro k g lv c hy hk hS hc l0 l1 l2 l3 l4 l5
    have ek0 : (k : Int) = z - a + 1 := by omega
    refine t_0 zrw150_70 rfl (ld_i l5) ?_
    refine t_0 zrw150_72 rfl (ld_i l4) ?_
    refine tb_ge zrw150_74 (by decide) ⟨by omega, by omega⟩ ⟨by omega, by omega⟩ (fun c1 => ?_) (fun c1 => absurd c1 (by omega))
    show t_X d 95 93 lv [] g P
    refine t_5 zrw150_93 rfl rfl ?_
    have ek : (k : Int) = z - a + 1 := by omega
    rw [ek] at hS
    exact hO _ _ hS hc.1 (fun i hi h6 => hc.2 i (by omega) h6)
  | succ y ih =>
    intro k g lv c hy hk hS hc l0 l1 l2 l3 l4 l5
    by_cases hkk : (k : Int) < z - a + 1
    · skip
      refine t_0 zrw150_70 rfl (ld_i l5) ?_
      refine t_0 zrw150_72 rfl (ld_i l4) ?_
      refine tb_ge zrw150_74 (by decide) ⟨by omega, by omega⟩ ⟨by omega, by omega⟩ (fun c1 => absurd c1 (by omega)) (fun c1 => ?_)
      show t_X d 95 77 lv [] g P
      refine t_0 zrw150_77 rfl (ld_a l0) ?_
      refine t_0 zrw150_78 rfl (ld_i l1) ?_
      refine t_0 zrw150_79 rfl (ld_i l5) ?_
      refine t_0 zrw150_81 rfl (ld_i l3) ?_
      refine t_0 zrw150_82 rfl pq_mul ?_
      refine t_0 zrw150_83 rfl pq_add ?_
      refine t_3 zrw150_84 rfl (ar := ([pvR 150, oI (a + ((k : Int) * 1))], [])) (pcal_w (as := [oI (a + ((k : Int) * 1))]) rfl rfl rfl eo_150) ⟨by omega, Nat.le_of_ble_eq_true rfl, Nat.le_of_ble_eq_true rfl, rfl⟩ ?_
      refine ap150_run hB hS ⟨by omega, by omega⟩ (by omega) (fun t2 g2 hS2 => ?_) (fun t2 g2 hS2 => ?_) rfl rfl
      · replace hS2 : tS150 g0 g2 p ((m + (k : Int)) + 1) 0 (updI c (m + (k : Int)).toNat (a + ((k : Int) * 1))) := hS2
        show t_X d 95 87 lv [] g2 P
        refine t_2 zrw150_87 rfl (w := (px_s1 lv 5 (oI ((k : Int) + 1)), [])) (pq_inc l5 (by decide)) ?_
        replace l0 : px_lg (px_s1 lv 5 (oI ((k : Int) + 1))) 0 = some (pvR 150) := s1_ne (by decide) (fun _ => rfl) l0
        replace l1 : px_lg (px_s1 lv 5 (oI ((k : Int) + 1))) 1 = some (oI (a)) := s1_ne (by decide) (fun _ => rfl) l1
        replace l2 : px_lg (px_s1 lv 5 (oI ((k : Int) + 1))) 2 = some (oI (z)) := s1_ne (by decide) (fun _ => rfl) l2
        replace l3 : px_lg (px_s1 lv 5 (oI ((k : Int) + 1))) 3 = some (oI 1) := s1_ne (by decide) (fun _ => rfl) l3
        replace l4 : px_lg (px_s1 lv 5 (oI ((k : Int) + 1))) 4 = some (oI (z - a + 1)) := s1_ne (by decide) (fun _ => rfl) l4
        have l5 : px_lg (px_s1 lv 5 (oI ((k : Int) + 1))) 5 = some (oI ((k : Int) + 1)) := s1_eq
        generalize px_s1 lv 5 (oI ((k : Int) + 1)) = lv3 at l0 l1 l2 l3 l4 l5 ⊢
        show t_X d 95 90 lv3 [] g2 P
        refine t_1 zrw150_90 rfl (pb_goto (pc := 90) (by decide)) ?_
        show t_X d 95 70 lv3 [] g2 P
        refine ih (k + 1) _ _ (by omega) (by omega) (show tS150 g0 g2 p (m + ((k + 1 : Nat) : Int)) 0 (updI c (m + (k : Int)).toNat (a + ((k : Int) * 1))) by rw [show m + ((k + 1 : Nat) : Int) = m + (k : Int) + 1 by omega]; exact hS2) ⟨fun j hj => ?_, fun i hi h6 => ?_⟩ l0 l1 l2 l3 l4 l5
        · unfold updI
          rw [if_neg (by omega)]
          exact hc.1 j hj
        · unfold updI
          by_cases e : i = k
          · subst e; rw [if_pos rfl]; omega
          · rw [if_neg (by omega)]; exact hc.2 i (by omega) h6
      · replace hS2 : tS150 g0 g2 p ((m + (k : Int)) + 1) 0 c := hS2
        show t_X d 95 87 lv [] g2 P
        refine t_2 zrw150_87 rfl (w := (px_s1 lv 5 (oI ((k : Int) + 1)), [])) (pq_inc l5 (by decide)) ?_
        replace l0 : px_lg (px_s1 lv 5 (oI ((k : Int) + 1))) 0 = some (pvR 150) := s1_ne (by decide) (fun _ => rfl) l0
        replace l1 : px_lg (px_s1 lv 5 (oI ((k : Int) + 1))) 1 = some (oI (a)) := s1_ne (by decide) (fun _ => rfl) l1
        replace l2 : px_lg (px_s1 lv 5 (oI ((k : Int) + 1))) 2 = some (oI (z)) := s1_ne (by decide) (fun _ => rfl) l2
        replace l3 : px_lg (px_s1 lv 5 (oI ((k : Int) + 1))) 3 = some (oI 1) := s1_ne (by decide) (fun _ => rfl) l3
        replace l4 : px_lg (px_s1 lv 5 (oI ((k : Int) + 1))) 4 = some (oI (z - a + 1)) := s1_ne (by decide) (fun _ => rfl) l4
        have l5 : px_lg (px_s1 lv 5 (oI ((k : Int) + 1))) 5 = some (oI ((k : Int) + 1)) := s1_eq
        generalize px_s1 lv 5 (oI ((k : Int) + 1)) = lv4 at l0 l1 l2 l3 l4 l5 ⊢
        show t_X d 95 90 lv4 [] g2 P
        refine t_1 zrw150_90 rfl (pb_goto (pc := 90) (by decide)) ?_
        show t_X d 95 70 lv4 [] g2 P
        refine ih (k + 1) _ _ (by omega) (by omega) (show tS150 g0 g2 p (m + ((k + 1 : Nat) : Int)) 0 c by rw [show m + ((k + 1 : Nat) : Int) = m + (k : Int) + 1 by omega]; exact hS2) ⟨fun j hj => ?_, fun i hi h6 => ?_⟩ l0 l1 l2 l3 l4 l5
        · exact hc.1 j hj
        · exact hc.2 i (by omega) h6
    · skip
      refine t_0 zrw150_70 rfl (ld_i l5) ?_
      refine t_0 zrw150_72 rfl (ld_i l4) ?_
      refine tb_ge zrw150_74 (by decide) ⟨by omega, by omega⟩ ⟨by omega, by omega⟩ (fun c1 => ?_) (fun c1 => absurd c1 (by omega))
      show t_X d 95 93 lv [] g P
      refine t_5 zrw150_93 rfl rfl ?_
      have ek : (k : Int) = z - a + 1 := by omega
      rw [ek] at hS
      exact hO _ _ hS hc.1 (fun i hi h6 => hc.2 i (by omega) h6)
set_option maxHeartbeats 2000000 in
theorem rl150m {d : Nat} (hd : 1 ≤ d) {g0 : pH} {B : tC} {n : Int} (hB : tB150 g0 B n) {p m a z : Int} (ha : 0 ≤ a ∧ a ≤ 31 ∧ 0 ≤ z ∧ z ≤ 31 ∧ z < a) (hm : 0 ≤ m ∧ m ≤ 60) {c0 : tC} {P : Option pv × pH → Prop} (hO : ∀ (g1 : pH) (c1 : tC), tS150 g0 g1 p (m + (a - z + 1)) 0 c1 → (∀ j : Nat, (j : Int) < m → c1 j = c0 j) → (∀ i : Nat, (i : Int) < a - z + 1 → m + i < 60 → c1 (m + i).toNat = a - (i : Int)) → P (none, g1)) : ∀ (y k : Nat) (g : pH) (lv : List (Nat × pv)) {c : tC}, a - z + 1 - k ≤ y → (k : Int) ≤ a - z + 1 → tS150 g0 g p (m + (k : Int)) 0 c → ((∀ j : Nat, (j : Int) < m → c j = c0 j) ∧ ∀ i : Nat, i < k → m + i < 60 → c (m + i).toNat = a - (i : Int)) → px_lg lv 0 = some (pvR 150) → px_lg lv 1 = some (oI a) → px_lg lv 2 = some (oI z) → px_lg lv 3 = some (oI (-1)) → px_lg lv 4 = some (oI (a - z + 1)) → px_lg lv 5 = some (oI (k : Int)) → t_X d 95 70 lv [] g P := by
  intro y
  induction y with
  | zero =>
    intro k g lv c hy hk hS hc l0 l1 l2 l3 l4 l5
    have ek0 : (k : Int) = a - z + 1 := by omega
    refine t_0 zrw150_70 rfl (ld_i l5) ?_
    refine t_0 zrw150_72 rfl (ld_i l4) ?_
    refine tb_ge zrw150_74 (by decide) ⟨by omega, by omega⟩ ⟨by omega, by omega⟩ (fun c1 => ?_) (fun c1 => absurd c1 (by omega))
    show t_X d 95 93 lv [] g P
    refine t_5 zrw150_93 rfl rfl ?_
    have ek : (k : Int) = a - z + 1 := by omega
    rw [ek] at hS
    exact hO _ _ hS hc.1 (fun i hi h6 => hc.2 i (by omega) h6)
  | succ y ih =>
    intro k g lv c hy hk hS hc l0 l1 l2 l3 l4 l5
    by_cases hkk : (k : Int) < a - z + 1
    · skip
      refine t_0 zrw150_70 rfl (ld_i l5) ?_
      refine t_0 zrw150_72 rfl (ld_i l4) ?_
      refine tb_ge zrw150_74 (by decide) ⟨by omega, by omega⟩ ⟨by omega, by omega⟩ (fun c1 => absurd c1 (by omega)) (fun c1 => ?_)
      show t_X d 95 77 lv [] g P
      refine t_0 zrw150_77 rfl (ld_a l0) ?_
      refine t_0 zrw150_78 rfl (ld_i l1) ?_
      refine t_0 zrw150_79 rfl (ld_i l5) ?_
      refine t_0 zrw150_81 rfl (ld_i l3) ?_
      refine t_0 zrw150_82 rfl pq_mul ?_
      refine t_0 zrw150_83 rfl pq_add ?_
      refine t_3 zrw150_84 rfl (ar := ([pvR 150, oI (a + ((k : Int) * (-1)))], [])) (pcal_w (as := [oI (a + ((k : Int) * (-1)))]) rfl rfl rfl eo_150) ⟨by omega, Nat.le_of_ble_eq_true rfl, Nat.le_of_ble_eq_true rfl, rfl⟩ ?_
      refine ap150_run hB hS ⟨by omega, by omega⟩ (by omega) (fun t2 g2 hS2 => ?_) (fun t2 g2 hS2 => ?_) rfl rfl
      · replace hS2 : tS150 g0 g2 p ((m + (k : Int)) + 1) 0 (updI c (m + (k : Int)).toNat (a + ((k : Int) * (-1)))) := hS2
        show t_X d 95 87 lv [] g2 P
        refine t_2 zrw150_87 rfl (w := (px_s1 lv 5 (oI ((k : Int) + 1)), [])) (pq_inc l5 (by decide)) ?_
        replace l0 : px_lg (px_s1 lv 5 (oI ((k : Int) + 1))) 0 = some (pvR 150) := s1_ne (by decide) (fun _ => rfl) l0
        replace l1 : px_lg (px_s1 lv 5 (oI ((k : Int) + 1))) 1 = some (oI (a)) := s1_ne (by decide) (fun _ => rfl) l1
        replace l2 : px_lg (px_s1 lv 5 (oI ((k : Int) + 1))) 2 = some (oI (z)) := s1_ne (by decide) (fun _ => rfl) l2
        replace l3 : px_lg (px_s1 lv 5 (oI ((k : Int) + 1))) 3 = some (oI (-1)) := s1_ne (by decide) (fun _ => rfl) l3
        replace l4 : px_lg (px_s1 lv 5 (oI ((k : Int) + 1))) 4 = some (oI (a - z + 1)) := s1_ne (by decide) (fun _ => rfl) l4
        have l5 : px_lg (px_s1 lv 5 (oI ((k : Int) + 1))) 5 = some (oI ((k : Int) + 1)) := s1_eq
        generalize px_s1 lv 5 (oI ((k : Int) + 1)) = lv3 at l0 l1 l2 l3 l4 l5 ⊢
        show t_X d 95 90 lv3 [] g2 P
        refine t_1 zrw150_90 rfl (pb_goto (pc := 90) (by decide)) ?_
        show t_X d 95 70 lv3 [] g2 P
        refine ih (k + 1) _ _ (by omega) (by omega) (show tS150 g0 g2 p (m + ((k + 1 : Nat) : Int)) 0 (updI c (m + (k : Int)).toNat (a + ((k : Int) * (-1)))) by rw [show m + ((k + 1 : Nat) : Int) = m + (k : Int) + 1 by omega]; exact hS2) ⟨fun j hj => ?_, fun i hi h6 => ?_⟩ l0 l1 l2 l3 l4 l5
        · unfold updI
          rw [if_neg (by omega)]
          exact hc.1 j hj
        · unfold updI
          by_cases e : i = k
          · subst e; rw [if_pos rfl]; omega
          · rw [if_neg (by omega)]; exact hc.2 i (by omega) h6
      · replace hS2 : tS150 g0 g2 p ((m + (k : Int)) + 1) 0 c := hS2
        show t_X d 95 87 lv [] g2 P
        refine t_2 zrw150_87 rfl (w := (px_s1 lv 5 (oI ((k : Int) + 1)), [])) (pq_inc l5 (by decide)) ?_
        replace l0 : px_lg (px_s1 lv 5 (oI ((k : Int) + 1))) 0 = some (pvR 150) := s1_ne (by decide) (fun _ => rfl) l0
        replace l1 : px_lg (px_s1 lv 5 (oI ((k : Int) + 1))) 1 = some (oI (a)) := s1_ne (by decide) (fun _ => rfl) l1
        replace l2 : px_lg (px_s1 lv 5 (oI ((k : Int) + 1))) 2 = some (oI (z)) := s1_ne (by decide) (fun _ => rfl) l2
        replace l3 : px_lg (px_s1 lv 5 (oI ((k : Int) + 1))) 3 = some (oI (-1)) := s1_ne (by decide) (fun _ => rfl) l3
        replace l4 : px_lg (px_s1 lv 5 (oI ((k : Int) + 1))) 4 = some (oI (a - z + 1)) := s1_ne (by decide) (fun _ => rfl) l4
        have l5 : px_lg (px_s1 lv 5 (oI ((k : Int) + 1))) 5 = some (oI ((k : Int) + 1)) := s1_eq
        generalize px_s1 lv 5 (oI ((k : Int) + 1)) = lv4 at l0 l1 l2 l3 l4 l5 ⊢
        show t_X d 95 90 lv4 [] g2 P
        refine t_1 zrw150_90 rfl (pb_goto (pc := 90) (by decide)) ?_
        show t_X d 95 70 lv4 [] g2 P
        refine ih (k + 1) _ _ (by omega) (by omega) (show tS150 g0 g2 p (m + ((k + 1 : Nat) : Int)) 0 c by rw [show m + ((k + 1 : Nat) : Int) = m + (k : Int) + 1 by omega]; exact hS2) ⟨fun j hj => ?_, fun i hi h6 => ?_⟩ l0 l1 l2 l3 l4 l5
        · exact hc.1 j hj
        · exact hc.2 i (by omega) h6
    · skip
      refine t_0 zrw150_70 rfl (ld_i l5) ?_
      refine t_0 zrw150_72 rfl (ld_i l4) ?_
      refine tb_ge zrw150_74 (by decide) ⟨by omega, by omega⟩ ⟨by omega, by omega⟩ (fun c1 => ?_) (fun c1 => absurd c1 (by omega))
      show t_X d 95 93 lv [] g P
      refine t_5 zrw150_93 rfl rfl ?_
      have ek : (k : Int) = a - z + 1 := by omega
      rw [ek] at hS
      exact hO _ _ hS hc.1 (fun i hi h6 => hc.2 i (by omega) h6)
set_option maxHeartbeats 4000000 in
theorem rw150_run {d : Nat} (hd : 2 ≤ d) {g0 g : pH} {B : tC} {n : Int} (hB : tB150 g0 B n) {p m : Int} {c : tC} (hS : tS150 g0 g p m 0 c) (hm : 0 ≤ m ∧ m ≤ 60) {P : Option pv × pH → Prop} (hF : ∀ (g1 : pH) (f q : Int), tS150 g0 g1 q m f c → f < 0 → -9999 ≤ f → tRo (tH B n) p m c (.inl f) → P (none, g1)) (hO : ∀ (g1 : pH) (q w : Int) (c1 : tC), tS150 g0 g1 q (m + w) 0 c1 → p < q ∧ q ≤ n → 1 ≤ w ∧ w ≤ 32 → (m + w ≤ 60 → tRo (tH B n) p m c (.inr (q, m + w, c1))) → (60 < m + w → tRo (tH B n) p m c (.inl (-6000 - p))) → P (none, g1)) {lv : List (Nat × pv)} (l0 : px_lg lv 0 = some (pvR 150)) : t_X d 95 0 lv [] g P := by
  obtain ⟨hn0, hn1, hp1, hm1, hH⟩ := cm150 hB hS
  refine t_0 zrw150_0 rfl (ld_a l0) ?_
  refine t_3 zrw150_1 rfl (ar := ([pvR 150], [])) (pcal_w (as := []) rfl rfl rfl eo_150) ⟨by omega, Nat.le_of_ble_eq_true rfl, Nat.le_of_ble_eq_true rfl, rfl⟩ ?_
  refine nu150_run (by omega) hB hS (fun g1 f1 q1 v1 hS1 t1 => ?_) (fun g1 v1 q1 hS1 t1 => ?_) rfl
  · replace hS1 : tS150 g0 g1 q1 m f1 c := hS1
    have u1 : f1 < 0 ∧ -9999 ≤ f1 := by unfold tNf tDg at t1; omega
    show t_X d 95 4 lv [oI (v1)] g1 P
    refine t_2 zrw150_4 rfl (w := (px_s1 lv 1 (oI (v1)), [])) rfl ?_
    replace l0 : px_lg (px_s1 lv 1 (oI (v1))) 0 = some (pvR 150) := s1_ne (by decide) (fun _ => rfl) l0
    have l1 : px_lg (px_s1 lv 1 (oI (v1))) 1 = some (oI (v1)) := s1_eq
    generalize px_s1 lv 1 (oI (v1)) = lv2 at l0 l1 ⊢
    show t_X d 95 5 lv2 [] g1 P
    refine t_0 zrw150_5 rfl (ld_i l1) ?_
    refine t_2 zrw150_6 rfl (w := (px_s1 lv2 2 (oI (v1)), [])) rfl ?_
    replace l0 : px_lg (px_s1 lv2 2 (oI (v1))) 0 = some (pvR 150) := s1_ne (by decide) (fun _ => rfl) l0
    replace l1 : px_lg (px_s1 lv2 2 (oI (v1))) 1 = some (oI (v1)) := s1_ne (by decide) (fun _ => rfl) l1
    have l2 : px_lg (px_s1 lv2 2 (oI (v1))) 2 = some (oI (v1)) := s1_eq
    generalize px_s1 lv2 2 (oI (v1)) = lv3 at l0 l1 l2 ⊢
    show t_X d 95 7 lv3 [] g1 P
    refine t_0 zrw150_7 rfl (ld_a l0) ?_
    refine t_0 zrw150_8 rfl (pq_cv eo_150 rfl (show cF g1 150 5 = f1 from S_f hS1 2 (Nat.le_of_ble_eq_true rfl))) ?_
    show t_X d 95 11 lv3 [oI (f1)] g1 P
    refine tz_ne zrw150_11 (by decide) ⟨by omega, by omega⟩ (fun c4 => ?_) (fun c4 => absurd c4 (by omega))
    show t_X d 95 38 lv3 [] g1 P
    refine t_0 zrw150_38 rfl (ld_a l0) ?_
    refine t_0 zrw150_39 rfl (pq_cv eo_150 rfl (show cF g1 150 5 = f1 from S_f hS1 2 (Nat.le_of_ble_eq_true rfl))) ?_
    show t_X d 95 42 lv3 [oI (f1)] g1 P
    refine tz_eq zrw150_42 (by decide) ⟨by omega, by omega⟩ (fun c5 => absurd c5 (by omega)) (fun c5 => ?_)
    show t_X d 95 45 lv3 [] g1 P
    refine t_5 zrw150_45 rfl rfl ?_
    exact hF _ _ _ hS1 (by omega) (by omega) (Or.inl ⟨_, t1, rfl⟩)
  · replace hS1 : tS150 g0 g1 q1 m 0 c := hS1
    have u1 := tNu_b t1
    have w1 := (cm150 hB hS1).2.2.1
    have x1 := tNu_n t1
    show t_X d 95 4 lv [oI (v1)] g1 P
    refine t_2 zrw150_4 rfl (w := (px_s1 lv 1 (oI (v1)), [])) rfl ?_
    replace l0 : px_lg (px_s1 lv 1 (oI (v1))) 0 = some (pvR 150) := s1_ne (by decide) (fun _ => rfl) l0
    have l1 : px_lg (px_s1 lv 1 (oI (v1))) 1 = some (oI (v1)) := s1_eq
    generalize px_s1 lv 1 (oI (v1)) = lv6 at l0 l1 ⊢
    show t_X d 95 5 lv6 [] g1 P
    refine t_0 zrw150_5 rfl (ld_i l1) ?_
    refine t_2 zrw150_6 rfl (w := (px_s1 lv6 2 (oI (v1)), [])) rfl ?_
    replace l0 : px_lg (px_s1 lv6 2 (oI (v1))) 0 = some (pvR 150) := s1_ne (by decide) (fun _ => rfl) l0
    replace l1 : px_lg (px_s1 lv6 2 (oI (v1))) 1 = some (oI (v1)) := s1_ne (by decide) (fun _ => rfl) l1
    have l2 : px_lg (px_s1 lv6 2 (oI (v1))) 2 = some (oI (v1)) := s1_eq
    generalize px_s1 lv6 2 (oI (v1)) = lv7 at l0 l1 l2 ⊢
    show t_X d 95 7 lv7 [] g1 P
    refine t_0 zrw150_7 rfl (ld_a l0) ?_
    refine t_0 zrw150_8 rfl (pq_cv eo_150 rfl (show cF g1 150 5 = 0 from S_f hS1 2 (Nat.le_of_ble_eq_true rfl))) ?_
    show t_X d 95 11 lv7 [oI 0] g1 P
    refine tz_ne zrw150_11 (by decide) ⟨by omega, by omega⟩ (fun c8 => absurd c8 (by omega)) (fun c8 => ?_)
    show t_X d 95 14 lv7 [] g1 P
    refine t_0 zrw150_14 rfl (ld_a l0) ?_
    refine t_3 zrw150_15 rfl (ar := ([pvR 150], [])) (pcal_w (as := []) rfl rfl rfl eo_150) ⟨by omega, Nat.le_of_ble_eq_true rfl, Nat.le_of_ble_eq_true rfl, rfl⟩ ?_
    refine sg150_run hB hS1 ?_ rfl
    have b9 := hH q1 (by omega)
    have z9 := tH_n (B := B) (n := n) (p := q1)
    show t_X d 95 18 lv7 [oI (tH B n q1)] g1 P
    refine t_0 zrw150_18 rfl (pq_b (by decide)) ?_
    refine tb_ne zrw150_20 (by decide) ⟨by omega, by omega⟩ ⟨by omega, by omega⟩ (fun c10 => ?_) (fun c10 => ?_)
    · show t_X d 95 38 lv7 [] g1 P
      refine t_0 zrw150_38 rfl (ld_a l0) ?_
      refine t_0 zrw150_39 rfl (pq_cv eo_150 rfl (show cF g1 150 5 = 0 from S_f hS1 2 (Nat.le_of_ble_eq_true rfl))) ?_
      show t_X d 95 42 lv7 [oI 0] g1 P
      refine tz_eq zrw150_42 (by decide) ⟨by omega, by omega⟩ (fun c11 => ?_) (fun c11 => absurd c11 (by omega))
      show t_X d 95 46 lv7 [] g1 P
      refine t_0 zrw150_46 rfl (ld_i l1) ?_
      refine t_0 zrw150_47 rfl (ld_i l2) ?_
      refine tb_gt zrw150_48 (by decide) ⟨by omega, by omega⟩ ⟨by omega, by omega⟩ (fun c12 => absurd c12 (by omega)) (fun c12 => ?_)
      show t_X d 95 51 lv7 [] g1 P
      refine t_0 zrw150_51 rfl rfl ?_
      refine t_1 zrw150_52 rfl (pb_goto (pc := 52) (by decide)) ?_
      show t_X d 95 56 lv7 [oI 1] g1 P
      refine t_2 zrw150_56 rfl (w := (px_s1 lv7 3 (oI 1), [])) rfl ?_
      replace l0 : px_lg (px_s1 lv7 3 (oI 1)) 0 = some (pvR 150) := s1_ne (by decide) (fun _ => rfl) l0
      replace l1 : px_lg (px_s1 lv7 3 (oI 1)) 1 = some (oI (v1)) := s1_ne (by decide) (fun _ => rfl) l1
      replace l2 : px_lg (px_s1 lv7 3 (oI 1)) 2 = some (oI (v1)) := s1_ne (by decide) (fun _ => rfl) l2
      have l3 : px_lg (px_s1 lv7 3 (oI 1)) 3 = some (oI 1) := s1_eq
      generalize px_s1 lv7 3 (oI 1) = lv13 at l0 l1 l2 l3 ⊢
      show t_X d 95 57 lv13 [] g1 P
      refine t_0 zrw150_57 rfl (ld_i l2) ?_
      refine t_0 zrw150_58 rfl (ld_i l1) ?_
      refine t_0 zrw150_59 rfl pq_sub ?_
      refine pq_abp zrw150_60 rfl rfl (by omega) (Nat.le_of_ble_eq_true rfl) ⟨by omega, by omega⟩ ?_
      show t_X d 95 63 lv13 [oI (v1 - v1)] g1 P
      refine t_0 zrw150_63 rfl rfl ?_
      refine t_0 zrw150_64 rfl pq_add ?_
      refine t_2 zrw150_65 rfl (w := (px_s1 lv13 4 (oI ((v1 - v1) + 1)), [])) rfl ?_
      replace l0 : px_lg (px_s1 lv13 4 (oI ((v1 - v1) + 1))) 0 = some (pvR 150) := s1_ne (by decide) (fun _ => rfl) l0
      replace l1 : px_lg (px_s1 lv13 4 (oI ((v1 - v1) + 1))) 1 = some (oI (v1)) := s1_ne (by decide) (fun _ => rfl) l1
      replace l2 : px_lg (px_s1 lv13 4 (oI ((v1 - v1) + 1))) 2 = some (oI (v1)) := s1_ne (by decide) (fun _ => rfl) l2
      replace l3 : px_lg (px_s1 lv13 4 (oI ((v1 - v1) + 1))) 3 = some (oI 1) := s1_ne (by decide) (fun _ => rfl) l3
      have l4 : px_lg (px_s1 lv13 4 (oI ((v1 - v1) + 1))) 4 = some (oI ((v1 - v1) + 1)) := s1_eq
      generalize px_s1 lv13 4 (oI ((v1 - v1) + 1)) = lv14 at l0 l1 l2 l3 l4 ⊢
      show t_X d 95 67 lv14 [] g1 P
      refine t_0 zrw150_67 rfl rfl ?_
      refine t_2 zrw150_68 rfl (w := (px_s1 lv14 5 (oI 0), [])) rfl ?_
      replace l0 : px_lg (px_s1 lv14 5 (oI 0)) 0 = some (pvR 150) := s1_ne (by decide) (fun _ => rfl) l0
      replace l1 : px_lg (px_s1 lv14 5 (oI 0)) 1 = some (oI (v1)) := s1_ne (by decide) (fun _ => rfl) l1
      replace l2 : px_lg (px_s1 lv14 5 (oI 0)) 2 = some (oI (v1)) := s1_ne (by decide) (fun _ => rfl) l2
      replace l3 : px_lg (px_s1 lv14 5 (oI 0)) 3 = some (oI 1) := s1_ne (by decide) (fun _ => rfl) l3
      replace l4 : px_lg (px_s1 lv14 5 (oI 0)) 4 = some (oI ((v1 - v1) + 1)) := s1_ne (by decide) (fun _ => rfl) l4
      have l5 : px_lg (px_s1 lv14 5 (oI 0)) 5 = some (oI 0) := s1_eq
      generalize px_s1 lv14 5 (oI 0) = lv15 at l0 l1 l2 l3 l4 l5 ⊢
      show t_X d 95 70 lv15 [] g1 P
      replace l4 : px_lg lv15 4 = some (oI (v1 - v1 + 1)) := l4.trans (congrArg (fun u => some (oI u)) (by omega))
      refine rl150p (by omega) hB (a := v1) (z := v1) (p := q1) (m := m) ⟨by omega, by omega, by omega, by omega, by omega⟩ hm (c0 := c) (fun g1 c1 h1 h2 h3 => ?_) 40 0 _ _ (by omega) (by omega) (show tS150 g0 g1 q1 (m + ((0 : Nat) : Int)) 0 c by rw [show m + ((0 : Nat) : Int) = m by omega]; exact hS1) ⟨fun j _ => rfl, fun i hi => absurd hi (by omega)⟩ l0 l1 l2 l3 l4 l5
      have ew : tW v1 v1 = v1 - v1 + 1 := by unfold tW; rw [if_pos (by omega)]
      rw [← ew] at h1 h3
      refine hO _ _ _ _ h1 ⟨by omega, by omega⟩ ⟨by omega, by omega⟩ (fun h6 => ?_) (fun h6 => ?_)
      · refine Or.inr ⟨_, _, t1, Or.inl ⟨by omega, Or.inr ⟨h6, _, rfl, h2, fun k hk => ?_⟩⟩⟩
        rw [h3 k hk (by omega), if_pos (by omega)]
      · exact Or.inr ⟨_, _, t1, Or.inl ⟨by omega, Or.inl ⟨h6, rfl⟩⟩⟩
    · show t_X d 95 23 lv7 [] g1 P
      refine t_0 zrw150_23 rfl (ld_a l0) ?_
      refine t_0 zrw150_24 rfl rfl ?_
      refine t_0 zrw150_25 rfl (pq_cv eo_150 rfl (show cF g1 150 4 = q1 from S_f hS1 0 (Nat.le_of_ble_eq_true rfl))) ?_
      show t_X d 95 28 lv7 [oI (q1), pvR 150] g1 P
      refine t_0 zrw150_28 rfl rfl ?_
      refine t_0 zrw150_29 rfl pq_add ?_
      refine ts_f (n := 0) rfl rfl (by decide) zrw150_30 rfl eo_150 hS1 wt_tW150_150_4 gy_150_4 (by decide) ⟨by omega, by omega⟩ (fun g16 hS16 => ?_)
      replace hS16 : tS150 g0 g16 (q1 + 1) m 0 c := hS16
      show t_X d 95 33 lv7 [] g16 P
      refine t_0 zrw150_33 rfl (ld_a l0) ?_
      refine t_3 zrw150_34 rfl (ar := ([pvR 150], [])) (pcal_w (as := []) rfl rfl rfl eo_150) ⟨by omega, Nat.le_of_ble_eq_true rfl, Nat.le_of_ble_eq_true rfl, rfl⟩ ?_
      refine nu150_run (by omega) hB hS16 (fun g17 f17 q17 v17 hS17 t17 => ?_) (fun g17 v17 q17 hS17 t17 => ?_) rfl
      · replace hS17 : tS150 g0 g17 q17 m f17 c := hS17
        have u17 : f17 < 0 ∧ -9999 ≤ f17 := by unfold tNf tDg at t17; omega
        show t_X d 95 37 lv7 [oI (v17)] g17 P
        refine t_2 zrw150_37 rfl (w := (px_s1 lv7 2 (oI (v17)), [])) rfl ?_
        replace l0 : px_lg (px_s1 lv7 2 (oI (v17))) 0 = some (pvR 150) := s1_ne (by decide) (fun _ => rfl) l0
        replace l1 : px_lg (px_s1 lv7 2 (oI (v17))) 1 = some (oI (v1)) := s1_ne (by decide) (fun _ => rfl) l1
        have l2 : px_lg (px_s1 lv7 2 (oI (v17))) 2 = some (oI (v17)) := s1_eq
        generalize px_s1 lv7 2 (oI (v17)) = lv18 at l0 l1 l2 ⊢
        show t_X d 95 38 lv18 [] g17 P
        refine t_0 zrw150_38 rfl (ld_a l0) ?_
        refine t_0 zrw150_39 rfl (pq_cv eo_150 rfl (show cF g17 150 5 = f17 from S_f hS17 2 (Nat.le_of_ble_eq_true rfl))) ?_
        show t_X d 95 42 lv18 [oI (f17)] g17 P
        refine tz_eq zrw150_42 (by decide) ⟨by omega, by omega⟩ (fun c19 => absurd c19 (by omega)) (fun c19 => ?_)
        show t_X d 95 45 lv18 [] g17 P
        refine t_5 zrw150_45 rfl rfl ?_
        exact hF _ _ _ hS17 (by omega) (by omega) (Or.inr ⟨_, _, t1, Or.inr ⟨by omega, Or.inl ⟨_, t17, rfl⟩⟩⟩)
      · replace hS17 : tS150 g0 g17 q17 m 0 c := hS17
        have u17 := tNu_b t17
        have w17 := (cm150 hB hS17).2.2.1
        have x17 := tNu_n t17
        show t_X d 95 37 lv7 [oI (v17)] g17 P
        refine t_2 zrw150_37 rfl (w := (px_s1 lv7 2 (oI (v17)), [])) rfl ?_
        replace l0 : px_lg (px_s1 lv7 2 (oI (v17))) 0 = some (pvR 150) := s1_ne (by decide) (fun _ => rfl) l0
        replace l1 : px_lg (px_s1 lv7 2 (oI (v17))) 1 = some (oI (v1)) := s1_ne (by decide) (fun _ => rfl) l1
        have l2 : px_lg (px_s1 lv7 2 (oI (v17))) 2 = some (oI (v17)) := s1_eq
        generalize px_s1 lv7 2 (oI (v17)) = lv20 at l0 l1 l2 ⊢
        show t_X d 95 38 lv20 [] g17 P
        refine t_0 zrw150_38 rfl (ld_a l0) ?_
        refine t_0 zrw150_39 rfl (pq_cv eo_150 rfl (show cF g17 150 5 = 0 from S_f hS17 2 (Nat.le_of_ble_eq_true rfl))) ?_
        show t_X d 95 42 lv20 [oI 0] g17 P
        refine tz_eq zrw150_42 (by decide) ⟨by omega, by omega⟩ (fun c21 => ?_) (fun c21 => absurd c21 (by omega))
        show t_X d 95 46 lv20 [] g17 P
        refine t_0 zrw150_46 rfl (ld_i l1) ?_
        refine t_0 zrw150_47 rfl (ld_i l2) ?_
        refine tb_gt zrw150_48 (by decide) ⟨by omega, by omega⟩ ⟨by omega, by omega⟩ (fun c22 => ?_) (fun c22 => ?_)
        · show t_X d 95 55 lv20 [] g17 P
          refine t_0 zrw150_55 rfl rfl ?_
          refine t_2 zrw150_56 rfl (w := (px_s1 lv20 3 (oI (-1)), [])) rfl ?_
          replace l0 : px_lg (px_s1 lv20 3 (oI (-1))) 0 = some (pvR 150) := s1_ne (by decide) (fun _ => rfl) l0
          replace l1 : px_lg (px_s1 lv20 3 (oI (-1))) 1 = some (oI (v1)) := s1_ne (by decide) (fun _ => rfl) l1
          replace l2 : px_lg (px_s1 lv20 3 (oI (-1))) 2 = some (oI (v17)) := s1_ne (by decide) (fun _ => rfl) l2
          have l3 : px_lg (px_s1 lv20 3 (oI (-1))) 3 = some (oI (-1)) := s1_eq
          generalize px_s1 lv20 3 (oI (-1)) = lv23 at l0 l1 l2 l3 ⊢
          show t_X d 95 57 lv23 [] g17 P
          refine t_0 zrw150_57 rfl (ld_i l2) ?_
          refine t_0 zrw150_58 rfl (ld_i l1) ?_
          refine t_0 zrw150_59 rfl pq_sub ?_
          refine pq_abn zrw150_60 rfl rfl (by omega) (Nat.le_of_ble_eq_true rfl) ⟨by omega, by omega⟩ ?_
          show t_X d 95 63 lv23 [oI (-(v17 - v1))] g17 P
          refine t_0 zrw150_63 rfl rfl ?_
          refine t_0 zrw150_64 rfl pq_add ?_
          refine t_2 zrw150_65 rfl (w := (px_s1 lv23 4 (oI ((-(v17 - v1)) + 1)), [])) rfl ?_
          replace l0 : px_lg (px_s1 lv23 4 (oI ((-(v17 - v1)) + 1))) 0 = some (pvR 150) := s1_ne (by decide) (fun _ => rfl) l0
          replace l1 : px_lg (px_s1 lv23 4 (oI ((-(v17 - v1)) + 1))) 1 = some (oI (v1)) := s1_ne (by decide) (fun _ => rfl) l1
          replace l2 : px_lg (px_s1 lv23 4 (oI ((-(v17 - v1)) + 1))) 2 = some (oI (v17)) := s1_ne (by decide) (fun _ => rfl) l2
          replace l3 : px_lg (px_s1 lv23 4 (oI ((-(v17 - v1)) + 1))) 3 = some (oI (-1)) := s1_ne (by decide) (fun _ => rfl) l3
          have l4 : px_lg (px_s1 lv23 4 (oI ((-(v17 - v1)) + 1))) 4 = some (oI ((-(v17 - v1)) + 1)) := s1_eq
          generalize px_s1 lv23 4 (oI ((-(v17 - v1)) + 1)) = lv24 at l0 l1 l2 l3 l4 ⊢
          show t_X d 95 67 lv24 [] g17 P
          refine t_0 zrw150_67 rfl rfl ?_
          refine t_2 zrw150_68 rfl (w := (px_s1 lv24 5 (oI 0), [])) rfl ?_
          replace l0 : px_lg (px_s1 lv24 5 (oI 0)) 0 = some (pvR 150) := s1_ne (by decide) (fun _ => rfl) l0
          replace l1 : px_lg (px_s1 lv24 5 (oI 0)) 1 = some (oI (v1)) := s1_ne (by decide) (fun _ => rfl) l1
          replace l2 : px_lg (px_s1 lv24 5 (oI 0)) 2 = some (oI (v17)) := s1_ne (by decide) (fun _ => rfl) l2
          replace l3 : px_lg (px_s1 lv24 5 (oI 0)) 3 = some (oI (-1)) := s1_ne (by decide) (fun _ => rfl) l3
          replace l4 : px_lg (px_s1 lv24 5 (oI 0)) 4 = some (oI ((-(v17 - v1)) + 1)) := s1_ne (by decide) (fun _ => rfl) l4
          have l5 : px_lg (px_s1 lv24 5 (oI 0)) 5 = some (oI 0) := s1_eq
          generalize px_s1 lv24 5 (oI 0) = lv25 at l0 l1 l2 l3 l4 l5 ⊢
          show t_X d 95 70 lv25 [] g17 P
          replace l4 : px_lg lv25 4 = some (oI (v1 - v17 + 1)) := l4.trans (congrArg (fun u => some (oI u)) (by omega))
          refine rl150m (by omega) hB (a := v1) (z := v17) (p := q17) (m := m) ⟨by omega, by omega, by omega, by omega, by omega⟩ hm (c0 := c) (fun g1 c1 h1 h2 h3 => ?_) 40 0 _ _ (by omega) (by omega) (show tS150 g0 g17 q17 (m + ((0 : Nat) : Int)) 0 c by rw [show m + ((0 : Nat) : Int) = m by omega]; exact hS17) ⟨fun j _ => rfl, fun i hi => absurd hi (by omega)⟩ l0 l1 l2 l3 l4 l5
          have ew : tW v1 v17 = v1 - v17 + 1 := by unfold tW; rw [if_neg (by omega)]
          rw [← ew] at h1 h3
          refine hO _ _ _ _ h1 ⟨by omega, by omega⟩ ⟨by omega, by omega⟩ (fun h6 => ?_) (fun h6 => ?_)
          · refine Or.inr ⟨_, _, t1, Or.inr ⟨by omega, Or.inr ⟨_, _, t17, Or.inr ⟨h6, _, rfl, h2, fun k hk => ?_⟩⟩⟩⟩
            rw [h3 k hk (by omega), if_neg (by omega)]
          · exact Or.inr ⟨_, _, t1, Or.inr ⟨by omega, Or.inr ⟨_, _, t17, Or.inl ⟨h6, rfl⟩⟩⟩⟩
        · show t_X d 95 51 lv20 [] g17 P
          refine t_0 zrw150_51 rfl rfl ?_
          refine t_1 zrw150_52 rfl (pb_goto (pc := 52) (by decide)) ?_
          show t_X d 95 56 lv20 [oI 1] g17 P
          refine t_2 zrw150_56 rfl (w := (px_s1 lv20 3 (oI 1), [])) rfl ?_
          replace l0 : px_lg (px_s1 lv20 3 (oI 1)) 0 = some (pvR 150) := s1_ne (by decide) (fun _ => rfl) l0
          replace l1 : px_lg (px_s1 lv20 3 (oI 1)) 1 = some (oI (v1)) := s1_ne (by decide) (fun _ => rfl) l1
          replace l2 : px_lg (px_s1 lv20 3 (oI 1)) 2 = some (oI (v17)) := s1_ne (by decide) (fun _ => rfl) l2
          have l3 : px_lg (px_s1 lv20 3 (oI 1)) 3 = some (oI 1) := s1_eq
          generalize px_s1 lv20 3 (oI 1) = lv26 at l0 l1 l2 l3 ⊢
          show t_X d 95 57 lv26 [] g17 P
          refine t_0 zrw150_57 rfl (ld_i l2) ?_
          refine t_0 zrw150_58 rfl (ld_i l1) ?_
          refine t_0 zrw150_59 rfl pq_sub ?_
          refine pq_abp zrw150_60 rfl rfl (by omega) (Nat.le_of_ble_eq_true rfl) ⟨by omega, by omega⟩ ?_
          show t_X d 95 63 lv26 [oI (v17 - v1)] g17 P
          refine t_0 zrw150_63 rfl rfl ?_
          refine t_0 zrw150_64 rfl pq_add ?_
          refine t_2 zrw150_65 rfl (w := (px_s1 lv26 4 (oI ((v17 - v1) + 1)), [])) rfl ?_
          replace l0 : px_lg (px_s1 lv26 4 (oI ((v17 - v1) + 1))) 0 = some (pvR 150) := s1_ne (by decide) (fun _ => rfl) l0
          replace l1 : px_lg (px_s1 lv26 4 (oI ((v17 - v1) + 1))) 1 = some (oI (v1)) := s1_ne (by decide) (fun _ => rfl) l1
          replace l2 : px_lg (px_s1 lv26 4 (oI ((v17 - v1) + 1))) 2 = some (oI (v17)) := s1_ne (by decide) (fun _ => rfl) l2
          replace l3 : px_lg (px_s1 lv26 4 (oI ((v17 - v1) + 1))) 3 = some (oI 1) := s1_ne (by decide) (fun _ => rfl) l3
          have l4 : px_lg (px_s1 lv26 4 (oI ((v17 - v1) + 1))) 4 = some (oI ((v17 - v1) + 1)) := s1_eq
          generalize px_s1 lv26 4 (oI ((v17 - v1) + 1)) = lv27 at l0 l1 l2 l3 l4 ⊢
          show t_X d 95 67 lv27 [] g17 P
          refine t_0 zrw150_67 rfl rfl ?_
          refine t_2 zrw150_68 rfl (w := (px_s1 lv27 5 (oI 0), [])) rfl ?_
          replace l0 : px_lg (px_s1 lv27 5 (oI 0)) 0 = some (pvR 150) := s1_ne (by decide) (fun _ => rfl) l0
          replace l1 : px_lg (px_s1 lv27 5 (oI 0)) 1 = some (oI (v1)) := s1_ne (by decide) (fun _ => rfl) l1
          replace l2 : px_lg (px_s1 lv27 5 (oI 0)) 2 = some (oI (v17)) := s1_ne (by decide) (fun _ => rfl) l2
          replace l3 : px_lg (px_s1 lv27 5 (oI 0)) 3 = some (oI 1) := s1_ne (by decide) (fun _ => rfl) l3
          replace l4 : px_lg (px_s1 lv27 5 (oI 0)) 4 = some (oI ((v17 - v1) + 1)) := s1_ne (by decide) (fun _ => rfl) l4
          have l5 : px_lg (px_s1 lv27 5 (oI 0)) 5 = some (oI 0) := s1_eq
          generalize px_s1 lv27 5 (oI 0) = lv28 at l0 l1 l2 l3 l4 l5 ⊢
          show t_X d 95 70 lv28 [] g17 P
          replace l4 : px_lg lv28 4 = some (oI (v17 - v1 + 1)) := l4.trans (congrArg (fun u => some (oI u)) (by omega))
          refine rl150p (by omega) hB (a := v1) (z := v17) (p := q17) (m := m) ⟨by omega, by omega, by omega, by omega, by omega⟩ hm (c0 := c) (fun g1 c1 h1 h2 h3 => ?_) 40 0 _ _ (by omega) (by omega) (show tS150 g0 g17 q17 (m + ((0 : Nat) : Int)) 0 c by rw [show m + ((0 : Nat) : Int) = m by omega]; exact hS17) ⟨fun j _ => rfl, fun i hi => absurd hi (by omega)⟩ l0 l1 l2 l3 l4 l5
          have ew : tW v1 v17 = v17 - v1 + 1 := by unfold tW; rw [if_pos (by omega)]
          rw [← ew] at h1 h3
          refine hO _ _ _ _ h1 ⟨by omega, by omega⟩ ⟨by omega, by omega⟩ (fun h6 => ?_) (fun h6 => ?_)
          · refine Or.inr ⟨_, _, t1, Or.inr ⟨by omega, Or.inr ⟨_, _, t17, Or.inr ⟨h6, _, rfl, h2, fun k hk => ?_⟩⟩⟩⟩
            rw [h3 k hk (by omega), if_pos (by omega)]
          · exact Or.inr ⟨_, _, t1, Or.inr ⟨by omega, Or.inr ⟨_, _, t17, Or.inl ⟨h6, rfl⟩⟩⟩⟩
theorem ce152 {g0 g : pH} {B : tC} {n p m f : Int} {c : tC} (hB : tB152 g0 B n) (h : tS152 g0 g p m f c) : cF g 152 3 = n := (cF_M (S_J h).2 wn_tW152_152_3).trans hB.1
theorem cr152 {g0 g : pH} {B : tC} {n p m f : Int} {c : tC} (hB : tB152 g0 B n) (h : tS152 g0 g p m f c) : g.2.2.1 152 2 = some 1 := ((S_J h).2.1 152 2 wn_tW152_152_2).2.2.trans hB.2.1
theorem cb152 {g0 g : pH} {B : tC} {n p m f : Int} {c : tC} (hB : tB152 g0 B n) (h : tS152 g0 g p m f c) : fA g 1 = B := (fA_M (S_J h).2 wm_tW152_1).trans hB.2.2.1
theorem cm152 {g0 g : pH} {B : tC} {n p m f : Int} {c : tC} (hB : tB152 g0 B n) (h : tS152 g0 g p m f c) : 0 ≤ n ∧ n ≤ 120 ∧ (0 ≤ p ∧ p ≤ 120) ∧ (0 ≤ m ∧ m ≤ 540) ∧ (∀ q, 0 ≤ q → -1 ≤ tH B n q ∧ tH B n q ≤ 255) := ⟨hB.2.2.2.1, hB.2.2.2.2.1, by have := cb_i (S_J h).1 eo_152 (Nat.le_of_ble_eq_true rfl) rfl gy_152_4; rw [(show cF g 152 4 = p from S_f h 0 (Nat.le_of_ble_eq_true rfl))] at this; exact this, by have := cb_i (S_J h).1 eo_152 (Nat.le_of_ble_eq_true rfl) rfl gy_152_1; rw [(show cF g 152 1 = m from S_f h 1 (Nat.le_of_ble_eq_true rfl))] at this; exact this, fun q hq => tH_b hB.2.2.2.2.2 (by have := hB.2.2.2.2.1; omega) hq⟩
theorem sg152_run {d : Nat} {g0 g : pH} {B : tC} {n : Int} (hB : tB152 g0 B n) {p m f : Int} {c : tC} (hS : tS152 g0 g p m f c) {P : Option pv × pH → Prop} (hP : P (some (oI (tH B n p)), g)) {lv : List (Nat × pv)} (l0 : px_lg lv 0 = some (pvR 152)) : t_X d 97 0 lv [] g P := by
  obtain ⟨hn0, hn1, hp1, hm1, hH⟩ := cm152 hB hS
  refine t_0 zsg152_0 rfl (ld_a l0) ?_
  refine t_0 zsg152_1 rfl (pq_cv eo_152 rfl (show cF g 152 4 = p from S_f hS 0 (Nat.le_of_ble_eq_true rfl))) ?_
  show t_X d 97 4 lv [oI (p)] g P
  refine t_0 zsg152_4 rfl (ld_a l0) ?_
  refine t_0 zsg152_5 rfl (pq_cv eo_152 rfl (ce152 hB hS : cF g 152 3 = n)) ?_
  show t_X d 97 8 lv [oI (n), oI (p)] g P
  refine tb_ge zsg152_8 (by decide) ⟨by omega, by omega⟩ ⟨by omega, by omega⟩ (fun c1 => ?_) (fun c1 => ?_)
  · show t_X d 97 23 lv [] g P
    refine t_0 zsg152_23 rfl rfl ?_
    refine t_5 zsg152_24 rfl rfl ?_
    rw [tH_e (by omega)] at hP
    exact hP
  · show t_X d 97 11 lv [] g P
    refine t_0 zsg152_11 rfl (ld_a l0) ?_
    refine t_0 zsg152_12 rfl (pq_rv eo_152 rfl (cr152 hB hS)) ?_
    show t_X d 97 15 lv [pvR 1] g P
    refine t_0 zsg152_15 rfl (ld_a l0) ?_
    refine t_0 zsg152_16 rfl (pq_cv eo_152 rfl (show cF g 152 4 = p from S_f hS 0 (Nat.le_of_ble_eq_true rfl))) ?_
    show t_X d 97 19 lv [oI (p), pvR 1] g P
    have r2 := pb_a (S_J hS).1 ez_1 (j := p.toNat) (by omega) gu_1 (cb152 hB hS : fA g 1 = B)
    refine t_0 zsg152_19 rfl (pq_iv ez_1 rfl ⟨by omega, by omega⟩ (cb152 hB hS : fA g 1 = B)) ?_
    show t_X d 97 20 lv [oI (B p.toNat)] g P
    refine t_1 zsg152_20 rfl (pb_goto (pc := 20) (by decide)) ?_
    show t_X d 97 24 lv [oI (B p.toNat)] g P
    refine t_5 zsg152_24 rfl rfl ?_
    rw [tH_i (by omega)] at hP
    exact hP
theorem fl152_run {d : Nat} {g0 g : pH} {B : tC} {n : Int} (hB : tB152 g0 B n) {p m : Int} {c : tC} (hS : tS152 g0 g p m 0 c) {a b : Int} (ha : 1 ≤ a ∧ a ≤ 6) (hb : 0 ≤ b ∧ b ≤ 122) {P : Option pv × pH → Prop} (hP : ∀ g1 : pH, tS152 g0 g1 p m (-1000 * a - b) c → P (none, g1)) {lv : List (Nat × pv)} (l0 : px_lg lv 0 = some (pvR 152)) (l1 : px_lg lv 1 = some (oI a)) (l2 : px_lg lv 2 = some (oI b)) : t_X d 87 0 lv [] g P := by
  obtain ⟨hn0, hn1, hp1, hm1, hH⟩ := cm152 hB hS
  refine t_0 zfl152_0 rfl (ld_a l0) ?_
  refine t_0 zfl152_1 rfl (pq_cv eo_152 rfl (show cF g 152 5 = 0 from S_f hS 2 (Nat.le_of_ble_eq_true rfl))) ?_
  show t_X d 87 4 lv [oI 0] g P
  refine tz_ne zfl152_4 (by decide) ⟨by omega, by omega⟩ (fun c1 => absurd c1 (by omega)) (fun c1 => ?_)
  show t_X d 87 7 lv [] g P
  refine t_0 zfl152_7 rfl (ld_a l0) ?_
  refine t_0 zfl152_8 rfl (pq_s (by decide)) ?_
  refine t_0 zfl152_11 rfl (ld_i l1) ?_
  refine t_0 zfl152_12 rfl pq_mul ?_
  refine t_0 zfl152_13 rfl (ld_i l2) ?_
  refine t_0 zfl152_14 rfl pq_sub ?_
  refine ts_f (n := 2) rfl rfl (by decide) zfl152_15 rfl eo_152 hS wt_tW152_152_5 gy_152_5 (by decide) ⟨by omega, by omega⟩ (fun g2 hS2 => ?_)
  replace hS2 : tS152 g0 g2 p m ((-1000 * a) - b) c := hS2
  show t_X d 87 18 lv [] g2 P
  refine t_5 zfl152_18 rfl rfl ?_
  exact hP _ hS2
theorem fn152_run {d : Nat} {g0 g : pH} {B : tC} {n : Int} (hB : tB152 g0 B n) {p m f : Int} {c : tC} (hS : tS152 g0 g p m f c) (hf : f < 0) (hf2 : -9999 ≤ f) {a b : Int} {P : Option pv × pH → Prop} (hP : P (none, g)) {lv : List (Nat × pv)} (l0 : px_lg lv 0 = some (pvR 152)) : t_X d 87 0 lv [] g P := by
  obtain ⟨hn0, hn1, hp1, hm1, hH⟩ := cm152 hB hS
  refine t_0 zfl152_0 rfl (ld_a l0) ?_
  refine t_0 zfl152_1 rfl (pq_cv eo_152 rfl (show cF g 152 5 = f from S_f hS 2 (Nat.le_of_ble_eq_true rfl))) ?_
  show t_X d 87 4 lv [oI (f)] g P
  refine tz_ne zfl152_4 (by decide) ⟨by omega, by omega⟩ (fun c1 => ?_) (fun c1 => absurd c1 (by omega))
  show t_X d 87 18 lv [] g P
  refine t_5 zfl152_18 rfl rfl ?_
  exact hP
theorem ap152_run {d : Nat} {g0 g : pH} {B : tC} {n : Int} (hB : tB152 g0 B n) {p m f : Int} {c : tC} (hS : tS152 g0 g p m f c) {e : Int} (he : -40 ≤ e ∧ e ≤ 90) (hm : m < 540) {P : Option pv × pH → Prop} (h1 : m < 60 → ∀ g1 : pH, tS152 g0 g1 p (m + 1) f (updI c m.toNat e) → P (none, g1)) (h2 : 60 ≤ m → ∀ g1 : pH, tS152 g0 g1 p (m + 1) f c → P (none, g1)) {lv : List (Nat × pv)} (l0 : px_lg lv 0 = some (pvR 152)) (l1 : px_lg lv 1 = some (oI e)) : t_X d 86 0 lv [] g P := by
  obtain ⟨hn0, hn1, hp1, hm1, hH⟩ := cm152 hB hS
  refine t_0 zap152_0 rfl (ld_a l0) ?_
  refine t_0 zap152_1 rfl (pq_cv eo_152 rfl (show cF g 152 1 = m from S_f hS 1 (Nat.le_of_ble_eq_true rfl))) ?_
  show t_X d 86 4 lv [oI (m)] g P
  refine t_0 zap152_4 rfl (pq_b (by decide)) ?_
  refine tb_ge zap152_6 (by decide) ⟨by omega, by omega⟩ ⟨by omega, by omega⟩ (fun c1 => ?_) (fun c1 => ?_)
  · show t_X d 86 19 lv [] g P
    refine t_0 zap152_19 rfl (ld_a l0) ?_
    refine t_0 zap152_20 rfl rfl ?_
    refine t_0 zap152_21 rfl (pq_cv eo_152 rfl (show cF g 152 1 = m from S_f hS 1 (Nat.le_of_ble_eq_true rfl))) ?_
    show t_X d 86 24 lv [oI (m), pvR 152] g P
    refine t_0 zap152_24 rfl rfl ?_
    refine t_0 zap152_25 rfl pq_add ?_
    refine ts_f (n := 1) rfl rfl (by decide) zap152_26 rfl eo_152 hS wt_tW152_152_1 gy_152_1 (by decide) ⟨by omega, by omega⟩ (fun g2 hS2 => ?_)
    replace hS2 : tS152 g0 g2 p (m + 1) f c := hS2
    show t_X d 86 29 lv [] g2 P
    refine t_5 zap152_29 rfl rfl ?_
    exact h2 (by omega) _ hS2
  · show t_X d 86 9 lv [] g P
    refine t_0 zap152_9 rfl (ld_a l0) ?_
    refine t_0 zap152_10 rfl (cq_152_0 (S_J hS).1) ?_
    show t_X d 86 13 lv [pvR 153] g P
    refine t_0 zap152_13 rfl (ld_a l0) ?_
    refine t_0 zap152_14 rfl (pq_cv eo_152 rfl (show cF g 152 1 = m from S_f hS 1 (Nat.le_of_ble_eq_true rfl))) ?_
    show t_X d 86 17 lv [oI (m), pvR 153] g P
    refine t_0 zap152_17 rfl (ld_i l1) ?_
    refine ts_a (n := 0) rfl rfl (by decide) zap152_18 hS ez_153 rfl wu_tW152_153 gu_153 (by decide) ⟨by omega, by omega⟩ ⟨by omega, by omega⟩ (fun g3 hS3 => ?_)
    replace hS3 : tS152 g0 g3 p m f (updI c m.toNat e) := hS3
    show t_X d 86 19 lv [] g3 P
    refine t_0 zap152_19 rfl (ld_a l0) ?_
    refine t_0 zap152_20 rfl rfl ?_
    refine t_0 zap152_21 rfl (pq_cv eo_152 rfl (show cF g3 152 1 = m from S_f hS3 1 (Nat.le_of_ble_eq_true rfl))) ?_
    show t_X d 86 24 lv [oI (m), pvR 152] g3 P
    refine t_0 zap152_24 rfl rfl ?_
    refine t_0 zap152_25 rfl pq_add ?_
    refine ts_f (n := 1) rfl rfl (by decide) zap152_26 rfl eo_152 hS3 wt_tW152_152_1 gy_152_1 (by decide) ⟨by omega, by omega⟩ (fun g4 hS4 => ?_)
    replace hS4 : tS152 g0 g4 p (m + 1) f (updI c m.toNat e) := hS4
    show t_X d 86 29 lv [] g4 P
    refine t_5 zap152_29 rfl rfl ?_
    exact h1 (by omega) _ hS4
theorem sl152_run {d : Nat} {g0 g : pH} {B : tC} {n : Int} (hB : tB152 g0 B n) {p m f : Int} {c : tC} (hS : tS152 g0 g p m f c) {k : Int} (hk : -2147483648 ≤ k ∧ k ≤ 2147483647) {P : Option pv × pH → Prop} (h1 : 0 ≤ k ∧ k < m ∧ k < 60 → P (some (oI (c k.toNat)), g)) (h0 : ¬ (0 ≤ k ∧ k < m ∧ k < 60) → P (some (oI (-1)), g)) {lv : List (Nat × pv)} (l0 : px_lg lv 0 = some (pvR 152)) (l1 : px_lg lv 1 = some (oI k)) : t_X d 98 0 lv [] g P := by
  obtain ⟨hn0, hn1, hp1, hm1, hH⟩ := cm152 hB hS
  refine t_0 zsl152_0 rfl (ld_i l1) ?_
  refine tz_lt zsl152_1 (by decide) ⟨by omega, by omega⟩ (fun c1 => ?_) (fun c1 => ?_)
  · show t_X d 98 27 lv [] g P
    refine t_0 zsl152_27 rfl rfl ?_
    refine t_5 zsl152_28 rfl rfl ?_
    exact h0 (by omega)
  · show t_X d 98 4 lv [] g P
    refine t_0 zsl152_4 rfl (ld_i l1) ?_
    refine t_0 zsl152_5 rfl (ld_a l0) ?_
    refine t_0 zsl152_6 rfl (pq_cv eo_152 rfl (show cF g 152 1 = m from S_f hS 1 (Nat.le_of_ble_eq_true rfl))) ?_
    show t_X d 98 9 lv [oI (m), oI (k)] g P
    refine tb_ge zsl152_9 (by decide) ⟨by omega, by omega⟩ ⟨by omega, by omega⟩ (fun c2 => ?_) (fun c2 => ?_)
    · show t_X d 98 27 lv [] g P
      refine t_0 zsl152_27 rfl rfl ?_
      refine t_5 zsl152_28 rfl rfl ?_
      exact h0 (by omega)
    · show t_X d 98 12 lv [] g P
      refine t_0 zsl152_12 rfl (ld_i l1) ?_
      refine t_0 zsl152_13 rfl (pq_b (by decide)) ?_
      refine tb_ge zsl152_15 (by decide) ⟨by omega, by omega⟩ ⟨by omega, by omega⟩ (fun c3 => ?_) (fun c3 => ?_)
      · show t_X d 98 27 lv [] g P
        refine t_0 zsl152_27 rfl rfl ?_
        refine t_5 zsl152_28 rfl rfl ?_
        exact h0 (by omega)
      · show t_X d 98 18 lv [] g P
        refine t_0 zsl152_18 rfl (ld_a l0) ?_
        refine t_0 zsl152_19 rfl (cq_152_0 (S_J hS).1) ?_
        show t_X d 98 22 lv [pvR 153] g P
        refine t_0 zsl152_22 rfl (ld_i l1) ?_
        have r4 := pb_a (S_J hS).1 ez_153 (j := k.toNat) (by omega) gu_153 (show fA g 153 = c from S_a hS 0 (Nat.le_of_ble_eq_true rfl))
        refine t_0 zsl152_23 rfl (pq_iv ez_153 rfl ⟨by omega, by omega⟩ (show fA g 153 = c from S_a hS 0 (Nat.le_of_ble_eq_true rfl))) ?_
        show t_X d 98 24 lv [oI (c k.toNat)] g P
        refine t_1 zsl152_24 rfl (pb_goto (pc := 24) (by decide)) ?_
        show t_X d 98 28 lv [oI (c k.toNat)] g P
        refine t_5 zsl152_28 rfl rfl ?_
        exact h1 (by omega)
set_option maxHeartbeats 2000000 in
theorem nu152_run {d : Nat} (hd : 1 ≤ d) {g0 g : pH} {B : tC} {n : Int} (hB : tB152 g0 B n) {p m : Int} {c : tC} (hS : tS152 g0 g p m 0 c) {P : Option pv × pH → Prop} (hF : ∀ (g1 : pH) (f q v : Int), tS152 g0 g1 q m f c → tNf (tH B n) p f → P (some (oI v), g1)) (hO : ∀ (g1 : pH) (v q : Int), tS152 g0 g1 q m 0 c → tNu (tH B n) p v q → P (some (oI v), g1)) {lv : List (Nat × pv)} (l0 : px_lg lv 0 = some (pvR 152)) : t_X d 93 0 lv [] g P := by
  obtain ⟨hn0, hn1, hp1, hm1, hH⟩ := cm152 hB hS
  refine t_0 znu152_0 rfl (ld_a l0) ?_
  refine t_0 znu152_1 rfl (pq_cv eo_152 rfl (show cF g 152 4 = p from S_f hS 0 (Nat.le_of_ble_eq_true rfl))) ?_
  show t_X d 93 4 lv [oI (p)] g P
  refine t_2 znu152_4 rfl (w := (px_s1 lv 1 (oI (p)), [])) rfl ?_
  replace l0 : px_lg (px_s1 lv 1 (oI (p))) 0 = some (pvR 152) := s1_ne (by decide) (fun _ => rfl) l0
  have l1 : px_lg (px_s1 lv 1 (oI (p))) 1 = some (oI (p)) := s1_eq
  generalize px_s1 lv 1 (oI (p)) = lv1 at l0 l1 ⊢
  show t_X d 93 5 lv1 [] g P
  refine t_0 znu152_5 rfl rfl ?_
  refine t_2 znu152_6 rfl (w := (px_s1 lv1 2 (oI 0), [])) rfl ?_
  replace l0 : px_lg (px_s1 lv1 2 (oI 0)) 0 = some (pvR 152) := s1_ne (by decide) (fun _ => rfl) l0
  replace l1 : px_lg (px_s1 lv1 2 (oI 0)) 1 = some (oI (p)) := s1_ne (by decide) (fun _ => rfl) l1
  have l2 : px_lg (px_s1 lv1 2 (oI 0)) 2 = some (oI 0) := s1_eq
  generalize px_s1 lv1 2 (oI 0) = lv2 at l0 l1 l2 ⊢
  show t_X d 93 7 lv2 [] g P
  refine t_0 znu152_7 rfl rfl ?_
  refine t_2 znu152_8 rfl (w := (px_s1 lv2 3 (oI 0), [])) rfl ?_
  replace l0 : px_lg (px_s1 lv2 3 (oI 0)) 0 = some (pvR 152) := s1_ne (by decide) (fun _ => rfl) l0
  replace l1 : px_lg (px_s1 lv2 3 (oI 0)) 1 = some (oI (p)) := s1_ne (by decide) (fun _ => rfl) l1
  replace l2 : px_lg (px_s1 lv2 3 (oI 0)) 2 = some (oI 0) := s1_ne (by decide) (fun _ => rfl) l2
  have l3 : px_lg (px_s1 lv2 3 (oI 0)) 3 = some (oI 0) := s1_eq
  generalize px_s1 lv2 3 (oI 0) = lv3 at l0 l1 l2 l3 ⊢
  show t_X d 93 9 lv3 [] g P
  refine t_0 znu152_9 rfl (ld_i l3) ?_
  refine t_0 znu152_10 rfl rfl ?_
  refine tb_ge znu152_11 (by decide) ⟨by omega, by omega⟩ ⟨by omega, by omega⟩ (fun c4 => absurd c4 (by omega)) (fun c4 => ?_)
  show t_X d 93 14 lv3 [] g P
  refine t_0 znu152_14 rfl (ld_a l0) ?_
  refine t_3 znu152_15 rfl (ar := ([pvR 152], [])) (pcal_w (as := []) rfl rfl rfl eo_152) ⟨by omega, Nat.le_of_ble_eq_true rfl, Nat.le_of_ble_eq_true rfl, rfl⟩ ?_
  refine sg152_run hB hS ?_ rfl
  have b5 := hH p (by omega)
  have z5 := tH_n (B := B) (n := n) (p := p)
  show t_X d 93 18 lv3 [oI (tH B n p)] g P
  refine t_0 znu152_18 rfl (pq_b (by decide)) ?_
  refine t_0 znu152_20 rfl (pq_b (by decide)) ?_
  refine t_3 znu152_22 rfl (ar := ([oI (tH B n p), oI 48, oI 57], [])) (pcal_s ⟨Or.inr rfl, rfl, Nat.le_of_ble_eq_true rfl⟩) ⟨by omega, Nat.le_of_ble_eq_true rfl, Nat.le_of_ble_eq_true rfl, rfl⟩ ?_
  refine ii_run ⟨by omega, by omega⟩ ⟨by omega, by omega⟩ ⟨by omega, by omega⟩ rfl rfl rfl (fun t6 => ?_) (fun t6 => ?_)
  · show t_X d 93 25 lv3 [oI 1] g P
    refine tz_eq znu152_25 (by decide) ⟨by omega, by omega⟩ (fun c7 => absurd c7 (by omega)) (fun c7 => ?_)
    show t_X d 93 28 lv3 [] g P
    refine t_0 znu152_28 rfl (pq_b (by decide)) ?_
    refine t_0 znu152_30 rfl (ld_i l2) ?_
    refine t_0 znu152_31 rfl pq_mul ?_
    refine t_0 znu152_32 rfl (ld_a l0) ?_
    refine t_3 znu152_33 rfl (ar := ([pvR 152], [oI (10 * 0)])) (pcal_w (as := []) rfl rfl rfl eo_152) ⟨by omega, Nat.le_of_ble_eq_true rfl, Nat.le_of_ble_eq_true rfl, rfl⟩ ?_
    refine sg152_run hB hS ?_ rfl
    show t_X d 93 36 lv3 [oI (tH B n p), oI (10 * 0)] g P
    refine t_0 znu152_36 rfl pq_add ?_
    refine t_0 znu152_37 rfl (pq_b (by decide)) ?_
    refine t_0 znu152_39 rfl pq_sub ?_
    refine t_2 znu152_40 rfl (w := (px_s1 lv3 2 (oI (((10 * 0) + (tH B n p)) - 48)), [])) rfl ?_
    replace l0 : px_lg (px_s1 lv3 2 (oI (((10 * 0) + (tH B n p)) - 48))) 0 = some (pvR 152) := s1_ne (by decide) (fun _ => rfl) l0
    replace l1 : px_lg (px_s1 lv3 2 (oI (((10 * 0) + (tH B n p)) - 48))) 1 = some (oI (p)) := s1_ne (by decide) (fun _ => rfl) l1
    replace l3 : px_lg (px_s1 lv3 2 (oI (((10 * 0) + (tH B n p)) - 48))) 3 = some (oI 0) := s1_ne (by decide) (fun _ => rfl) l3
    have l2 : px_lg (px_s1 lv3 2 (oI (((10 * 0) + (tH B n p)) - 48))) 2 = some (oI (((10 * 0) + (tH B n p)) - 48)) := s1_eq
    generalize px_s1 lv3 2 (oI (((10 * 0) + (tH B n p)) - 48)) = lv8 at l0 l1 l3 l2 ⊢
    show t_X d 93 41 lv8 [] g P
    refine t_0 znu152_41 rfl (ld_a l0) ?_
    refine t_0 znu152_42 rfl rfl ?_
    refine t_0 znu152_43 rfl (pq_cv eo_152 rfl (show cF g 152 4 = p from S_f hS 0 (Nat.le_of_ble_eq_true rfl))) ?_
    show t_X d 93 46 lv8 [oI (p), pvR 152] g P
    refine t_0 znu152_46 rfl rfl ?_
    refine t_0 znu152_47 rfl pq_add ?_
    refine ts_f (n := 0) rfl rfl (by decide) znu152_48 rfl eo_152 hS wt_tW152_152_4 gy_152_4 (by decide) ⟨by omega, by omega⟩ (fun g9 hS9 => ?_)
    replace hS9 : tS152 g0 g9 (p + 1) m 0 c := hS9
    show t_X d 93 51 lv8 [] g9 P
    refine t_2 znu152_51 rfl (w := (px_s1 lv8 3 (oI 1), [])) (pq_inc l3 (by decide)) ?_
    replace l0 : px_lg (px_s1 lv8 3 (oI 1)) 0 = some (pvR 152) := s1_ne (by decide) (fun _ => rfl) l0
    replace l1 : px_lg (px_s1 lv8 3 (oI 1)) 1 = some (oI (p)) := s1_ne (by decide) (fun _ => rfl) l1
    replace l2 : px_lg (px_s1 lv8 3 (oI 1)) 2 = some (oI (((10 * 0) + (tH B n p)) - 48)) := s1_ne (by decide) (fun _ => rfl) l2
    have l3 : px_lg (px_s1 lv8 3 (oI 1)) 3 = some (oI 1) := s1_eq
    generalize px_s1 lv8 3 (oI 1) = lv10 at l0 l1 l2 l3 ⊢
    show t_X d 93 54 lv10 [] g9 P
    refine t_1 znu152_54 rfl (pb_goto (pc := 54) (by decide)) ?_
    show t_X d 93 9 lv10 [] g9 P
    refine t_0 znu152_9 rfl (ld_i l3) ?_
    refine t_0 znu152_10 rfl rfl ?_
    refine tb_ge znu152_11 (by decide) ⟨by omega, by omega⟩ ⟨by omega, by omega⟩ (fun c11 => absurd c11 (by omega)) (fun c11 => ?_)
    show t_X d 93 14 lv10 [] g9 P
    refine t_0 znu152_14 rfl (ld_a l0) ?_
    refine t_3 znu152_15 rfl (ar := ([pvR 152], [])) (pcal_w (as := []) rfl rfl rfl eo_152) ⟨by omega, Nat.le_of_ble_eq_true rfl, Nat.le_of_ble_eq_true rfl, rfl⟩ ?_
    refine sg152_run hB hS9 ?_ rfl
    have b12 := hH (p + 1) (by omega)
    have z12 := tH_n (B := B) (n := n) (p := p + 1)
    show t_X d 93 18 lv10 [oI (tH B n (p + 1))] g9 P
    refine t_0 znu152_18 rfl (pq_b (by decide)) ?_
    refine t_0 znu152_20 rfl (pq_b (by decide)) ?_
    refine t_3 znu152_22 rfl (ar := ([oI (tH B n (p + 1)), oI 48, oI 57], [])) (pcal_s ⟨Or.inr rfl, rfl, Nat.le_of_ble_eq_true rfl⟩) ⟨by omega, Nat.le_of_ble_eq_true rfl, Nat.le_of_ble_eq_true rfl, rfl⟩ ?_
    refine ii_run ⟨by omega, by omega⟩ ⟨by omega, by omega⟩ ⟨by omega, by omega⟩ rfl rfl rfl (fun t13 => ?_) (fun t13 => ?_)
    · show t_X d 93 25 lv10 [oI 1] g9 P
      refine tz_eq znu152_25 (by decide) ⟨by omega, by omega⟩ (fun c14 => absurd c14 (by omega)) (fun c14 => ?_)
      show t_X d 93 28 lv10 [] g9 P
      refine t_0 znu152_28 rfl (pq_b (by decide)) ?_
      refine t_0 znu152_30 rfl (ld_i l2) ?_
      refine t_0 znu152_31 rfl pq_mul ?_
      refine t_0 znu152_32 rfl (ld_a l0) ?_
      refine t_3 znu152_33 rfl (ar := ([pvR 152], [oI (10 * (((10 * 0) + (tH B n p)) - 48))])) (pcal_w (as := []) rfl rfl rfl eo_152) ⟨by omega, Nat.le_of_ble_eq_true rfl, Nat.le_of_ble_eq_true rfl, rfl⟩ ?_
      refine sg152_run hB hS9 ?_ rfl
      show t_X d 93 36 lv10 [oI (tH B n (p + 1)), oI (10 * (((10 * 0) + (tH B n p)) - 48))] g9 P
      refine t_0 znu152_36 rfl pq_add ?_
      refine t_0 znu152_37 rfl (pq_b (by decide)) ?_
      refine t_0 znu152_39 rfl pq_sub ?_
      refine t_2 znu152_40 rfl (w := (px_s1 lv10 2 (oI (((10 * (((10 * 0) + (tH B n p)) - 48)) + (tH B n (p + 1))) - 48)), [])) rfl ?_
      replace l0 : px_lg (px_s1 lv10 2 (oI (((10 * (((10 * 0) + (tH B n p)) - 48)) + (tH B n (p + 1))) - 48))) 0 = some (pvR 152) := s1_ne (by decide) (fun _ => rfl) l0
      replace l1 : px_lg (px_s1 lv10 2 (oI (((10 * (((10 * 0) + (tH B n p)) - 48)) + (tH B n (p + 1))) - 48))) 1 = some (oI (p)) := s1_ne (by decide) (fun _ => rfl) l1
      replace l3 : px_lg (px_s1 lv10 2 (oI (((10 * (((10 * 0) + (tH B n p)) - 48)) + (tH B n (p + 1))) - 48))) 3 = some (oI 1) := s1_ne (by decide) (fun _ => rfl) l3
      have l2 : px_lg (px_s1 lv10 2 (oI (((10 * (((10 * 0) + (tH B n p)) - 48)) + (tH B n (p + 1))) - 48))) 2 = some (oI (((10 * (((10 * 0) + (tH B n p)) - 48)) + (tH B n (p + 1))) - 48)) := s1_eq
      generalize px_s1 lv10 2 (oI (((10 * (((10 * 0) + (tH B n p)) - 48)) + (tH B n (p + 1))) - 48)) = lv15 at l0 l1 l3 l2 ⊢
      show t_X d 93 41 lv15 [] g9 P
      refine t_0 znu152_41 rfl (ld_a l0) ?_
      refine t_0 znu152_42 rfl rfl ?_
      refine t_0 znu152_43 rfl (pq_cv eo_152 rfl (show cF g9 152 4 = p + 1 from S_f hS9 0 (Nat.le_of_ble_eq_true rfl))) ?_
      show t_X d 93 46 lv15 [oI (p + 1), pvR 152] g9 P
      refine t_0 znu152_46 rfl rfl ?_
      refine t_0 znu152_47 rfl pq_add ?_
      refine ts_f (n := 0) rfl rfl (by decide) znu152_48 rfl eo_152 hS9 wt_tW152_152_4 gy_152_4 (by decide) ⟨by omega, by omega⟩ (fun g16 hS16 => ?_)
      replace hS16 : tS152 g0 g16 ((p + 1) + 1) m 0 c := hS16
      show t_X d 93 51 lv15 [] g16 P
      refine t_2 znu152_51 rfl (w := (px_s1 lv15 3 (oI 2), [])) (pq_inc l3 (by decide)) ?_
      replace l0 : px_lg (px_s1 lv15 3 (oI 2)) 0 = some (pvR 152) := s1_ne (by decide) (fun _ => rfl) l0
      replace l1 : px_lg (px_s1 lv15 3 (oI 2)) 1 = some (oI (p)) := s1_ne (by decide) (fun _ => rfl) l1
      replace l2 : px_lg (px_s1 lv15 3 (oI 2)) 2 = some (oI (((10 * (((10 * 0) + (tH B n p)) - 48)) + (tH B n (p + 1))) - 48)) := s1_ne (by decide) (fun _ => rfl) l2
      have l3 : px_lg (px_s1 lv15 3 (oI 2)) 3 = some (oI 2) := s1_eq
      generalize px_s1 lv15 3 (oI 2) = lv17 at l0 l1 l2 l3 ⊢
      show t_X d 93 54 lv17 [] g16 P
      refine t_1 znu152_54 rfl (pb_goto (pc := 54) (by decide)) ?_
      show t_X d 93 9 lv17 [] g16 P
      refine t_0 znu152_9 rfl (ld_i l3) ?_
      refine t_0 znu152_10 rfl rfl ?_
      refine tb_ge znu152_11 (by decide) ⟨by omega, by omega⟩ ⟨by omega, by omega⟩ (fun c18 => ?_) (fun c18 => absurd c18 (by omega))
      show t_X d 93 57 lv17 [] g16 P
      refine t_0 znu152_57 rfl (ld_a l0) ?_
      refine t_0 znu152_58 rfl (pq_cv eo_152 rfl (show cF g16 152 4 = (p + 1) + 1 from S_f hS16 0 (Nat.le_of_ble_eq_true rfl))) ?_
      show t_X d 93 61 lv17 [oI ((p + 1) + 1)] g16 P
      refine t_0 znu152_61 rfl (ld_i l1) ?_
      refine tb_ne znu152_62 (by decide) ⟨by omega, by omega⟩ ⟨by omega, by omega⟩ (fun c19 => ?_) (fun c19 => absurd c19 (by omega))
      show t_X d 93 77 lv17 [] g16 P
      refine t_0 znu152_77 rfl (ld_i l2) ?_
      refine t_0 znu152_78 rfl (pq_b (by decide)) ?_
      refine tb_lt znu152_80 (by decide) ⟨by omega, by omega⟩ ⟨by omega, by omega⟩ (fun c20 => ?_) (fun c20 => ?_)
      · show t_X d 93 89 lv17 [] g16 P
        refine t_0 znu152_89 rfl (ld_i l2) ?_
        refine t_5 znu152_90 rfl rfl ?_
        refine hO _ _ _ hS16 ?_
        unfold tNu tDg
        omega
      · show t_X d 93 83 lv17 [] g16 P
        refine t_0 znu152_83 rfl (ld_a l0) ?_
        refine t_0 znu152_84 rfl rfl ?_
        refine t_0 znu152_85 rfl (ld_i l1) ?_
        refine t_3 znu152_86 rfl (ar := ([pvR 152, oI 3, oI (p)], [])) (pcal_w (as := [oI (p), oI 3]) rfl rfl rfl eo_152) ⟨by omega, Nat.le_of_ble_eq_true rfl, Nat.le_of_ble_eq_true rfl, rfl⟩ ?_
        refine fl152_run hB hS16 ⟨by omega, by omega⟩ ⟨by omega, by omega⟩ (fun g21 hS21 => ?_) rfl rfl rfl
        replace hS21 : tS152 g0 g21 ((p + 1) + 1) m (-1000 * 3 - p) c := hS21
        show t_X d 93 89 lv17 [] g21 P
        refine t_0 znu152_89 rfl (ld_i l2) ?_
        refine t_5 znu152_90 rfl rfl ?_
        exact hF _ _ _ _ hS21 (by unfold tNf tDg; omega)
    · show t_X d 93 25 lv10 [oI 0] g9 P
      refine tz_eq znu152_25 (by decide) ⟨by omega, by omega⟩ (fun c22 => ?_) (fun c22 => absurd c22 (by omega))
      show t_X d 93 57 lv10 [] g9 P
      refine t_0 znu152_57 rfl (ld_a l0) ?_
      refine t_0 znu152_58 rfl (pq_cv eo_152 rfl (show cF g9 152 4 = p + 1 from S_f hS9 0 (Nat.le_of_ble_eq_true rfl))) ?_
      show t_X d 93 61 lv10 [oI (p + 1)] g9 P
      refine t_0 znu152_61 rfl (ld_i l1) ?_
      refine tb_ne znu152_62 (by decide) ⟨by omega, by omega⟩ ⟨by omega, by omega⟩ (fun c23 => ?_) (fun c23 => absurd c23 (by omega))
      show t_X d 93 77 lv10 [] g9 P
      refine t_0 znu152_77 rfl (ld_i l2) ?_
      refine t_0 znu152_78 rfl (pq_b (by decide)) ?_
      refine tb_lt znu152_80 (by decide) ⟨by omega, by omega⟩ ⟨by omega, by omega⟩ (fun c24 => ?_) (fun c24 => absurd c24 (by omega))
      show t_X d 93 89 lv10 [] g9 P
      refine t_0 znu152_89 rfl (ld_i l2) ?_
      refine t_5 znu152_90 rfl rfl ?_
      refine hO _ _ _ hS9 ?_
      unfold tNu tDg
      omega
  · show t_X d 93 25 lv3 [oI 0] g P
    refine tz_eq znu152_25 (by decide) ⟨by omega, by omega⟩ (fun c25 => ?_) (fun c25 => absurd c25 (by omega))
    show t_X d 93 57 lv3 [] g P
    refine t_0 znu152_57 rfl (ld_a l0) ?_
    refine t_0 znu152_58 rfl (pq_cv eo_152 rfl (show cF g 152 4 = p from S_f hS 0 (Nat.le_of_ble_eq_true rfl))) ?_
    show t_X d 93 61 lv3 [oI (p)] g P
    refine t_0 znu152_61 rfl (ld_i l1) ?_
    refine tb_ne znu152_62 (by decide) ⟨by omega, by omega⟩ ⟨by omega, by omega⟩ (fun c26 => absurd c26 (by omega)) (fun c26 => ?_)
    show t_X d 93 65 lv3 [] g P
    refine t_0 znu152_65 rfl (ld_a l0) ?_
    refine t_0 znu152_66 rfl rfl ?_
    refine t_0 znu152_67 rfl (ld_a l0) ?_
    refine t_0 znu152_68 rfl (pq_cv eo_152 rfl (show cF g 152 4 = p from S_f hS 0 (Nat.le_of_ble_eq_true rfl))) ?_
    show t_X d 93 71 lv3 [oI (p), oI 1, pvR 152] g P
    refine t_3 znu152_71 rfl (ar := ([pvR 152, oI 1, oI (p)], [])) (pcal_w (as := [oI (p), oI 1]) rfl rfl rfl eo_152) ⟨by omega, Nat.le_of_ble_eq_true rfl, Nat.le_of_ble_eq_true rfl, rfl⟩ ?_
    refine fl152_run hB hS ⟨by omega, by omega⟩ ⟨by omega, by omega⟩ (fun g27 hS27 => ?_) rfl rfl rfl
    replace hS27 : tS152 g0 g27 p m (-1000 * 1 - p) c := hS27
    show t_X d 93 74 lv3 [] g27 P
    refine t_1 znu152_74 rfl (pb_goto (pc := 74) (by decide)) ?_
    show t_X d 93 89 lv3 [] g27 P
    refine t_0 znu152_89 rfl (ld_i l2) ?_
    refine t_5 znu152_90 rfl rfl ?_
    exact hF _ _ _ _ hS27 (by unfold tNf tDg; omega)
set_option maxHeartbeats 2000000 in
theorem rl152p {d : Nat} (hd : 1 ≤ d) {g0 : pH} {B : tC} {n : Int} (hB : tB152 g0 B n) {p m a z : Int} (ha : 0 ≤ a ∧ a ≤ 31 ∧ 0 ≤ z ∧ z ≤ 31 ∧ a ≤ z) (hm : 0 ≤ m ∧ m ≤ 60) {c0 : tC} {P : Option pv × pH → Prop} (hO : ∀ (g1 : pH) (c1 : tC), tS152 g0 g1 p (m + (z - a + 1)) 0 c1 → (∀ j : Nat, (j : Int) < m → c1 j = c0 j) → (∀ i : Nat, (i : Int) < z - a + 1 → m + i < 60 → c1 (m + i).toNat = a + (i : Int)) → P (none, g1)) : ∀ (y k : Nat) (g : pH) (lv : List (Nat × pv)) {c : tC}, z - a + 1 - k ≤ y → (k : Int) ≤ z - a + 1 → tS152 g0 g p (m + (k : Int)) 0 c → ((∀ j : Nat, (j : Int) < m → c j = c0 j) ∧ ∀ i : Nat, i < k → m + i < 60 → c (m + i).toNat = a + (i : Int)) → px_lg lv 0 = some (pvR 152) → px_lg lv 1 = some (oI a) → px_lg lv 2 = some (oI z) → px_lg lv 3 = some (oI 1) → px_lg lv 4 = some (oI (z - a + 1)) → px_lg lv 5 = some (oI (k : Int)) → t_X d 95 70 lv [] g P := by
  intro y
  induction y with
  | zero =>
    intro k g lv c hy hk hS hc l0 l1 l2 l3 l4 l5
    have ek0 : (k : Int) = z - a + 1 := by omega
    refine t_0 zrw152_70 rfl (ld_i l5) ?_
    refine t_0 zrw152_72 rfl (ld_i l4) ?_
    refine tb_ge zrw152_74 (by decide) ⟨by omega, by omega⟩ ⟨by omega, by omega⟩ (fun c1 => ?_) (fun c1 => absurd c1 (by omega))
    show t_X d 95 93 lv [] g P
    refine t_5 zrw152_93 rfl rfl ?_
    have ek : (k : Int) = z - a + 1 := by omega
    rw [ek] at hS
    exact hO _ _ hS hc.1 (fun i hi h6 => hc.2 i (by omega) h6)
  | succ y ih =>
    intro k g lv c hy hk hS hc l0 l1 l2 l3 l4 l5
    by_cases hkk : (k : Int) < z - a + 1
    · skip
      refine t_0 zrw152_70 rfl (ld_i l5) ?_
      refine t_0 zrw152_72 rfl (ld_i l4) ?_
      refine tb_ge zrw152_74 (by decide) ⟨by omega, by omega⟩ ⟨by omega, by omega⟩ (fun c1 => absurd c1 (by omega)) (fun c1 => ?_)
      show t_X d 95 77 lv [] g P
      refine t_0 zrw152_77 rfl (ld_a l0) ?_
      refine t_0 zrw152_78 rfl (ld_i l1) ?_
      refine t_0 zrw152_79 rfl (ld_i l5) ?_
      refine t_0 zrw152_81 rfl (ld_i l3) ?_
      refine t_0 zrw152_82 rfl pq_mul ?_
      refine t_0 zrw152_83 rfl pq_add ?_
      refine t_3 zrw152_84 rfl (ar := ([pvR 152, oI (a + ((k : Int) * 1))], [])) (pcal_w (as := [oI (a + ((k : Int) * 1))]) rfl rfl rfl eo_152) ⟨by omega, Nat.le_of_ble_eq_true rfl, Nat.le_of_ble_eq_true rfl, rfl⟩ ?_
      refine ap152_run hB hS ⟨by omega, by omega⟩ (by omega) (fun t2 g2 hS2 => ?_) (fun t2 g2 hS2 => ?_) rfl rfl
      · replace hS2 : tS152 g0 g2 p ((m + (k : Int)) + 1) 0 (updI c (m + (k : Int)).toNat (a + ((k : Int) * 1))) := hS2
        show t_X d 95 87 lv [] g2 P
        refine t_2 zrw152_87 rfl (w := (px_s1 lv 5 (oI ((k : Int) + 1)), [])) (pq_inc l5 (by decide)) ?_
        replace l0 : px_lg (px_s1 lv 5 (oI ((k : Int) + 1))) 0 = some (pvR 152) := s1_ne (by decide) (fun _ => rfl) l0
        replace l1 : px_lg (px_s1 lv 5 (oI ((k : Int) + 1))) 1 = some (oI (a)) := s1_ne (by decide) (fun _ => rfl) l1
        replace l2 : px_lg (px_s1 lv 5 (oI ((k : Int) + 1))) 2 = some (oI (z)) := s1_ne (by decide) (fun _ => rfl) l2
        replace l3 : px_lg (px_s1 lv 5 (oI ((k : Int) + 1))) 3 = some (oI 1) := s1_ne (by decide) (fun _ => rfl) l3
        replace l4 : px_lg (px_s1 lv 5 (oI ((k : Int) + 1))) 4 = some (oI (z - a + 1)) := s1_ne (by decide) (fun _ => rfl) l4
        have l5 : px_lg (px_s1 lv 5 (oI ((k : Int) + 1))) 5 = some (oI ((k : Int) + 1)) := s1_eq
        generalize px_s1 lv 5 (oI ((k : Int) + 1)) = lv3 at l0 l1 l2 l3 l4 l5 ⊢
        show t_X d 95 90 lv3 [] g2 P
        refine t_1 zrw152_90 rfl (pb_goto (pc := 90) (by decide)) ?_
        show t_X d 95 70 lv3 [] g2 P
        refine ih (k + 1) _ _ (by omega) (by omega) (show tS152 g0 g2 p (m + ((k + 1 : Nat) : Int)) 0 (updI c (m + (k : Int)).toNat (a + ((k : Int) * 1))) by rw [show m + ((k + 1 : Nat) : Int) = m + (k : Int) + 1 by omega]; exact hS2) ⟨fun j hj => ?_, fun i hi h6 => ?_⟩ l0 l1 l2 l3 l4 l5
        · unfold updI
          rw [if_neg (by omega)]
          exact hc.1 j hj
        · unfold updI
          by_cases e : i = k
          · subst e; rw [if_pos rfl]; omega
          · rw [if_neg (by omega)]; exact hc.2 i (by omega) h6
      · replace hS2 : tS152 g0 g2 p ((m + (k : Int)) + 1) 0 c := hS2
        show t_X d 95 87 lv [] g2 P
        refine t_2 zrw152_87 rfl (w := (px_s1 lv 5 (oI ((k : Int) + 1)), [])) (pq_inc l5 (by decide)) ?_
        replace l0 : px_lg (px_s1 lv 5 (oI ((k : Int) + 1))) 0 = some (pvR 152) := s1_ne (by decide) (fun _ => rfl) l0
        replace l1 : px_lg (px_s1 lv 5 (oI ((k : Int) + 1))) 1 = some (oI (a)) := s1_ne (by decide) (fun _ => rfl) l1
        replace l2 : px_lg (px_s1 lv 5 (oI ((k : Int) + 1))) 2 = some (oI (z)) := s1_ne (by decide) (fun _ => rfl) l2
        replace l3 : px_lg (px_s1 lv 5 (oI ((k : Int) + 1))) 3 = some (oI 1) := s1_ne (by decide) (fun _ => rfl) l3
        replace l4 : px_lg (px_s1 lv 5 (oI ((k : Int) + 1))) 4 = some (oI (z - a + 1)) := s1_ne (by decide) (fun _ => rfl) l4
        have l5 : px_lg (px_s1 lv 5 (oI ((k : Int) + 1))) 5 = some (oI ((k : Int) + 1)) := s1_eq
        generalize px_s1 lv 5 (oI ((k : Int) + 1)) = lv4 at l0 l1 l2 l3 l4 l5 ⊢
        show t_X d 95 90 lv4 [] g2 P
        refine t_1 zrw152_90 rfl (pb_goto (pc := 90) (by decide)) ?_
        show t_X d 95 70 lv4 [] g2 P
        refine ih (k + 1) _ _ (by omega) (by omega) (show tS152 g0 g2 p (m + ((k + 1 : Nat) : Int)) 0 c by rw [show m + ((k + 1 : Nat) : Int) = m + (k : Int) + 1 by omega]; exact hS2) ⟨fun j hj => ?_, fun i hi h6 => ?_⟩ l0 l1 l2 l3 l4 l5
        · exact hc.1 j hj
        · exact hc.2 i (by omega) h6
    · skip
      refine t_0 zrw152_70 rfl (ld_i l5) ?_
      refine t_0 zrw152_72 rfl (ld_i l4) ?_
      refine tb_ge zrw152_74 (by decide) ⟨by omega, by omega⟩ ⟨by omega, by omega⟩ (fun c1 => ?_) (fun c1 => absurd c1 (by omega))
      show t_X d 95 93 lv [] g P
      refine t_5 zrw152_93 rfl rfl ?_
      have ek : (k : Int) = z - a + 1 := by omega
      rw [ek] at hS
      exact hO _ _ hS hc.1 (fun i hi h6 => hc.2 i (by omega) h6)
set_option maxHeartbeats 2000000 in
theorem rl152m {d : Nat} (hd : 1 ≤ d) {g0 : pH} {B : tC} {n : Int} (hB : tB152 g0 B n) {p m a z : Int} (ha : 0 ≤ a ∧ a ≤ 31 ∧ 0 ≤ z ∧ z ≤ 31 ∧ z < a) (hm : 0 ≤ m ∧ m ≤ 60) {c0 : tC} {P : Option pv × pH → Prop} (hO : ∀ (g1 : pH) (c1 : tC), tS152 g0 g1 p (m + (a - z + 1)) 0 c1 → (∀ j : Nat, (j : Int) < m → c1 j = c0 j) → (∀ i : Nat, (i : Int) < a - z + 1 → m + i < 60 → c1 (m + i).toNat = a - (i : Int)) → P (none, g1)) : ∀ (y k : Nat) (g : pH) (lv : List (Nat × pv)) {c : tC}, a - z + 1 - k ≤ y → (k : Int) ≤ a - z + 1 → tS152 g0 g p (m + (k : Int)) 0 c → ((∀ j : Nat, (j : Int) < m → c j = c0 j) ∧ ∀ i : Nat, i < k → m + i < 60 → c (m + i).toNat = a - (i : Int)) → px_lg lv 0 = some (pvR 152) → px_lg lv 1 = some (oI a) → px_lg lv 2 = some (oI z) → px_lg lv 3 = some (oI (-1)) → px_lg lv 4 = some (oI (a - z + 1)) → px_lg lv 5 = some (oI (k : Int)) → t_X d 95 70 lv [] g P := by
  intro y
  induction y with
  | zero =>
    intro k g lv c hy hk hS hc l0 l1 l2 l3 l4 l5
    have ek0 : (k : Int) = a - z + 1 := by omega
    refine t_0 zrw152_70 rfl (ld_i l5) ?_
    refine t_0 zrw152_72 rfl (ld_i l4) ?_
    refine tb_ge zrw152_74 (by decide) ⟨by omega, by omega⟩ ⟨by omega, by omega⟩ (fun c1 => ?_) (fun c1 => absurd c1 (by omega))
    show t_X d 95 93 lv [] g P
    refine t_5 zrw152_93 rfl rfl ?_
    have ek : (k : Int) = a - z + 1 := by omega
    rw [ek] at hS
    exact hO _ _ hS hc.1 (fun i hi h6 => hc.2 i (by omega) h6)
  | succ y ih =>
    intro k g lv c hy hk hS hc l0 l1 l2 l3 l4 l5
    by_cases hkk : (k : Int) < a - z + 1
    · skip
      refine t_0 zrw152_70 rfl (ld_i l5) ?_
      refine t_0 zrw152_72 rfl (ld_i l4) ?_
      refine tb_ge zrw152_74 (by decide) ⟨by omega, by omega⟩ ⟨by omega, by omega⟩ (fun c1 => absurd c1 (by omega)) (fun c1 => ?_)
      show t_X d 95 77 lv [] g P
      refine t_0 zrw152_77 rfl (ld_a l0) ?_
      refine t_0 zrw152_78 rfl (ld_i l1) ?_
      refine t_0 zrw152_79 rfl (ld_i l5) ?_
      refine t_0 zrw152_81 rfl (ld_i l3) ?_
      refine t_0 zrw152_82 rfl pq_mul ?_
      refine t_0 zrw152_83 rfl pq_add ?_
      refine t_3 zrw152_84 rfl (ar := ([pvR 152, oI (a + ((k : Int) * (-1)))], [])) (pcal_w (as := [oI (a + ((k : Int) * (-1)))]) rfl rfl rfl eo_152) ⟨by omega, Nat.le_of_ble_eq_true rfl, Nat.le_of_ble_eq_true rfl, rfl⟩ ?_
      refine ap152_run hB hS ⟨by omega, by omega⟩ (by omega) (fun t2 g2 hS2 => ?_) (fun t2 g2 hS2 => ?_) rfl rfl
      · replace hS2 : tS152 g0 g2 p ((m + (k : Int)) + 1) 0 (updI c (m + (k : Int)).toNat (a + ((k : Int) * (-1)))) := hS2
        show t_X d 95 87 lv [] g2 P
        refine t_2 zrw152_87 rfl (w := (px_s1 lv 5 (oI ((k : Int) + 1)), [])) (pq_inc l5 (by decide)) ?_
        replace l0 : px_lg (px_s1 lv 5 (oI ((k : Int) + 1))) 0 = some (pvR 152) := s1_ne (by decide) (fun _ => rfl) l0
        replace l1 : px_lg (px_s1 lv 5 (oI ((k : Int) + 1))) 1 = some (oI (a)) := s1_ne (by decide) (fun _ => rfl) l1
        replace l2 : px_lg (px_s1 lv 5 (oI ((k : Int) + 1))) 2 = some (oI (z)) := s1_ne (by decide) (fun _ => rfl) l2
        replace l3 : px_lg (px_s1 lv 5 (oI ((k : Int) + 1))) 3 = some (oI (-1)) := s1_ne (by decide) (fun _ => rfl) l3
        replace l4 : px_lg (px_s1 lv 5 (oI ((k : Int) + 1))) 4 = some (oI (a - z + 1)) := s1_ne (by decide) (fun _ => rfl) l4
        have l5 : px_lg (px_s1 lv 5 (oI ((k : Int) + 1))) 5 = some (oI ((k : Int) + 1)) := s1_eq
        generalize px_s1 lv 5 (oI ((k : Int) + 1)) = lv3 at l0 l1 l2 l3 l4 l5 ⊢
        show t_X d 95 90 lv3 [] g2 P
        refine t_1 zrw152_90 rfl (pb_goto (pc := 90) (by decide)) ?_
        show t_X d 95 70 lv3 [] g2 P
        refine ih (k + 1) _ _ (by omega) (by omega) (show tS152 g0 g2 p (m + ((k + 1 : Nat) : Int)) 0 (updI c (m + (k : Int)).toNat (a + ((k : Int) * (-1)))) by rw [show m + ((k + 1 : Nat) : Int) = m + (k : Int) + 1 by omega]; exact hS2) ⟨fun j hj => ?_, fun i hi h6 => ?_⟩ l0 l1 l2 l3 l4 l5
        · unfold updI
          rw [if_neg (by omega)]
          exact hc.1 j hj
        · unfold updI
          by_cases e : i = k
          · subst e; rw [if_pos rfl]; omega
          · rw [if_neg (by omega)]; exact hc.2 i (by omega) h6
      · replace hS2 : tS152 g0 g2 p ((m + (k : Int)) + 1) 0 c := hS2
        show t_X d 95 87 lv [] g2 P
        refine t_2 zrw152_87 rfl (w := (px_s1 lv 5 (oI ((k : Int) + 1)), [])) (pq_inc l5 (by decide)) ?_
        replace l0 : px_lg (px_s1 lv 5 (oI ((k : Int) + 1))) 0 = some (pvR 152) := s1_ne (by decide) (fun _ => rfl) l0
        replace l1 : px_lg (px_s1 lv 5 (oI ((k : Int) + 1))) 1 = some (oI (a)) := s1_ne (by decide) (fun _ => rfl) l1
        replace l2 : px_lg (px_s1 lv 5 (oI ((k : Int) + 1))) 2 = some (oI (z)) := s1_ne (by decide) (fun _ => rfl) l2
        replace l3 : px_lg (px_s1 lv 5 (oI ((k : Int) + 1))) 3 = some (oI (-1)) := s1_ne (by decide) (fun _ => rfl) l3
        replace l4 : px_lg (px_s1 lv 5 (oI ((k : Int) + 1))) 4 = some (oI (a - z + 1)) := s1_ne (by decide) (fun _ => rfl) l4
        have l5 : px_lg (px_s1 lv 5 (oI ((k : Int) + 1))) 5 = some (oI ((k : Int) + 1)) := s1_eq
        generalize px_s1 lv 5 (oI ((k : Int) + 1)) = lv4 at l0 l1 l2 l3 l4 l5 ⊢
        show t_X d 95 90 lv4 [] g2 P
        refine t_1 zrw152_90 rfl (pb_goto (pc := 90) (by decide)) ?_
        show t_X d 95 70 lv4 [] g2 P
        refine ih (k + 1) _ _ (by omega) (by omega) (show tS152 g0 g2 p (m + ((k + 1 : Nat) : Int)) 0 c by rw [show m + ((k + 1 : Nat) : Int) = m + (k : Int) + 1 by omega]; exact hS2) ⟨fun j hj => ?_, fun i hi h6 => ?_⟩ l0 l1 l2 l3 l4 l5
        · exact hc.1 j hj
        · exact hc.2 i (by omega) h6
    · skip
      refine t_0 zrw152_70 rfl (ld_i l5) ?_
      refine t_0 zrw152_72 rfl (ld_i l4) ?_
      refine tb_ge zrw152_74 (by decide) ⟨by omega, by omega⟩ ⟨by omega, by omega⟩ (fun c1 => ?_) (fun c1 => absurd c1 (by omega))
      show t_X d 95 93 lv [] g P
      refine t_5 zrw152_93 rfl rfl ?_
      have ek : (k : Int) = a - z + 1 := by omega
      rw [ek] at hS
      exact hO _ _ hS hc.1 (fun i hi h6 => hc.2 i (by omega) h6)
set_option maxHeartbeats 4000000 in
theorem rw152_run {d : Nat} (hd : 2 ≤ d) {g0 g : pH} {B : tC} {n : Int} (hB : tB152 g0 B n) {p m : Int} {c : tC} (hS : tS152 g0 g p m 0 c) (hm : 0 ≤ m ∧ m ≤ 60) {P : Option pv × pH → Prop} (hF : ∀ (g1 : pH) (f q : Int), tS152 g0 g1 q m f c → f < 0 → -9999 ≤ f → tRo (tH B n) p m c (.inl f) → P (none, g1)) (hO : ∀ (g1 : pH) (q w : Int) (c1 : tC), tS152 g0 g1 q (m + w) 0 c1 → p < q ∧ q ≤ n → 1 ≤ w ∧ w ≤ 32 → (m + w ≤ 60 → tRo (tH B n) p m c (.inr (q, m + w, c1))) → (60 < m + w → tRo (tH B n) p m c (.inl (-6000 - p))) → P (none, g1)) {lv : List (Nat × pv)} (l0 : px_lg lv 0 = some (pvR 152)) : t_X d 95 0 lv [] g P := by
  obtain ⟨hn0, hn1, hp1, hm1, hH⟩ := cm152 hB hS
  refine t_0 zrw152_0 rfl (ld_a l0) ?_
  refine t_3 zrw152_1 rfl (ar := ([pvR 152], [])) (pcal_w (as := []) rfl rfl rfl eo_152) ⟨by omega, Nat.le_of_ble_eq_true rfl, Nat.le_of_ble_eq_true rfl, rfl⟩ ?_
  refine nu152_run (by omega) hB hS (fun g1 f1 q1 v1 hS1 t1 => ?_) (fun g1 v1 q1 hS1 t1 => ?_) rfl
  · replace hS1 : tS152 g0 g1 q1 m f1 c := hS1
    have u1 : f1 < 0 ∧ -9999 ≤ f1 := by unfold tNf tDg at t1; omega
    show t_X d 95 4 lv [oI (v1)] g1 P
    refine t_2 zrw152_4 rfl (w := (px_s1 lv 1 (oI (v1)), [])) rfl ?_
    replace l0 : px_lg (px_s1 lv 1 (oI (v1))) 0 = some (pvR 152) := s1_ne (by decide) (fun _ => rfl) l0
    have l1 : px_lg (px_s1 lv 1 (oI (v1))) 1 = some (oI (v1)) := s1_eq
    generalize px_s1 lv 1 (oI (v1)) = lv2 at l0 l1 ⊢
    show t_X d 95 5 lv2 [] g1 P
    refine t_0 zrw152_5 rfl (ld_i l1) ?_
    refine t_2 zrw152_6 rfl (w := (px_s1 lv2 2 (oI (v1)), [])) rfl ?_
    replace l0 : px_lg (px_s1 lv2 2 (oI (v1))) 0 = some (pvR 152) := s1_ne (by decide) (fun _ => rfl) l0
    replace l1 : px_lg (px_s1 lv2 2 (oI (v1))) 1 = some (oI (v1)) := s1_ne (by decide) (fun _ => rfl) l1
    have l2 : px_lg (px_s1 lv2 2 (oI (v1))) 2 = some (oI (v1)) := s1_eq
    generalize px_s1 lv2 2 (oI (v1)) = lv3 at l0 l1 l2 ⊢
    show t_X d 95 7 lv3 [] g1 P
    refine t_0 zrw152_7 rfl (ld_a l0) ?_
    refine t_0 zrw152_8 rfl (pq_cv eo_152 rfl (show cF g1 152 5 = f1 from S_f hS1 2 (Nat.le_of_ble_eq_true rfl))) ?_
    show t_X d 95 11 lv3 [oI (f1)] g1 P
    refine tz_ne zrw152_11 (by decide) ⟨by omega, by omega⟩ (fun c4 => ?_) (fun c4 => absurd c4 (by omega))
    show t_X d 95 38 lv3 [] g1 P
    refine t_0 zrw152_38 rfl (ld_a l0) ?_
    refine t_0 zrw152_39 rfl (pq_cv eo_152 rfl (show cF g1 152 5 = f1 from S_f hS1 2 (Nat.le_of_ble_eq_true rfl))) ?_
    show t_X d 95 42 lv3 [oI (f1)] g1 P
    refine tz_eq zrw152_42 (by decide) ⟨by omega, by omega⟩ (fun c5 => absurd c5 (by omega)) (fun c5 => ?_)
    show t_X d 95 45 lv3 [] g1 P
    refine t_5 zrw152_45 rfl rfl ?_
    exact hF _ _ _ hS1 (by omega) (by omega) (Or.inl ⟨_, t1, rfl⟩)
  · replace hS1 : tS152 g0 g1 q1 m 0 c := hS1
    have u1 := tNu_b t1
    have w1 := (cm152 hB hS1).2.2.1
    have x1 := tNu_n t1
    show t_X d 95 4 lv [oI (v1)] g1 P
    refine t_2 zrw152_4 rfl (w := (px_s1 lv 1 (oI (v1)), [])) rfl ?_
    replace l0 : px_lg (px_s1 lv 1 (oI (v1))) 0 = some (pvR 152) := s1_ne (by decide) (fun _ => rfl) l0
    have l1 : px_lg (px_s1 lv 1 (oI (v1))) 1 = some (oI (v1)) := s1_eq
    generalize px_s1 lv 1 (oI (v1)) = lv6 at l0 l1 ⊢
    show t_X d 95 5 lv6 [] g1 P
    refine t_0 zrw152_5 rfl (ld_i l1) ?_
    refine t_2 zrw152_6 rfl (w := (px_s1 lv6 2 (oI (v1)), [])) rfl ?_
    replace l0 : px_lg (px_s1 lv6 2 (oI (v1))) 0 = some (pvR 152) := s1_ne (by decide) (fun _ => rfl) l0
    replace l1 : px_lg (px_s1 lv6 2 (oI (v1))) 1 = some (oI (v1)) := s1_ne (by decide) (fun _ => rfl) l1
    have l2 : px_lg (px_s1 lv6 2 (oI (v1))) 2 = some (oI (v1)) := s1_eq
    generalize px_s1 lv6 2 (oI (v1)) = lv7 at l0 l1 l2 ⊢
    show t_X d 95 7 lv7 [] g1 P
    refine t_0 zrw152_7 rfl (ld_a l0) ?_
    refine t_0 zrw152_8 rfl (pq_cv eo_152 rfl (show cF g1 152 5 = 0 from S_f hS1 2 (Nat.le_of_ble_eq_true rfl))) ?_
    show t_X d 95 11 lv7 [oI 0] g1 P
    refine tz_ne zrw152_11 (by decide) ⟨by omega, by omega⟩ (fun c8 => absurd c8 (by omega)) (fun c8 => ?_)
    show t_X d 95 14 lv7 [] g1 P
    refine t_0 zrw152_14 rfl (ld_a l0) ?_
    refine t_3 zrw152_15 rfl (ar := ([pvR 152], [])) (pcal_w (as := []) rfl rfl rfl eo_152) ⟨by omega, Nat.le_of_ble_eq_true rfl, Nat.le_of_ble_eq_true rfl, rfl⟩ ?_
    refine sg152_run hB hS1 ?_ rfl
    have b9 := hH q1 (by omega)
    have z9 := tH_n (B := B) (n := n) (p := q1)
    show t_X d 95 18 lv7 [oI (tH B n q1)] g1 P
    refine t_0 zrw152_18 rfl (pq_b (by decide)) ?_
    refine tb_ne zrw152_20 (by decide) ⟨by omega, by omega⟩ ⟨by omega, by omega⟩ (fun c10 => ?_) (fun c10 => ?_)
    · show t_X d 95 38 lv7 [] g1 P
      refine t_0 zrw152_38 rfl (ld_a l0) ?_
      refine t_0 zrw152_39 rfl (pq_cv eo_152 rfl (show cF g1 152 5 = 0 from S_f hS1 2 (Nat.le_of_ble_eq_true rfl))) ?_
      show t_X d 95 42 lv7 [oI 0] g1 P
      refine tz_eq zrw152_42 (by decide) ⟨by omega, by omega⟩ (fun c11 => ?_) (fun c11 => absurd c11 (by omega))
      show t_X d 95 46 lv7 [] g1 P
      refine t_0 zrw152_46 rfl (ld_i l1) ?_
      refine t_0 zrw152_47 rfl (ld_i l2) ?_
      refine tb_gt zrw152_48 (by decide) ⟨by omega, by omega⟩ ⟨by omega, by omega⟩ (fun c12 => absurd c12 (by omega)) (fun c12 => ?_)
      show t_X d 95 51 lv7 [] g1 P
      refine t_0 zrw152_51 rfl rfl ?_
      refine t_1 zrw152_52 rfl (pb_goto (pc := 52) (by decide)) ?_
      show t_X d 95 56 lv7 [oI 1] g1 P
      refine t_2 zrw152_56 rfl (w := (px_s1 lv7 3 (oI 1), [])) rfl ?_
      replace l0 : px_lg (px_s1 lv7 3 (oI 1)) 0 = some (pvR 152) := s1_ne (by decide) (fun _ => rfl) l0
      replace l1 : px_lg (px_s1 lv7 3 (oI 1)) 1 = some (oI (v1)) := s1_ne (by decide) (fun _ => rfl) l1
      replace l2 : px_lg (px_s1 lv7 3 (oI 1)) 2 = some (oI (v1)) := s1_ne (by decide) (fun _ => rfl) l2
      have l3 : px_lg (px_s1 lv7 3 (oI 1)) 3 = some (oI 1) := s1_eq
      generalize px_s1 lv7 3 (oI 1) = lv13 at l0 l1 l2 l3 ⊢
      show t_X d 95 57 lv13 [] g1 P
      refine t_0 zrw152_57 rfl (ld_i l2) ?_
      refine t_0 zrw152_58 rfl (ld_i l1) ?_
      refine t_0 zrw152_59 rfl pq_sub ?_
      refine pq_abp zrw152_60 rfl rfl (by omega) (Nat.le_of_ble_eq_true rfl) ⟨by omega, by omega⟩ ?_
      show t_X d 95 63 lv13 [oI (v1 - v1)] g1 P
      refine t_0 zrw152_63 rfl rfl ?_
      refine t_0 zrw152_64 rfl pq_add ?_
      refine t_2 zrw152_65 rfl (w := (px_s1 lv13 4 (oI ((v1 - v1) + 1)), [])) rfl ?_
      replace l0 : px_lg (px_s1 lv13 4 (oI ((v1 - v1) + 1))) 0 = some (pvR 152) := s1_ne (by decide) (fun _ => rfl) l0
      replace l1 : px_lg (px_s1 lv13 4 (oI ((v1 - v1) + 1))) 1 = some (oI (v1)) := s1_ne (by decide) (fun _ => rfl) l1
      replace l2 : px_lg (px_s1 lv13 4 (oI ((v1 - v1) + 1))) 2 = some (oI (v1)) := s1_ne (by decide) (fun _ => rfl) l2
      replace l3 : px_lg (px_s1 lv13 4 (oI ((v1 - v1) + 1))) 3 = some (oI 1) := s1_ne (by decide) (fun _ => rfl) l3
      have l4 : px_lg (px_s1 lv13 4 (oI ((v1 - v1) + 1))) 4 = some (oI ((v1 - v1) + 1)) := s1_eq
      generalize px_s1 lv13 4 (oI ((v1 - v1) + 1)) = lv14 at l0 l1 l2 l3 l4 ⊢
      show t_X d 95 67 lv14 [] g1 P
      refine t_0 zrw152_67 rfl rfl ?_
      refine t_2 zrw152_68 rfl (w := (px_s1 lv14 5 (oI 0), [])) rfl ?_
      replace l0 : px_lg (px_s1 lv14 5 (oI 0)) 0 = some (pvR 152) := s1_ne (by decide) (fun _ => rfl) l0
      replace l1 : px_lg (px_s1 lv14 5 (oI 0)) 1 = some (oI (v1)) := s1_ne (by decide) (fun _ => rfl) l1
      replace l2 : px_lg (px_s1 lv14 5 (oI 0)) 2 = some (oI (v1)) := s1_ne (by decide) (fun _ => rfl) l2
      replace l3 : px_lg (px_s1 lv14 5 (oI 0)) 3 = some (oI 1) := s1_ne (by decide) (fun _ => rfl) l3
      replace l4 : px_lg (px_s1 lv14 5 (oI 0)) 4 = some (oI ((v1 - v1) + 1)) := s1_ne (by decide) (fun _ => rfl) l4
      have l5 : px_lg (px_s1 lv14 5 (oI 0)) 5 = some (oI 0) := s1_eq
      generalize px_s1 lv14 5 (oI 0) = lv15 at l0 l1 l2 l3 l4 l5 ⊢
      show t_X d 95 70 lv15 [] g1 P
      replace l4 : px_lg lv15 4 = some (oI (v1 - v1 + 1)) := l4.trans (congrArg (fun u => some (oI u)) (by omega))
      refine rl152p (by omega) hB (a := v1) (z := v1) (p := q1) (m := m) ⟨by omega, by omega, by omega, by omega, by omega⟩ hm (c0 := c) (fun g1 c1 h1 h2 h3 => ?_) 40 0 _ _ (by omega) (by omega) (show tS152 g0 g1 q1 (m + ((0 : Nat) : Int)) 0 c by rw [show m + ((0 : Nat) : Int) = m by omega]; exact hS1) ⟨fun j _ => rfl, fun i hi => absurd hi (by omega)⟩ l0 l1 l2 l3 l4 l5
      have ew : tW v1 v1 = v1 - v1 + 1 := by unfold tW; rw [if_pos (by omega)]
      rw [← ew] at h1 h3
      refine hO _ _ _ _ h1 ⟨by omega, by omega⟩ ⟨by omega, by omega⟩ (fun h6 => ?_) (fun h6 => ?_)
      · refine Or.inr ⟨_, _, t1, Or.inl ⟨by omega, Or.inr ⟨h6, _, rfl, h2, fun k hk => ?_⟩⟩⟩
        rw [h3 k hk (by omega), if_pos (by omega)]
      · exact Or.inr ⟨_, _, t1, Or.inl ⟨by omega, Or.inl ⟨h6, rfl⟩⟩⟩
    · show t_X d 95 23 lv7 [] g1 P
      refine t_0 zrw152_23 rfl (ld_a l0) ?_
      refine t_0 zrw152_24 rfl rfl ?_
      refine t_0 zrw152_25 rfl (pq_cv eo_152 rfl (show cF g1 152 4 = q1 from S_f hS1 0 (Nat.le_of_ble_eq_true rfl))) ?_
      show t_X d 95 28 lv7 [oI (q1), pvR 152] g1 P
      refine t_0 zrw152_28 rfl rfl ?_
      refine t_0 zrw152_29 rfl pq_add ?_
      refine ts_f (n := 0) rfl rfl (by decide) zrw152_30 rfl eo_152 hS1 wt_tW152_152_4 gy_152_4 (by decide) ⟨by omega, by omega⟩ (fun g16 hS16 => ?_)
      replace hS16 : tS152 g0 g16 (q1 + 1) m 0 c := hS16
      show t_X d 95 33 lv7 [] g16 P
      refine t_0 zrw152_33 rfl (ld_a l0) ?_
      refine t_3 zrw152_34 rfl (ar := ([pvR 152], [])) (pcal_w (as := []) rfl rfl rfl eo_152) ⟨by omega, Nat.le_of_ble_eq_true rfl, Nat.le_of_ble_eq_true rfl, rfl⟩ ?_
      refine nu152_run (by omega) hB hS16 (fun g17 f17 q17 v17 hS17 t17 => ?_) (fun g17 v17 q17 hS17 t17 => ?_) rfl
      · replace hS17 : tS152 g0 g17 q17 m f17 c := hS17
        have u17 : f17 < 0 ∧ -9999 ≤ f17 := by unfold tNf tDg at t17; omega
        show t_X d 95 37 lv7 [oI (v17)] g17 P
        refine t_2 zrw152_37 rfl (w := (px_s1 lv7 2 (oI (v17)), [])) rfl ?_
        replace l0 : px_lg (px_s1 lv7 2 (oI (v17))) 0 = some (pvR 152) := s1_ne (by decide) (fun _ => rfl) l0
        replace l1 : px_lg (px_s1 lv7 2 (oI (v17))) 1 = some (oI (v1)) := s1_ne (by decide) (fun _ => rfl) l1
        have l2 : px_lg (px_s1 lv7 2 (oI (v17))) 2 = some (oI (v17)) := s1_eq
        generalize px_s1 lv7 2 (oI (v17)) = lv18 at l0 l1 l2 ⊢
        show t_X d 95 38 lv18 [] g17 P
        refine t_0 zrw152_38 rfl (ld_a l0) ?_
        refine t_0 zrw152_39 rfl (pq_cv eo_152 rfl (show cF g17 152 5 = f17 from S_f hS17 2 (Nat.le_of_ble_eq_true rfl))) ?_
        show t_X d 95 42 lv18 [oI (f17)] g17 P
        refine tz_eq zrw152_42 (by decide) ⟨by omega, by omega⟩ (fun c19 => absurd c19 (by omega)) (fun c19 => ?_)
        show t_X d 95 45 lv18 [] g17 P
        refine t_5 zrw152_45 rfl rfl ?_
        exact hF _ _ _ hS17 (by omega) (by omega) (Or.inr ⟨_, _, t1, Or.inr ⟨by omega, Or.inl ⟨_, t17, rfl⟩⟩⟩)
      · replace hS17 : tS152 g0 g17 q17 m 0 c := hS17
        have u17 := tNu_b t17
        have w17 := (cm152 hB hS17).2.2.1
        have x17 := tNu_n t17
        show t_X d 95 37 lv7 [oI (v17)] g17 P
        refine t_2 zrw152_37 rfl (w := (px_s1 lv7 2 (oI (v17)), [])) rfl ?_
        replace l0 : px_lg (px_s1 lv7 2 (oI (v17))) 0 = some (pvR 152) := s1_ne (by decide) (fun _ => rfl) l0
        replace l1 : px_lg (px_s1 lv7 2 (oI (v17))) 1 = some (oI (v1)) := s1_ne (by decide) (fun _ => rfl) l1
        have l2 : px_lg (px_s1 lv7 2 (oI (v17))) 2 = some (oI (v17)) := s1_eq
        generalize px_s1 lv7 2 (oI (v17)) = lv20 at l0 l1 l2 ⊢
        show t_X d 95 38 lv20 [] g17 P
        refine t_0 zrw152_38 rfl (ld_a l0) ?_
        refine t_0 zrw152_39 rfl (pq_cv eo_152 rfl (show cF g17 152 5 = 0 from S_f hS17 2 (Nat.le_of_ble_eq_true rfl))) ?_
        show t_X d 95 42 lv20 [oI 0] g17 P
        refine tz_eq zrw152_42 (by decide) ⟨by omega, by omega⟩ (fun c21 => ?_) (fun c21 => absurd c21 (by omega))
        show t_X d 95 46 lv20 [] g17 P
        refine t_0 zrw152_46 rfl (ld_i l1) ?_
        refine t_0 zrw152_47 rfl (ld_i l2) ?_
        refine tb_gt zrw152_48 (by decide) ⟨by omega, by omega⟩ ⟨by omega, by omega⟩ (fun c22 => ?_) (fun c22 => ?_)
        · show t_X d 95 55 lv20 [] g17 P
          refine t_0 zrw152_55 rfl rfl ?_
          refine t_2 zrw152_56 rfl (w := (px_s1 lv20 3 (oI (-1)), [])) rfl ?_
          replace l0 : px_lg (px_s1 lv20 3 (oI (-1))) 0 = some (pvR 152) := s1_ne (by decide) (fun _ => rfl) l0
          replace l1 : px_lg (px_s1 lv20 3 (oI (-1))) 1 = some (oI (v1)) := s1_ne (by decide) (fun _ => rfl) l1
          replace l2 : px_lg (px_s1 lv20 3 (oI (-1))) 2 = some (oI (v17)) := s1_ne (by decide) (fun _ => rfl) l2
          have l3 : px_lg (px_s1 lv20 3 (oI (-1))) 3 = some (oI (-1)) := s1_eq
          generalize px_s1 lv20 3 (oI (-1)) = lv23 at l0 l1 l2 l3 ⊢
          show t_X d 95 57 lv23 [] g17 P
          refine t_0 zrw152_57 rfl (ld_i l2) ?_
          refine t_0 zrw152_58 rfl (ld_i l1) ?_
          refine t_0 zrw152_59 rfl pq_sub ?_
          refine pq_abn zrw152_60 rfl rfl (by omega) (Nat.le_of_ble_eq_true rfl) ⟨by omega, by omega⟩ ?_
          show t_X d 95 63 lv23 [oI (-(v17 - v1))] g17 P
          refine t_0 zrw152_63 rfl rfl ?_
          refine t_0 zrw152_64 rfl pq_add ?_
          refine t_2 zrw152_65 rfl (w := (px_s1 lv23 4 (oI ((-(v17 - v1)) + 1)), [])) rfl ?_
          replace l0 : px_lg (px_s1 lv23 4 (oI ((-(v17 - v1)) + 1))) 0 = some (pvR 152) := s1_ne (by decide) (fun _ => rfl) l0
          replace l1 : px_lg (px_s1 lv23 4 (oI ((-(v17 - v1)) + 1))) 1 = some (oI (v1)) := s1_ne (by decide) (fun _ => rfl) l1
          replace l2 : px_lg (px_s1 lv23 4 (oI ((-(v17 - v1)) + 1))) 2 = some (oI (v17)) := s1_ne (by decide) (fun _ => rfl) l2
          replace l3 : px_lg (px_s1 lv23 4 (oI ((-(v17 - v1)) + 1))) 3 = some (oI (-1)) := s1_ne (by decide) (fun _ => rfl) l3
          have l4 : px_lg (px_s1 lv23 4 (oI ((-(v17 - v1)) + 1))) 4 = some (oI ((-(v17 - v1)) + 1)) := s1_eq
          generalize px_s1 lv23 4 (oI ((-(v17 - v1)) + 1)) = lv24 at l0 l1 l2 l3 l4 ⊢
          show t_X d 95 67 lv24 [] g17 P
          refine t_0 zrw152_67 rfl rfl ?_
          refine t_2 zrw152_68 rfl (w := (px_s1 lv24 5 (oI 0), [])) rfl ?_
          replace l0 : px_lg (px_s1 lv24 5 (oI 0)) 0 = some (pvR 152) := s1_ne (by decide) (fun _ => rfl) l0
          replace l1 : px_lg (px_s1 lv24 5 (oI 0)) 1 = some (oI (v1)) := s1_ne (by decide) (fun _ => rfl) l1
          replace l2 : px_lg (px_s1 lv24 5 (oI 0)) 2 = some (oI (v17)) := s1_ne (by decide) (fun _ => rfl) l2
          replace l3 : px_lg (px_s1 lv24 5 (oI 0)) 3 = some (oI (-1)) := s1_ne (by decide) (fun _ => rfl) l3
          replace l4 : px_lg (px_s1 lv24 5 (oI 0)) 4 = some (oI ((-(v17 - v1)) + 1)) := s1_ne (by decide) (fun _ => rfl) l4
          have l5 : px_lg (px_s1 lv24 5 (oI 0)) 5 = some (oI 0) := s1_eq
          generalize px_s1 lv24 5 (oI 0) = lv25 at l0 l1 l2 l3 l4 l5 ⊢
          show t_X d 95 70 lv25 [] g17 P
          replace l4 : px_lg lv25 4 = some (oI (v1 - v17 + 1)) := l4.trans (congrArg (fun u => some (oI u)) (by omega))
          refine rl152m (by omega) hB (a := v1) (z := v17) (p := q17) (m := m) ⟨by omega, by omega, by omega, by omega, by omega⟩ hm (c0 := c) (fun g1 c1 h1 h2 h3 => ?_) 40 0 _ _ (by omega) (by omega) (show tS152 g0 g17 q17 (m + ((0 : Nat) : Int)) 0 c by rw [show m + ((0 : Nat) : Int) = m by omega]; exact hS17) ⟨fun j _ => rfl, fun i hi => absurd hi (by omega)⟩ l0 l1 l2 l3 l4 l5
          have ew : tW v1 v17 = v1 - v17 + 1 := by unfold tW; rw [if_neg (by omega)]
          rw [← ew] at h1 h3
          refine hO _ _ _ _ h1 ⟨by omega, by omega⟩ ⟨by omega, by omega⟩ (fun h6 => ?_) (fun h6 => ?_)
          · refine Or.inr ⟨_, _, t1, Or.inr ⟨by omega, Or.inr ⟨_, _, t17, Or.inr ⟨h6, _, rfl, h2, fun k hk => ?_⟩⟩⟩⟩
            rw [h3 k hk (by omega), if_neg (by omega)]
          · exact Or.inr ⟨_, _, t1, Or.inr ⟨by omega, Or.inr ⟨_, _, t17, Or.inl ⟨h6, rfl⟩⟩⟩⟩
        · show t_X d 95 51 lv20 [] g17 P
          refine t_0 zrw152_51 rfl rfl ?_
          refine t_1 zrw152_52 rfl (pb_goto (pc := 52) (by decide)) ?_
          show t_X d 95 56 lv20 [oI 1] g17 P
          refine t_2 zrw152_56 rfl (w := (px_s1 lv20 3 (oI 1), [])) rfl ?_
          replace l0 : px_lg (px_s1 lv20 3 (oI 1)) 0 = some (pvR 152) := s1_ne (by decide) (fun _ => rfl) l0
          replace l1 : px_lg (px_s1 lv20 3 (oI 1)) 1 = some (oI (v1)) := s1_ne (by decide) (fun _ => rfl) l1
          replace l2 : px_lg (px_s1 lv20 3 (oI 1)) 2 = some (oI (v17)) := s1_ne (by decide) (fun _ => rfl) l2
          have l3 : px_lg (px_s1 lv20 3 (oI 1)) 3 = some (oI 1) := s1_eq
          generalize px_s1 lv20 3 (oI 1) = lv26 at l0 l1 l2 l3 ⊢
          show t_X d 95 57 lv26 [] g17 P
          refine t_0 zrw152_57 rfl (ld_i l2) ?_
          refine t_0 zrw152_58 rfl (ld_i l1) ?_
          refine t_0 zrw152_59 rfl pq_sub ?_
          refine pq_abp zrw152_60 rfl rfl (by omega) (Nat.le_of_ble_eq_true rfl) ⟨by omega, by omega⟩ ?_
          show t_X d 95 63 lv26 [oI (v17 - v1)] g17 P
          refine t_0 zrw152_63 rfl rfl ?_
          refine t_0 zrw152_64 rfl pq_add ?_
          refine t_2 zrw152_65 rfl (w := (px_s1 lv26 4 (oI ((v17 - v1) + 1)), [])) rfl ?_
          replace l0 : px_lg (px_s1 lv26 4 (oI ((v17 - v1) + 1))) 0 = some (pvR 152) := s1_ne (by decide) (fun _ => rfl) l0
          replace l1 : px_lg (px_s1 lv26 4 (oI ((v17 - v1) + 1))) 1 = some (oI (v1)) := s1_ne (by decide) (fun _ => rfl) l1
          replace l2 : px_lg (px_s1 lv26 4 (oI ((v17 - v1) + 1))) 2 = some (oI (v17)) := s1_ne (by decide) (fun _ => rfl) l2
          replace l3 : px_lg (px_s1 lv26 4 (oI ((v17 - v1) + 1))) 3 = some (oI 1) := s1_ne (by decide) (fun _ => rfl) l3
          have l4 : px_lg (px_s1 lv26 4 (oI ((v17 - v1) + 1))) 4 = some (oI ((v17 - v1) + 1)) := s1_eq
          generalize px_s1 lv26 4 (oI ((v17 - v1) + 1)) = lv27 at l0 l1 l2 l3 l4 ⊢
          show t_X d 95 67 lv27 [] g17 P
          refine t_0 zrw152_67 rfl rfl ?_
          refine t_2 zrw152_68 rfl (w := (px_s1 lv27 5 (oI 0), [])) rfl ?_
          replace l0 : px_lg (px_s1 lv27 5 (oI 0)) 0 = some (pvR 152) := s1_ne (by decide) (fun _ => rfl) l0
          replace l1 : px_lg (px_s1 lv27 5 (oI 0)) 1 = some (oI (v1)) := s1_ne (by decide) (fun _ => rfl) l1
          replace l2 : px_lg (px_s1 lv27 5 (oI 0)) 2 = some (oI (v17)) := s1_ne (by decide) (fun _ => rfl) l2
          replace l3 : px_lg (px_s1 lv27 5 (oI 0)) 3 = some (oI 1) := s1_ne (by decide) (fun _ => rfl) l3
          replace l4 : px_lg (px_s1 lv27 5 (oI 0)) 4 = some (oI ((v17 - v1) + 1)) := s1_ne (by decide) (fun _ => rfl) l4
          have l5 : px_lg (px_s1 lv27 5 (oI 0)) 5 = some (oI 0) := s1_eq
          generalize px_s1 lv27 5 (oI 0) = lv28 at l0 l1 l2 l3 l4 l5 ⊢
          show t_X d 95 70 lv28 [] g17 P
          replace l4 : px_lg lv28 4 = some (oI (v17 - v1 + 1)) := l4.trans (congrArg (fun u => some (oI u)) (by omega))
          refine rl152p (by omega) hB (a := v1) (z := v17) (p := q17) (m := m) ⟨by omega, by omega, by omega, by omega, by omega⟩ hm (c0 := c) (fun g1 c1 h1 h2 h3 => ?_) 40 0 _ _ (by omega) (by omega) (show tS152 g0 g17 q17 (m + ((0 : Nat) : Int)) 0 c by rw [show m + ((0 : Nat) : Int) = m by omega]; exact hS17) ⟨fun j _ => rfl, fun i hi => absurd hi (by omega)⟩ l0 l1 l2 l3 l4 l5
          have ew : tW v1 v17 = v17 - v1 + 1 := by unfold tW; rw [if_pos (by omega)]
          rw [← ew] at h1 h3
          refine hO _ _ _ _ h1 ⟨by omega, by omega⟩ ⟨by omega, by omega⟩ (fun h6 => ?_) (fun h6 => ?_)
          · refine Or.inr ⟨_, _, t1, Or.inr ⟨by omega, Or.inr ⟨_, _, t17, Or.inr ⟨h6, _, rfl, h2, fun k hk => ?_⟩⟩⟩⟩
            rw [h3 k hk (by omega), if_pos (by omega)]
          · exact Or.inr ⟨_, _, t1, Or.inr ⟨by omega, Or.inr ⟨_, _, t17, Or.inl ⟨h6, rfl⟩⟩⟩⟩
