section
/-! class: groups of the tray's text, exactly (printed by wip/e2/u1b.py) -/
theorem zri150_0 : xe_look (xc 91) 0 = some (.aload_n 0, 1, 0, 0, 0) := by decide +kernel
theorem zri150_1 : xe_look (xc 91) 1 = some (.getfield 31, 3, 9, 4, 951) := by decide +kernel
theorem zri150_4 : xe_look (xc 91) 4 = some (.istore_n 2, 1, 0, 0, 0) := by decide +kernel
theorem zri150_5 : xe_look (xc 91) 5 = some (.aload_n 0, 1, 0, 0, 0) := by decide +kernel
theorem zri150_6 : xe_look (xc 91) 6 = some (.invokevirtual 48, 3, 0, 97, 954) := by decide +kernel
theorem zri150_9 : xe_look (xc 91) 9 = some (.bipush 40, 2, 0, 0, 0) := by decide +kernel
theorem zri150_11 : xe_look (xc 91) 11 = some (.if_icmp .ne 11, 3, 0, 0, 0) := by decide +kernel
theorem zri150_14 : xe_look (xc 91) 14 = some (.aload_n 0, 1, 0, 0, 0) := by decide +kernel
theorem zri150_15 : xe_look (xc 91) 15 = some (.iload_n 1, 1, 0, 0, 0) := by decide +kernel
theorem zri150_16 : xe_look (xc 91) 16 = some (.invokevirtual 52, 3, 0, 94, 955) := by decide +kernel
theorem zri150_19 : xe_look (xc 91) 19 = some (.goto 7, 3, 0, 0, 0) := by decide +kernel
theorem zri150_22 : xe_look (xc 91) 22 = some (.aload_n 0, 1, 0, 0, 0) := by decide +kernel
theorem zri150_23 : xe_look (xc 91) 23 = some (.invokevirtual 55, 3, 0, 95, 956) := by decide +kernel
theorem zri150_26 : xe_look (xc 91) 26 = some (.aload_n 0, 1, 0, 0, 0) := by decide +kernel
theorem zri150_27 : xe_look (xc 91) 27 = some (.getfield 18, 3, 9, 1, 944) := by decide +kernel
theorem zri150_30 : xe_look (xc 91) 30 = some (.bipush 60, 2, 0, 0, 0) := by decide +kernel
theorem zri150_32 : xe_look (xc 91) 32 = some (.if_icmp .le 10, 3, 0, 0, 0) := by decide +kernel
theorem zri150_35 : xe_look (xc 91) 35 = some (.aload_n 0, 1, 0, 0, 0) := by decide +kernel
theorem zri150_36 : xe_look (xc 91) 36 = some (.bipush 6, 2, 0, 0, 0) := by decide +kernel
theorem zri150_38 : xe_look (xc 91) 38 = some (.iload_n 2, 1, 0, 0, 0) := by decide +kernel
theorem zri150_39 : xe_look (xc 91) 39 = some (.invokevirtual 41, 3, 0, 87, 953) := by decide +kernel
theorem zri150_42 : xe_look (xc 91) 42 = some (.return_, 1, 0, 0, 0) := by decide +kernel
theorem zri152_0 : xe_look (xc 91) 0 = some (.aload_n 0, 1, 0, 0, 0) := by decide +kernel
theorem zri152_1 : xe_look (xc 91) 1 = some (.getfield 31, 3, 9, 4, 951) := by decide +kernel
theorem zri152_4 : xe_look (xc 91) 4 = some (.istore_n 2, 1, 0, 0, 0) := by decide +kernel
theorem zri152_5 : xe_look (xc 91) 5 = some (.aload_n 0, 1, 0, 0, 0) := by decide +kernel
theorem zri152_6 : xe_look (xc 91) 6 = some (.invokevirtual 48, 3, 0, 97, 954) := by decide +kernel
theorem zri152_9 : xe_look (xc 91) 9 = some (.bipush 40, 2, 0, 0, 0) := by decide +kernel
theorem zri152_11 : xe_look (xc 91) 11 = some (.if_icmp .ne 11, 3, 0, 0, 0) := by decide +kernel
theorem zri152_14 : xe_look (xc 91) 14 = some (.aload_n 0, 1, 0, 0, 0) := by decide +kernel
theorem zri152_15 : xe_look (xc 91) 15 = some (.iload_n 1, 1, 0, 0, 0) := by decide +kernel
theorem zri152_16 : xe_look (xc 91) 16 = some (.invokevirtual 52, 3, 0, 94, 955) := by decide +kernel
theorem zri152_19 : xe_look (xc 91) 19 = some (.goto 7, 3, 0, 0, 0) := by decide +kernel
theorem zri152_22 : xe_look (xc 91) 22 = some (.aload_n 0, 1, 0, 0, 0) := by decide +kernel
theorem zri152_23 : xe_look (xc 91) 23 = some (.invokevirtual 55, 3, 0, 95, 956) := by decide +kernel
theorem zri152_26 : xe_look (xc 91) 26 = some (.aload_n 0, 1, 0, 0, 0) := by decide +kernel
theorem zri152_27 : xe_look (xc 91) 27 = some (.getfield 18, 3, 9, 1, 944) := by decide +kernel
theorem zri152_30 : xe_look (xc 91) 30 = some (.bipush 60, 2, 0, 0, 0) := by decide +kernel
theorem zri152_32 : xe_look (xc 91) 32 = some (.if_icmp .le 10, 3, 0, 0, 0) := by decide +kernel
theorem zri152_35 : xe_look (xc 91) 35 = some (.aload_n 0, 1, 0, 0, 0) := by decide +kernel
theorem zri152_36 : xe_look (xc 91) 36 = some (.bipush 6, 2, 0, 0, 0) := by decide +kernel
theorem zri152_38 : xe_look (xc 91) 38 = some (.iload_n 2, 1, 0, 0, 0) := by decide +kernel
theorem zri152_39 : xe_look (xc 91) 39 = some (.invokevirtual 41, 3, 0, 87, 953) := by decide +kernel
theorem zri152_42 : xe_look (xc 91) 42 = some (.return_, 1, 0, 0, 0) := by decide +kernel
theorem zro150_0 : xe_look (xc 94) 0 = some (.iload_n 1, 1, 0, 0, 0) := by decide +kernel
theorem zro150_1 : xe_look (xc 94) 1 = some (.iconst 4, 1, 0, 0, 0) := by decide +kernel
theorem zro150_2 : xe_look (xc 94) 2 = some (.if_icmp .lt 13, 3, 0, 0, 0) := by decide +kernel
theorem zro150_5 : xe_look (xc 94) 5 = some (.aload_n 0, 1, 0, 0, 0) := by decide +kernel
theorem zro150_6 : xe_look (xc 94) 6 = some (.iconst 5, 1, 0, 0, 0) := by decide +kernel
theorem zro150_7 : xe_look (xc 94) 7 = some (.aload_n 0, 1, 0, 0, 0) := by decide +kernel
theorem zro150_8 : xe_look (xc 94) 8 = some (.getfield 31, 3, 9, 4, 951) := by decide +kernel
theorem zro150_11 : xe_look (xc 94) 11 = some (.invokevirtual 41, 3, 0, 87, 953) := by decide +kernel
theorem zro150_14 : xe_look (xc 94) 14 = some (.return_, 1, 0, 0, 0) := by decide +kernel
theorem zro150_15 : xe_look (xc 94) 15 = some (.aload_n 0, 1, 0, 0, 0) := by decide +kernel
theorem zro150_16 : xe_look (xc 94) 16 = some (.dup, 1, 0, 0, 0) := by decide +kernel
theorem zro150_17 : xe_look (xc 94) 17 = some (.getfield 31, 3, 9, 4, 951) := by decide +kernel
theorem zro150_20 : xe_look (xc 94) 20 = some (.iconst 1, 1, 0, 0, 0) := by decide +kernel
theorem zro150_21 : xe_look (xc 94) 21 = some (.iadd, 1, 0, 0, 0) := by decide +kernel
theorem zro150_22 : xe_look (xc 94) 22 = some (.putfield 31, 3, 9, 4, 951) := by decide +kernel
theorem zro150_25 : xe_look (xc 94) 25 = some (.aload_n 0, 1, 0, 0, 0) := by decide +kernel
theorem zro150_26 : xe_look (xc 94) 26 = some (.getfield 18, 3, 9, 1, 944) := by decide +kernel
theorem zro150_29 : xe_look (xc 94) 29 = some (.istore_n 2, 1, 0, 0, 0) := by decide +kernel
theorem zro150_30 : xe_look (xc 94) 30 = some (.aload_n 0, 1, 0, 0, 0) := by decide +kernel
theorem zro150_31 : xe_look (xc 94) 31 = some (.iload_n 1, 1, 0, 0, 0) := by decide +kernel
theorem zro150_32 : xe_look (xc 94) 32 = some (.iconst 1, 1, 0, 0, 0) := by decide +kernel
theorem zro150_33 : xe_look (xc 94) 33 = some (.iadd, 1, 0, 0, 0) := by decide +kernel
theorem zro150_34 : xe_look (xc 94) 34 = some (.invokevirtual 37, 3, 0, 92, 952) := by decide +kernel
theorem zro150_37 : xe_look (xc 94) 37 = some (.aload_n 0, 1, 0, 0, 0) := by decide +kernel
theorem zro150_38 : xe_look (xc 94) 38 = some (.getfield 34, 3, 9, 5, 946) := by decide +kernel
theorem zro150_41 : xe_look (xc 94) 41 = some (.ifCond .eq 4, 3, 0, 0, 0) := by decide +kernel
theorem zro150_44 : xe_look (xc 94) 44 = some (.return_, 1, 0, 0, 0) := by decide +kernel
theorem zro150_45 : xe_look (xc 94) 45 = some (.aload_n 0, 1, 0, 0, 0) := by decide +kernel
theorem zro150_46 : xe_look (xc 94) 46 = some (.invokevirtual 48, 3, 0, 97, 954) := by decide +kernel
theorem zro150_49 : xe_look (xc 94) 49 = some (.bipush 41, 2, 0, 0, 0) := by decide +kernel
theorem zro150_51 : xe_look (xc 94) 51 = some (.if_icmp .eq 13, 3, 0, 0, 0) := by decide +kernel
theorem zro150_54 : xe_look (xc 94) 54 = some (.aload_n 0, 1, 0, 0, 0) := by decide +kernel
theorem zro150_55 : xe_look (xc 94) 55 = some (.iconst 1, 1, 0, 0, 0) := by decide +kernel
theorem zro150_56 : xe_look (xc 94) 56 = some (.aload_n 0, 1, 0, 0, 0) := by decide +kernel
theorem zro150_57 : xe_look (xc 94) 57 = some (.getfield 31, 3, 9, 4, 951) := by decide +kernel
theorem zro150_60 : xe_look (xc 94) 60 = some (.invokevirtual 41, 3, 0, 87, 953) := by decide +kernel
theorem zro150_63 : xe_look (xc 94) 63 = some (.return_, 1, 0, 0, 0) := by decide +kernel
theorem zro150_64 : xe_look (xc 94) 64 = some (.aload_n 0, 1, 0, 0, 0) := by decide +kernel
theorem zro150_65 : xe_look (xc 94) 65 = some (.dup, 1, 0, 0, 0) := by decide +kernel
theorem zro150_66 : xe_look (xc 94) 66 = some (.getfield 31, 3, 9, 4, 951) := by decide +kernel
theorem zro150_69 : xe_look (xc 94) 69 = some (.iconst 1, 1, 0, 0, 0) := by decide +kernel
theorem zro150_70 : xe_look (xc 94) 70 = some (.iadd, 1, 0, 0, 0) := by decide +kernel
theorem zro150_71 : xe_look (xc 94) 71 = some (.putfield 31, 3, 9, 4, 951) := by decide +kernel
theorem zro150_74 : xe_look (xc 94) 74 = some (.aload_n 0, 1, 0, 0, 0) := by decide +kernel
theorem zro150_75 : xe_look (xc 94) 75 = some (.invokevirtual 48, 3, 0, 97, 954) := by decide +kernel
theorem zro150_78 : xe_look (xc 94) 78 = some (.bipush 48, 2, 0, 0, 0) := by decide +kernel
theorem zro150_80 : xe_look (xc 94) 80 = some (.isub, 1, 0, 0, 0) := by decide +kernel
theorem zro150_81 : xe_look (xc 94) 81 = some (.istore_n 3, 1, 0, 0, 0) := by decide +kernel
theorem zro150_82 : xe_look (xc 94) 82 = some (.iload_n 3, 1, 0, 0, 0) := by decide +kernel
theorem zro150_83 : xe_look (xc 94) 83 = some (.iconst 2, 1, 0, 0, 0) := by decide +kernel
theorem zro150_84 : xe_look (xc 94) 84 = some (.bipush 9, 2, 0, 0, 0) := by decide +kernel
theorem zro150_86 : xe_look (xc 94) 86 = some (.invokestatic 58, 3, 1, 124, 7) := by decide +kernel
theorem zro150_89 : xe_look (xc 94) 89 = some (.ifCond .ne 13, 3, 0, 0, 0) := by decide +kernel
theorem zro150_92 : xe_look (xc 94) 92 = some (.aload_n 0, 1, 0, 0, 0) := by decide +kernel
theorem zro150_93 : xe_look (xc 94) 93 = some (.iconst 1, 1, 0, 0, 0) := by decide +kernel
theorem zro150_94 : xe_look (xc 94) 94 = some (.aload_n 0, 1, 0, 0, 0) := by decide +kernel
theorem zro150_95 : xe_look (xc 94) 95 = some (.getfield 31, 3, 9, 4, 951) := by decide +kernel
theorem zro150_98 : xe_look (xc 94) 98 = some (.invokevirtual 41, 3, 0, 87, 953) := by decide +kernel
theorem zro150_101 : xe_look (xc 94) 101 = some (.return_, 1, 0, 0, 0) := by decide +kernel
theorem zro150_102 : xe_look (xc 94) 102 = some (.aload_n 0, 1, 0, 0, 0) := by decide +kernel
theorem zro150_103 : xe_look (xc 94) 103 = some (.dup, 1, 0, 0, 0) := by decide +kernel
theorem zro150_104 : xe_look (xc 94) 104 = some (.getfield 31, 3, 9, 4, 951) := by decide +kernel
theorem zro150_107 : xe_look (xc 94) 107 = some (.iconst 1, 1, 0, 0, 0) := by decide +kernel
theorem zro150_108 : xe_look (xc 94) 108 = some (.iadd, 1, 0, 0, 0) := by decide +kernel
theorem zro150_109 : xe_look (xc 94) 109 = some (.putfield 31, 3, 9, 4, 951) := by decide +kernel
theorem zro150_112 : xe_look (xc 94) 112 = some (.aload_n 0, 1, 0, 0, 0) := by decide +kernel
theorem zro150_113 : xe_look (xc 94) 113 = some (.iload_n 2, 1, 0, 0, 0) := by decide +kernel
theorem zro150_114 : xe_look (xc 94) 114 = some (.aload_n 0, 1, 0, 0, 0) := by decide +kernel
theorem zro150_115 : xe_look (xc 94) 115 = some (.getfield 18, 3, 9, 1, 944) := by decide +kernel
theorem zro150_118 : xe_look (xc 94) 118 = some (.iload_n 3, 1, 0, 0, 0) := by decide +kernel
theorem zro150_119 : xe_look (xc 94) 119 = some (.invokevirtual 62, 3, 0, 96, 958) := by decide +kernel
theorem zro150_122 : xe_look (xc 94) 122 = some (.return_, 1, 0, 0, 0) := by decide +kernel
theorem zro152_0 : xe_look (xc 94) 0 = some (.iload_n 1, 1, 0, 0, 0) := by decide +kernel
theorem zro152_1 : xe_look (xc 94) 1 = some (.iconst 4, 1, 0, 0, 0) := by decide +kernel
theorem zro152_2 : xe_look (xc 94) 2 = some (.if_icmp .lt 13, 3, 0, 0, 0) := by decide +kernel
theorem zro152_5 : xe_look (xc 94) 5 = some (.aload_n 0, 1, 0, 0, 0) := by decide +kernel
theorem zro152_6 : xe_look (xc 94) 6 = some (.iconst 5, 1, 0, 0, 0) := by decide +kernel
theorem zro152_7 : xe_look (xc 94) 7 = some (.aload_n 0, 1, 0, 0, 0) := by decide +kernel
theorem zro152_8 : xe_look (xc 94) 8 = some (.getfield 31, 3, 9, 4, 951) := by decide +kernel
theorem zro152_11 : xe_look (xc 94) 11 = some (.invokevirtual 41, 3, 0, 87, 953) := by decide +kernel
theorem zro152_14 : xe_look (xc 94) 14 = some (.return_, 1, 0, 0, 0) := by decide +kernel
theorem zro152_15 : xe_look (xc 94) 15 = some (.aload_n 0, 1, 0, 0, 0) := by decide +kernel
theorem zro152_16 : xe_look (xc 94) 16 = some (.dup, 1, 0, 0, 0) := by decide +kernel
theorem zro152_17 : xe_look (xc 94) 17 = some (.getfield 31, 3, 9, 4, 951) := by decide +kernel
theorem zro152_20 : xe_look (xc 94) 20 = some (.iconst 1, 1, 0, 0, 0) := by decide +kernel
theorem zro152_21 : xe_look (xc 94) 21 = some (.iadd, 1, 0, 0, 0) := by decide +kernel
theorem zro152_22 : xe_look (xc 94) 22 = some (.putfield 31, 3, 9, 4, 951) := by decide +kernel
theorem zro152_25 : xe_look (xc 94) 25 = some (.aload_n 0, 1, 0, 0, 0) := by decide +kernel
theorem zro152_26 : xe_look (xc 94) 26 = some (.getfield 18, 3, 9, 1, 944) := by decide +kernel
theorem zro152_29 : xe_look (xc 94) 29 = some (.istore_n 2, 1, 0, 0, 0) := by decide +kernel
theorem zro152_30 : xe_look (xc 94) 30 = some (.aload_n 0, 1, 0, 0, 0) := by decide +kernel
theorem zro152_31 : xe_look (xc 94) 31 = some (.iload_n 1, 1, 0, 0, 0) := by decide +kernel
theorem zro152_32 : xe_look (xc 94) 32 = some (.iconst 1, 1, 0, 0, 0) := by decide +kernel
theorem zro152_33 : xe_look (xc 94) 33 = some (.iadd, 1, 0, 0, 0) := by decide +kernel
theorem zro152_34 : xe_look (xc 94) 34 = some (.invokevirtual 37, 3, 0, 92, 952) := by decide +kernel
theorem zro152_37 : xe_look (xc 94) 37 = some (.aload_n 0, 1, 0, 0, 0) := by decide +kernel
theorem zro152_38 : xe_look (xc 94) 38 = some (.getfield 34, 3, 9, 5, 946) := by decide +kernel
theorem zro152_41 : xe_look (xc 94) 41 = some (.ifCond .eq 4, 3, 0, 0, 0) := by decide +kernel
theorem zro152_44 : xe_look (xc 94) 44 = some (.return_, 1, 0, 0, 0) := by decide +kernel
theorem zro152_45 : xe_look (xc 94) 45 = some (.aload_n 0, 1, 0, 0, 0) := by decide +kernel
theorem zro152_46 : xe_look (xc 94) 46 = some (.invokevirtual 48, 3, 0, 97, 954) := by decide +kernel
theorem zro152_49 : xe_look (xc 94) 49 = some (.bipush 41, 2, 0, 0, 0) := by decide +kernel
theorem zro152_51 : xe_look (xc 94) 51 = some (.if_icmp .eq 13, 3, 0, 0, 0) := by decide +kernel
theorem zro152_54 : xe_look (xc 94) 54 = some (.aload_n 0, 1, 0, 0, 0) := by decide +kernel
theorem zro152_55 : xe_look (xc 94) 55 = some (.iconst 1, 1, 0, 0, 0) := by decide +kernel
theorem zro152_56 : xe_look (xc 94) 56 = some (.aload_n 0, 1, 0, 0, 0) := by decide +kernel
theorem zro152_57 : xe_look (xc 94) 57 = some (.getfield 31, 3, 9, 4, 951) := by decide +kernel
theorem zro152_60 : xe_look (xc 94) 60 = some (.invokevirtual 41, 3, 0, 87, 953) := by decide +kernel
theorem zro152_63 : xe_look (xc 94) 63 = some (.return_, 1, 0, 0, 0) := by decide +kernel
theorem zro152_64 : xe_look (xc 94) 64 = some (.aload_n 0, 1, 0, 0, 0) := by decide +kernel
theorem zro152_65 : xe_look (xc 94) 65 = some (.dup, 1, 0, 0, 0) := by decide +kernel
theorem zro152_66 : xe_look (xc 94) 66 = some (.getfield 31, 3, 9, 4, 951) := by decide +kernel
theorem zro152_69 : xe_look (xc 94) 69 = some (.iconst 1, 1, 0, 0, 0) := by decide +kernel
theorem zro152_70 : xe_look (xc 94) 70 = some (.iadd, 1, 0, 0, 0) := by decide +kernel
theorem zro152_71 : xe_look (xc 94) 71 = some (.putfield 31, 3, 9, 4, 951) := by decide +kernel
theorem zro152_74 : xe_look (xc 94) 74 = some (.aload_n 0, 1, 0, 0, 0) := by decide +kernel
theorem zro152_75 : xe_look (xc 94) 75 = some (.invokevirtual 48, 3, 0, 97, 954) := by decide +kernel
theorem zro152_78 : xe_look (xc 94) 78 = some (.bipush 48, 2, 0, 0, 0) := by decide +kernel
theorem zro152_80 : xe_look (xc 94) 80 = some (.isub, 1, 0, 0, 0) := by decide +kernel
theorem zro152_81 : xe_look (xc 94) 81 = some (.istore_n 3, 1, 0, 0, 0) := by decide +kernel
theorem zro152_82 : xe_look (xc 94) 82 = some (.iload_n 3, 1, 0, 0, 0) := by decide +kernel
theorem zro152_83 : xe_look (xc 94) 83 = some (.iconst 2, 1, 0, 0, 0) := by decide +kernel
theorem zro152_84 : xe_look (xc 94) 84 = some (.bipush 9, 2, 0, 0, 0) := by decide +kernel
theorem zro152_86 : xe_look (xc 94) 86 = some (.invokestatic 58, 3, 1, 124, 7) := by decide +kernel
theorem zro152_89 : xe_look (xc 94) 89 = some (.ifCond .ne 13, 3, 0, 0, 0) := by decide +kernel
theorem zro152_92 : xe_look (xc 94) 92 = some (.aload_n 0, 1, 0, 0, 0) := by decide +kernel
theorem zro152_93 : xe_look (xc 94) 93 = some (.iconst 1, 1, 0, 0, 0) := by decide +kernel
theorem zro152_94 : xe_look (xc 94) 94 = some (.aload_n 0, 1, 0, 0, 0) := by decide +kernel
theorem zro152_95 : xe_look (xc 94) 95 = some (.getfield 31, 3, 9, 4, 951) := by decide +kernel
theorem zro152_98 : xe_look (xc 94) 98 = some (.invokevirtual 41, 3, 0, 87, 953) := by decide +kernel
theorem zro152_101 : xe_look (xc 94) 101 = some (.return_, 1, 0, 0, 0) := by decide +kernel
theorem zro152_102 : xe_look (xc 94) 102 = some (.aload_n 0, 1, 0, 0, 0) := by decide +kernel
theorem zro152_103 : xe_look (xc 94) 103 = some (.dup, 1, 0, 0, 0) := by decide +kernel
theorem zro152_104 : xe_look (xc 94) 104 = some (.getfield 31, 3, 9, 4, 951) := by decide +kernel
theorem zro152_107 : xe_look (xc 94) 107 = some (.iconst 1, 1, 0, 0, 0) := by decide +kernel
theorem zro152_108 : xe_look (xc 94) 108 = some (.iadd, 1, 0, 0, 0) := by decide +kernel
theorem zro152_109 : xe_look (xc 94) 109 = some (.putfield 31, 3, 9, 4, 951) := by decide +kernel
theorem zro152_112 : xe_look (xc 94) 112 = some (.aload_n 0, 1, 0, 0, 0) := by decide +kernel
theorem zro152_113 : xe_look (xc 94) 113 = some (.iload_n 2, 1, 0, 0, 0) := by decide +kernel
theorem zro152_114 : xe_look (xc 94) 114 = some (.aload_n 0, 1, 0, 0, 0) := by decide +kernel
theorem zro152_115 : xe_look (xc 94) 115 = some (.getfield 18, 3, 9, 1, 944) := by decide +kernel
theorem zro152_118 : xe_look (xc 94) 118 = some (.iload_n 3, 1, 0, 0, 0) := by decide +kernel
theorem zro152_119 : xe_look (xc 94) 119 = some (.invokevirtual 62, 3, 0, 96, 958) := by decide +kernel
theorem zro152_122 : xe_look (xc 94) 122 = some (.return_, 1, 0, 0, 0) := by decide +kernel
theorem zrp150_0 : xe_look (xc 96) 0 = some (.iconst 1, 1, 0, 0, 0) := by decide +kernel
theorem zrp150_1 : xe_look (xc 96) 1 = some (.istore 4, 2, 0, 0, 0) := by decide +kernel
theorem zrp150_3 : xe_look (xc 96) 3 = some (.iload 4, 2, 0, 0, 0) := by decide +kernel
theorem zrp150_5 : xe_look (xc 96) 5 = some (.iload_n 3, 1, 0, 0, 0) := by decide +kernel
theorem zrp150_6 : xe_look (xc 96) 6 = some (.if_icmp .ge 34, 3, 0, 0, 0) := by decide +kernel
theorem zrp150_9 : xe_look (xc 96) 9 = some (.iload_n 1, 1, 0, 0, 0) := by decide +kernel
theorem zrp150_10 : xe_look (xc 96) 10 = some (.istore 5, 2, 0, 0, 0) := by decide +kernel
theorem zrp150_12 : xe_look (xc 96) 12 = some (.iload 5, 2, 0, 0, 0) := by decide +kernel
theorem zrp150_14 : xe_look (xc 96) 14 = some (.iload_n 2, 1, 0, 0, 0) := by decide +kernel
theorem zrp150_15 : xe_look (xc 96) 15 = some (.if_icmp .ge 19, 3, 0, 0, 0) := by decide +kernel
theorem zrp150_18 : xe_look (xc 96) 18 = some (.aload_n 0, 1, 0, 0, 0) := by decide +kernel
theorem zrp150_19 : xe_look (xc 96) 19 = some (.aload_n 0, 1, 0, 0, 0) := by decide +kernel
theorem zrp150_20 : xe_look (xc 96) 20 = some (.iload 5, 2, 0, 0, 0) := by decide +kernel
theorem zrp150_22 : xe_look (xc 96) 22 = some (.invokevirtual 66, 3, 0, 98, 962) := by decide +kernel
theorem zrp150_25 : xe_look (xc 96) 25 = some (.invokevirtual 70, 3, 0, 86, 961) := by decide +kernel
theorem zrp150_28 : xe_look (xc 96) 28 = some (.iinc 5 1, 3, 0, 0, 0) := by decide +kernel
theorem zrp150_31 : xe_look (xc 96) 31 = some (.goto (-19), 3, 0, 0, 0) := by decide +kernel
theorem zrp150_34 : xe_look (xc 96) 34 = some (.iinc 4 1, 3, 0, 0, 0) := by decide +kernel
theorem zrp150_37 : xe_look (xc 96) 37 = some (.goto (-34), 3, 0, 0, 0) := by decide +kernel
theorem zrp150_40 : xe_look (xc 96) 40 = some (.return_, 1, 0, 0, 0) := by decide +kernel
theorem zrp152_0 : xe_look (xc 96) 0 = some (.iconst 1, 1, 0, 0, 0) := by decide +kernel
theorem zrp152_1 : xe_look (xc 96) 1 = some (.istore 4, 2, 0, 0, 0) := by decide +kernel
theorem zrp152_3 : xe_look (xc 96) 3 = some (.iload 4, 2, 0, 0, 0) := by decide +kernel
theorem zrp152_5 : xe_look (xc 96) 5 = some (.iload_n 3, 1, 0, 0, 0) := by decide +kernel
theorem zrp152_6 : xe_look (xc 96) 6 = some (.if_icmp .ge 34, 3, 0, 0, 0) := by decide +kernel
theorem zrp152_9 : xe_look (xc 96) 9 = some (.iload_n 1, 1, 0, 0, 0) := by decide +kernel
theorem zrp152_10 : xe_look (xc 96) 10 = some (.istore 5, 2, 0, 0, 0) := by decide +kernel
theorem zrp152_12 : xe_look (xc 96) 12 = some (.iload 5, 2, 0, 0, 0) := by decide +kernel
theorem zrp152_14 : xe_look (xc 96) 14 = some (.iload_n 2, 1, 0, 0, 0) := by decide +kernel
theorem zrp152_15 : xe_look (xc 96) 15 = some (.if_icmp .ge 19, 3, 0, 0, 0) := by decide +kernel
theorem zrp152_18 : xe_look (xc 96) 18 = some (.aload_n 0, 1, 0, 0, 0) := by decide +kernel
theorem zrp152_19 : xe_look (xc 96) 19 = some (.aload_n 0, 1, 0, 0, 0) := by decide +kernel
theorem zrp152_20 : xe_look (xc 96) 20 = some (.iload 5, 2, 0, 0, 0) := by decide +kernel
theorem zrp152_22 : xe_look (xc 96) 22 = some (.invokevirtual 66, 3, 0, 98, 962) := by decide +kernel
theorem zrp152_25 : xe_look (xc 96) 25 = some (.invokevirtual 70, 3, 0, 86, 961) := by decide +kernel
theorem zrp152_28 : xe_look (xc 96) 28 = some (.iinc 5 1, 3, 0, 0, 0) := by decide +kernel
theorem zrp152_31 : xe_look (xc 96) 31 = some (.goto (-19), 3, 0, 0, 0) := by decide +kernel
theorem zrp152_34 : xe_look (xc 96) 34 = some (.iinc 4 1, 3, 0, 0, 0) := by decide +kernel
theorem zrp152_37 : xe_look (xc 96) 37 = some (.goto (-34), 3, 0, 0, 0) := by decide +kernel
theorem zrp152_40 : xe_look (xc 96) 40 = some (.return_, 1, 0, 0, 0) := by decide +kernel
set_option maxHeartbeats 2000000 in
theorem rpi150 {d : Nat} (hd : 1 ≤ d) {g0 : pH} {B : tC} {n : Int} (hB : tB150 g0 B n) {p m m1 t u rr : Int} (hm : 0 ≤ m ∧ m < m1 ∧ m1 ≤ 60) (hu : m1 ≤ u ∧ u + (m1 - m) ≤ 540) {c0 : tC} {P : Option pv × pH → Prop} (hK : ∀ (g1 : pH) (c1 : tC) (lv : List (Nat × pv)), tS150 g0 g1 p (u + (m1 - m)) 0 c1 → (∀ j : Nat, (j : Int) < u → c1 j = c0 j) → (∀ j : Nat, (j : Int) < m1 - m → u + j < 60 → c1 (u + j).toNat = c1 (m + j).toNat) → (∀ j : Nat, (j : Int) < m1 - m → u - (m1 - m) + j < 60 → c1 (u - (m1 - m) + j).toNat = c1 (m + j).toNat) → px_lg lv 0 = some (pvR 150) → px_lg lv 1 = some (oI m) → px_lg lv 2 = some (oI m1) → px_lg lv 3 = some (oI t) → px_lg lv 4 = some (oI rr) → t_X d 96 34 lv [] g1 P) : ∀ (y i : Nat) (g : pH) (lv : List (Nat × pv)) {c : tC}, m1 - m - i ≤ y → (i : Int) ≤ m1 - m → tS150 g0 g p (u + (i : Int)) 0 c → (∀ j : Nat, (j : Int) < u → c j = c0 j) → (∀ j : Nat, j < i → u + j < 60 → c (u + j).toNat = c (m + j).toNat) → (∀ j : Nat, (j : Int) < m1 - m → u - (m1 - m) + j < 60 → c (u - (m1 - m) + j).toNat = c (m + j).toNat) → px_lg lv 0 = some (pvR 150) → px_lg lv 1 = some (oI m) → px_lg lv 2 = some (oI m1) → px_lg lv 3 = some (oI t) → px_lg lv 4 = some (oI rr) → px_lg lv 5 = some (oI (m + (i : Int))) → t_X d 96 12 lv [] g P := by
  intro y
  induction y with
  | zero =>
    intro i g lv c hy hi hS hc1 hc2 hc3 l0 l1 l2 l3 l4 l5
    refine t_0 zrp150_12 rfl (ld_i l5) ?_
    refine t_0 zrp150_14 rfl (ld_i l2) ?_
    refine tb_ge zrp150_15 (by decide) ⟨by omega, by omega⟩ ⟨by omega, by omega⟩ (fun c1 => ?_) (fun c1 => absurd c1 (by omega))
    show t_X d 96 34 lv [] g P
    have ei : i = (m1 - m).toNat := by omega
    exact hK _ _ _ (by rw [show u + (m1 - m) = u + (i : Int) by omega]; exact hS) hc1 (fun j hj h6 => hc2 j (by omega) h6) hc3 l0 l1 l2 l3 l4
  | succ y ih =>
    intro i g lv c hy hi hS hc1 hc2 hc3 l0 l1 l2 l3 l4 l5
    by_cases hii : (i : Int) < m1 - m
    · skip
      refine t_0 zrp150_12 rfl (ld_i l5) ?_
      refine t_0 zrp150_14 rfl (ld_i l2) ?_
      refine tb_ge zrp150_15 (by decide) ⟨by omega, by omega⟩ ⟨by omega, by omega⟩ (fun c1 => absurd c1 (by omega)) (fun c1 => ?_)
      show t_X d 96 18 lv [] g P
      refine t_0 zrp150_18 rfl (ld_a l0) ?_
      refine t_0 zrp150_19 rfl (ld_a l0) ?_
      refine t_0 zrp150_20 rfl (ld_i l5) ?_
      refine t_3 zrp150_22 rfl (ar := ([pvR 150, oI (m + (i : Int))], [pvR 150])) (pcal_w (as := [oI (m + (i : Int))]) rfl rfl rfl eo_150) ⟨by omega, Nat.le_of_ble_eq_true rfl, Nat.le_of_ble_eq_true rfl, rfl⟩ ?_
      refine sl150_run hB hS ⟨by omega, by omega⟩ (fun t2 => ?_) (fun t2 => absurd (by omega) t2) rfl rfl
      have r2 := pb_a (S_J hS).1 ez_151 (j := (m + (i : Int)).toNat) (by omega) gu_151 (show fA g 151 = c from S_a hS 0 (Nat.le_of_ble_eq_true rfl))
      show t_X d 96 25 lv [oI (c (m + (i : Int)).toNat), pvR 150] g P
      refine t_3 zrp150_25 rfl (ar := ([pvR 150, oI (c (m + (i : Int)).toNat)], [])) (pcal_w (as := [oI (c (m + (i : Int)).toNat)]) rfl rfl rfl eo_150) ⟨by omega, Nat.le_of_ble_eq_true rfl, Nat.le_of_ble_eq_true rfl, rfl⟩ ?_
      refine ap150_run hB hS ⟨by omega, by omega⟩ (by omega) (fun t3 g3 hS3 => ?_) (fun t3 g3 hS3 => ?_) rfl rfl
      · replace hS3 : tS150 g0 g3 p ((u + (i : Int)) + 1) 0 (updI c (u + (i : Int)).toNat (c (m + (i : Int)).toNat)) := hS3
        show t_X d 96 28 lv [] g3 P
        refine t_2 zrp150_28 rfl (w := (px_s1 lv 5 (oI ((m + (i : Int)) + 1)), [])) (pq_inc l5 (by decide)) ?_
        replace l0 : px_lg (px_s1 lv 5 (oI ((m + (i : Int)) + 1))) 0 = some (pvR 150) := s1_ne (by decide) (fun _ => rfl) l0
        replace l1 : px_lg (px_s1 lv 5 (oI ((m + (i : Int)) + 1))) 1 = some (oI (m)) := s1_ne (by decide) (fun _ => rfl) l1
        replace l2 : px_lg (px_s1 lv 5 (oI ((m + (i : Int)) + 1))) 2 = some (oI (m1)) := s1_ne (by decide) (fun _ => rfl) l2
        replace l3 : px_lg (px_s1 lv 5 (oI ((m + (i : Int)) + 1))) 3 = some (oI (t)) := s1_ne (by decide) (fun _ => rfl) l3
        replace l4 : px_lg (px_s1 lv 5 (oI ((m + (i : Int)) + 1))) 4 = some (oI (rr)) := s1_ne (by decide) (fun _ => rfl) l4
        have l5 : px_lg (px_s1 lv 5 (oI ((m + (i : Int)) + 1))) 5 = some (oI ((m + (i : Int)) + 1)) := s1_eq
        generalize px_s1 lv 5 (oI ((m + (i : Int)) + 1)) = lv4 at l0 l1 l2 l3 l4 l5 ⊢
        show t_X d 96 31 lv4 [] g3 P
        refine t_1 zrp150_31 rfl (pb_goto (pc := 31) (by decide)) ?_
        show t_X d 96 12 lv4 [] g3 P
        refine ih (i + 1) _ _ (by omega) (by omega) (show tS150 g0 g3 p (u + ((i + 1 : Nat) : Int)) 0 (updI c (u + (i : Int)).toNat (c (m + (i : Int)).toNat)) by rw [show u + ((i + 1 : Nat) : Int) = u + (i : Int) + 1 by omega]; exact hS3) ?_ ?_ ?_ l0 l1 l2 l3 l4 (l5.trans (congrArg (fun x => some (oI x)) (by omega)))
        · intro j hj
          unfold updI
          rw [if_neg (by omega)]
          exact hc1 j hj
        · intro j hj h6
          unfold updI
          rw [if_neg (show ¬ (m + (j : Int)).toNat = (u + (i : Int)).toNat by omega)]
          by_cases e : j = i
          · subst e; rw [if_pos rfl]
          · rw [if_neg (by omega)]; exact hc2 j (by omega) h6
        · intro j hj h6
          unfold updI
          rw [if_neg (show ¬ (m + (j : Int)).toNat = (u + (i : Int)).toNat by omega), if_neg (by omega)]
          exact hc3 j hj h6
      · replace hS3 : tS150 g0 g3 p ((u + (i : Int)) + 1) 0 c := hS3
        show t_X d 96 28 lv [] g3 P
        refine t_2 zrp150_28 rfl (w := (px_s1 lv 5 (oI ((m + (i : Int)) + 1)), [])) (pq_inc l5 (by decide)) ?_
        replace l0 : px_lg (px_s1 lv 5 (oI ((m + (i : Int)) + 1))) 0 = some (pvR 150) := s1_ne (by decide) (fun _ => rfl) l0
        replace l1 : px_lg (px_s1 lv 5 (oI ((m + (i : Int)) + 1))) 1 = some (oI (m)) := s1_ne (by decide) (fun _ => rfl) l1
        replace l2 : px_lg (px_s1 lv 5 (oI ((m + (i : Int)) + 1))) 2 = some (oI (m1)) := s1_ne (by decide) (fun _ => rfl) l2
        replace l3 : px_lg (px_s1 lv 5 (oI ((m + (i : Int)) + 1))) 3 = some (oI (t)) := s1_ne (by decide) (fun _ => rfl) l3
        replace l4 : px_lg (px_s1 lv 5 (oI ((m + (i : Int)) + 1))) 4 = some (oI (rr)) := s1_ne (by decide) (fun _ => rfl) l4
        have l5 : px_lg (px_s1 lv 5 (oI ((m + (i : Int)) + 1))) 5 = some (oI ((m + (i : Int)) + 1)) := s1_eq
        generalize px_s1 lv 5 (oI ((m + (i : Int)) + 1)) = lv5 at l0 l1 l2 l3 l4 l5 ⊢
        show t_X d 96 31 lv5 [] g3 P
        refine t_1 zrp150_31 rfl (pb_goto (pc := 31) (by decide)) ?_
        show t_X d 96 12 lv5 [] g3 P
        refine ih (i + 1) _ _ (by omega) (by omega) (show tS150 g0 g3 p (u + ((i + 1 : Nat) : Int)) 0 c by rw [show u + ((i + 1 : Nat) : Int) = u + (i : Int) + 1 by omega]; exact hS3) ?_ ?_ ?_ l0 l1 l2 l3 l4 (l5.trans (congrArg (fun x => some (oI x)) (by omega)))
        · exact hc1
        · intro j hj h6
          exact hc2 j (by omega) h6
        · exact hc3
    · skip
      refine t_0 zrp150_12 rfl (ld_i l5) ?_
      refine t_0 zrp150_14 rfl (ld_i l2) ?_
      refine tb_ge zrp150_15 (by decide) ⟨by omega, by omega⟩ ⟨by omega, by omega⟩ (fun c1 => ?_) (fun c1 => absurd c1 (by omega))
      show t_X d 96 34 lv [] g P
      have ei : i = (m1 - m).toNat := by omega
      exact hK _ _ _ (by rw [show u + (m1 - m) = u + (i : Int) by omega]; exact hS) hc1 (fun j hj h6 => hc2 j (by omega) h6) hc3 l0 l1 l2 l3 l4
set_option maxHeartbeats 4000000 in
theorem rpo150 {d : Nat} (hd : 1 ≤ d) {g0 : pH} {B : tC} {n : Int} (hB : tB150 g0 B n) {p m m1 t : Int} (hm : 0 ≤ m ∧ m < m1 ∧ m1 ≤ 60) (ht : 2 ≤ t ∧ t ≤ 9) {c0 : tC} {P : Option pv × pH → Prop} (hO : ∀ (g1 : pH) (c2 : tC), tS150 g0 g1 p (m + (m1 - m) * t) 0 c2 → (∀ j : Nat, (j : Int) < m1 → c2 j = c0 j) → (m + (m1 - m) * t ≤ 60 → ∀ j : Nat, m1 ≤ (j : Int) → (j : Int) < m + (m1 - m) * t → c2 j = c2 (j - (m1 - m)).toNat) → P (none, g1)) : ∀ (y r : Nat) (g : pH) (lv : List (Nat × pv)) {c : tC}, t - r ≤ y → 1 ≤ r ∧ (r : Int) ≤ t → tS150 g0 g p (m + (m1 - m) * (r : Int)) 0 c → (∀ j : Nat, (j : Int) < m1 → c j = c0 j) → (∀ j : Nat, m1 ≤ (j : Int) → (j : Int) < m + (m1 - m) * (r : Int) → (j : Int) < 60 → c j = c (j - (m1 - m)).toNat) → (∀ j : Nat, (j : Int) < m1 - m → m + (m1 - m) * (r : Int) - (m1 - m) + j < 60 → c (m + (m1 - m) * (r : Int) - (m1 - m) + j).toNat = c (m + j).toNat) → px_lg lv 0 = some (pvR 150) → px_lg lv 1 = some (oI m) → px_lg lv 2 = some (oI m1) → px_lg lv 3 = some (oI t) → px_lg lv 4 = some (oI (r : Int)) → t_X d 96 3 lv [] g P := by
  intro y
  induction y with
  | zero =>
    intro r g lv c hy hr hS hc1 hc2 hc3 l0 l1 l2 l3 l4
    refine t_0 zrp150_3 rfl (ld_i l4) ?_
    refine t_0 zrp150_5 rfl (ld_i l3) ?_
    refine tb_ge zrp150_6 (by decide) ⟨by omega, by omega⟩ ⟨by omega, by omega⟩ (fun c1 => ?_) (fun c1 => absurd c1 (by omega))
    show t_X d 96 40 lv [] g P
    refine t_5 zrp150_40 rfl rfl ?_
    have er : (r : Int) = t := by omega
    rw [er] at hS hc2
    exact hO _ _ hS hc1 (fun h6 j hj1 hj2 => hc2 j hj1 hj2 (by omega))
  | succ y ih =>
    intro r g lv c hy hr hS hc1 hc2 hc3 l0 l1 l2 l3 l4
    by_cases hrr : (r : Int) < t
    · have e9 : m + (m1 - m) * ((r + 1 : Nat) : Int) = m + (m1 - m) * (r : Int) + (m1 - m) := by rw [show ((r + 1 : Nat) : Int) = (r : Int) + 1 by omega, Int.mul_add, Int.mul_one]; omega
      have e8 : (m1 - m) * ((r + 1 : Nat) : Int) ≤ (m1 - m) * t := Int.mul_le_mul_of_nonneg_left (by omega) (by omega)
      have e7 : (m1 - m) * t ≤ (m1 - m) * 9 := Int.mul_le_mul_of_nonneg_left (by omega) (by omega)
      have e6 : (m1 - m) * 1 ≤ (m1 - m) * (r : Int) := Int.mul_le_mul_of_nonneg_left (by omega) (by omega)
      refine t_0 zrp150_3 rfl (ld_i l4) ?_
      refine t_0 zrp150_5 rfl (ld_i l3) ?_
      refine tb_ge zrp150_6 (by decide) ⟨by omega, by omega⟩ ⟨by omega, by omega⟩ (fun c1 => absurd c1 (by omega)) (fun c1 => ?_)
      show t_X d 96 9 lv [] g P
      refine t_0 zrp150_9 rfl (ld_i l1) ?_
      refine t_2 zrp150_10 rfl (w := (px_s1 lv 5 (oI (m)), [])) rfl ?_
      replace l0 : px_lg (px_s1 lv 5 (oI (m))) 0 = some (pvR 150) := s1_ne (by decide) (fun _ => rfl) l0
      replace l1 : px_lg (px_s1 lv 5 (oI (m))) 1 = some (oI (m)) := s1_ne (by decide) (fun _ => rfl) l1
      replace l2 : px_lg (px_s1 lv 5 (oI (m))) 2 = some (oI (m1)) := s1_ne (by decide) (fun _ => rfl) l2
      replace l3 : px_lg (px_s1 lv 5 (oI (m))) 3 = some (oI (t)) := s1_ne (by decide) (fun _ => rfl) l3
      replace l4 : px_lg (px_s1 lv 5 (oI (m))) 4 = some (oI ((r : Int))) := s1_ne (by decide) (fun _ => rfl) l4
      have l5 : px_lg (px_s1 lv 5 (oI (m))) 5 = some (oI (m)) := s1_eq
      generalize px_s1 lv 5 (oI (m)) = lv2 at l0 l1 l2 l3 l4 l5 ⊢
      show t_X d 96 12 lv2 [] g P
      refine rpi150 (by omega) hB (t := t) (rr := (r : Int)) (u := m + (m1 - m) * (r : Int)) hm ⟨by omega, by omega⟩ (c0 := c) (fun g1 c1 lv1 h1 h2 h3 h4 k0 k1 k2 k3 k4 => ?_) 60 0 _ _ (by omega) (by omega) (show tS150 g0 g p (m + (m1 - m) * (r : Int) + ((0 : Nat) : Int)) 0 c by rw [show m + (m1 - m) * (r : Int) + ((0 : Nat) : Int) = m + (m1 - m) * (r : Int) by omega]; exact hS) (fun j _ => rfl) (fun j hj => absurd hj (by omega)) hc3 l0 l1 l2 l3 l4 (l5.trans (congrArg (fun x => some (oI x)) (by omega)))
      replace l0 := k0
      replace l1 := k1
      replace l2 := k2
      replace l3 := k3
      replace l4 := k4
      show t_X d 96 34 lv1 [] g1 P
      refine t_2 zrp150_34 rfl (w := (px_s1 lv1 4 (oI ((r : Int) + 1)), [])) (pq_inc l4 (by decide)) ?_
      replace l0 : px_lg (px_s1 lv1 4 (oI ((r : Int) + 1))) 0 = some (pvR 150) := s1_ne (by decide) (fun _ => rfl) l0
      replace l1 : px_lg (px_s1 lv1 4 (oI ((r : Int) + 1))) 1 = some (oI (m)) := s1_ne (by decide) (fun _ => rfl) l1
      replace l2 : px_lg (px_s1 lv1 4 (oI ((r : Int) + 1))) 2 = some (oI (m1)) := s1_ne (by decide) (fun _ => rfl) l2
      replace l3 : px_lg (px_s1 lv1 4 (oI ((r : Int) + 1))) 3 = some (oI (t)) := s1_ne (by decide) (fun _ => rfl) l3
      have l4 : px_lg (px_s1 lv1 4 (oI ((r : Int) + 1))) 4 = some (oI ((r : Int) + 1)) := s1_eq
      generalize px_s1 lv1 4 (oI ((r : Int) + 1)) = lv3 at l0 l1 l2 l3 l4 ⊢
      show t_X d 96 37 lv3 [] g1 P
      refine t_1 zrp150_37 rfl (pb_goto (pc := 37) (by decide)) ?_
      show t_X d 96 3 lv3 [] g1 P
      refine ih (r + 1) _ _ (by omega) (by omega) (show tS150 g0 g1 p (m + (m1 - m) * ((r + 1 : Nat) : Int)) 0 c1 by rw [e9]; exact h1) ?_ ?_ ?_ l0 l1 l2 l3 (l4.trans (congrArg (fun x => some (oI x)) (by omega)))
      · intro j hj; rw [h2 j (by omega)]; exact hc1 j hj
      · intro j hj1 hj2 h6
        by_cases e : (j : Int) < m + (m1 - m) * (r : Int)
        · rw [h2 j e, h2 _ (by omega)]; exact hc2 j hj1 e h6
        · have x1 := h3 (j - (m + (m1 - m) * (r : Int))).toNat (by omega) (by omega)
          have x2 := h4 (j - (m + (m1 - m) * (r : Int))).toNat (by omega) (by omega)
          rw [show (m + (m1 - m) * (r : Int) + ((j - (m + (m1 - m) * (r : Int))).toNat : Int)).toNat = j by omega] at x1
          rw [show (m + (m1 - m) * (r : Int) - (m1 - m) + ((j - (m + (m1 - m) * (r : Int))).toNat : Int)).toNat = ((j : Int) - (m1 - m)).toNat by omega] at x2
          rw [x1, x2]
      · intro j hj h6
        rw [show m + (m1 - m) * ((r + 1 : Nat) : Int) - (m1 - m) = m + (m1 - m) * (r : Int) by omega]
        exact h3 j hj (by omega)
    · skip
      refine t_0 zrp150_3 rfl (ld_i l4) ?_
      refine t_0 zrp150_5 rfl (ld_i l3) ?_
      refine tb_ge zrp150_6 (by decide) ⟨by omega, by omega⟩ ⟨by omega, by omega⟩ (fun c1 => ?_) (fun c1 => absurd c1 (by omega))
      show t_X d 96 40 lv [] g P
      refine t_5 zrp150_40 rfl rfl ?_
      have er : (r : Int) = t := by omega
      rw [er] at hS hc2
      exact hO _ _ hS hc1 (fun h6 j hj1 hj2 => hc2 j hj1 hj2 (by omega))
theorem rp150_run {d : Nat} (hd : 1 ≤ d) {g0 g : pH} {B : tC} {n : Int} (hB : tB150 g0 B n) {p m m1 t : Int} {c : tC} (hS : tS150 g0 g p m1 0 c) (hm : 0 ≤ m ∧ m < m1 ∧ m1 ≤ 60) (ht : 2 ≤ t ∧ t ≤ 9) {P : Option pv × pH → Prop} (hO : ∀ (g1 : pH) (c2 : tC), tS150 g0 g1 p (m + (m1 - m) * t) 0 c2 → (∀ j : Nat, (j : Int) < m1 → c2 j = c j) → (m + (m1 - m) * t ≤ 60 → ∀ j : Nat, m1 ≤ (j : Int) → (j : Int) < m + (m1 - m) * t → c2 j = c2 (j - (m1 - m)).toNat) → P (none, g1)) {lv : List (Nat × pv)} (l0 : px_lg lv 0 = some (pvR 150)) (l1 : px_lg lv 1 = some (oI m)) (l2 : px_lg lv 2 = some (oI m1)) (l3 : px_lg lv 3 = some (oI t)) : t_X d 96 0 lv [] g P := by
  refine t_0 zrp150_0 rfl rfl ?_
  refine t_2 zrp150_1 rfl (w := (px_s1 lv 4 (oI 1), [])) rfl ?_
  replace l0 : px_lg (px_s1 lv 4 (oI 1)) 0 = some (pvR 150) := s1_ne (by decide) (fun _ => rfl) l0
  replace l1 : px_lg (px_s1 lv 4 (oI 1)) 1 = some (oI (m)) := s1_ne (by decide) (fun _ => rfl) l1
  replace l2 : px_lg (px_s1 lv 4 (oI 1)) 2 = some (oI (m1)) := s1_ne (by decide) (fun _ => rfl) l2
  replace l3 : px_lg (px_s1 lv 4 (oI 1)) 3 = some (oI (t)) := s1_ne (by decide) (fun _ => rfl) l3
  have l4 : px_lg (px_s1 lv 4 (oI 1)) 4 = some (oI 1) := s1_eq
  generalize px_s1 lv 4 (oI 1) = lv1 at l0 l1 l2 l3 l4 ⊢
  show t_X d 96 3 lv1 [] g P
  have e1 : m + (m1 - m) * ((1 : Nat) : Int) = m1 := by rw [show ((1 : Nat) : Int) = 1 from rfl, Int.mul_one]; omega
  refine rpo150 (by omega) hB hm ht (c0 := c) hO 9 1 _ _ (by omega) (by omega) (show tS150 g0 g p (m + (m1 - m) * ((1 : Nat) : Int)) 0 c by rw [e1]; exact hS) (fun j _ => rfl) (fun j h1 h2 => absurd h2 (by omega)) (fun j hj h6 => by rw [e1, show m1 - (m1 - m) = m by omega]) l0 l1 l2 l3 l4
def tI150 (g0 : pH) (B : tC) (n : Int) (δ : Nat) : Prop := ∀ (d : Nat), 4 + 3 * (4 - δ) ≤ d → ∀ (g : pH) (p m : Int) (c : tC), tS150 g0 g p m 0 c → 0 ≤ p ∧ p ≤ n → 0 ≤ m ∧ m ≤ 60 → ∀ (P : Option pv × pH → Prop), (∀ (g1 : pH) (f q m1 : Int) (c1 : tC), tS150 g0 g1 q m1 f c1 → f < 0 → -9999 ≤ f → tIs (tH B n) n δ p m c (.inl f) → P (none, g1)) → (∀ (g1 : pH) (q m1 : Int) (c1 : tC), tS150 g0 g1 q m1 0 c1 → tQ n p m q m1 → tIs (tH B n) n δ p m c (.inr (q, m1, c1)) → P (none, g1)) → ∀ (lv : List (Nat × pv)), px_lg lv 0 = some (pvR 150) → px_lg lv 1 = some (oI (δ : Int)) → t_X d 92 0 lv [] g P
set_option maxHeartbeats 4000000 in
theorem ro150_run {d δ : Nat} {g0 g : pH} {B : tC} {n : Int} (hB : tB150 g0 B n) {p m : Int} {c : tC} (hS : tS150 g0 g p m 0 c) (hm : 0 ≤ m ∧ m ≤ 60) (hI : δ < 4 → tI150 g0 B n (δ + 1)) (hδ : δ ≤ 4) (hd : 2 + 3 * (4 - δ) ≤ d) (hh : tH B n p = 40) {P : Option pv × pH → Prop} (hF : ∀ (g1 : pH) (f q m1 : Int) (c1 : tC), tS150 g0 g1 q m1 f c1 → f < 0 → -9999 ≤ f → tIt (tH B n) n δ p m c (.inl f) → P (none, g1)) (hO : ∀ (g1 : pH) (q m2 : Int) (c2 : tC), tS150 g0 g1 q m2 0 c2 → p < q ∧ q ≤ n → m < m2 → (m2 ≤ 60 → tIt (tH B n) n δ p m c (.inr (q, m2, c2))) → (60 < m2 → tIt (tH B n) n δ p m c (.inl (-6000 - p))) → P (none, g1)) {lv : List (Nat × pv)} (l0 : px_lg lv 0 = some (pvR 150)) (l1 : px_lg lv 1 = some (oI (δ : Int))) : t_X d 94 0 lv [] g P := by
  obtain ⟨hn0, hn1, hp1, hm1, hH⟩ := cm150 hB hS
  have z0 := tH_n (B := B) (n := n) (p := p)
  refine t_0 zro150_0 rfl (ld_i l1) ?_
  refine t_0 zro150_1 rfl rfl ?_
  refine tb_lt zro150_2 (by decide) ⟨by omega, by omega⟩ ⟨by omega, by omega⟩ (fun c1 => ?_) (fun c1 => ?_)
  · show t_X d 94 15 lv [] g P
    refine t_0 zro150_15 rfl (ld_a l0) ?_
    refine t_0 zro150_16 rfl rfl ?_
    refine t_0 zro150_17 rfl (pq_cv eo_150 rfl (show cF g 150 4 = p from S_f hS 0 (Nat.le_of_ble_eq_true rfl))) ?_
    show t_X d 94 20 lv [oI (p), pvR 150] g P
    refine t_0 zro150_20 rfl rfl ?_
    refine t_0 zro150_21 rfl pq_add ?_
    refine ts_f (n := 0) rfl rfl (by decide) zro150_22 rfl eo_150 hS wt_tW150_150_4 gy_150_4 (by decide) ⟨by omega, by omega⟩ (fun g2 hS2 => ?_)
    replace hS2 : tS150 g0 g2 (p + 1) m 0 c := hS2
    show t_X d 94 25 lv [] g2 P
    refine t_0 zro150_25 rfl (ld_a l0) ?_
    refine t_0 zro150_26 rfl (pq_cv eo_150 rfl (show cF g2 150 1 = m from S_f hS2 1 (Nat.le_of_ble_eq_true rfl))) ?_
    show t_X d 94 29 lv [oI (m)] g2 P
    refine t_2 zro150_29 rfl (w := (px_s1 lv 2 (oI (m)), [])) rfl ?_
    replace l0 : px_lg (px_s1 lv 2 (oI (m))) 0 = some (pvR 150) := s1_ne (by decide) (fun _ => rfl) l0
    replace l1 : px_lg (px_s1 lv 2 (oI (m))) 1 = some (oI ((δ : Int))) := s1_ne (by decide) (fun _ => rfl) l1
    have l2 : px_lg (px_s1 lv 2 (oI (m))) 2 = some (oI (m)) := s1_eq
    generalize px_s1 lv 2 (oI (m)) = lv3 at l0 l1 l2 ⊢
    show t_X d 94 30 lv3 [] g2 P
    refine t_0 zro150_30 rfl (ld_a l0) ?_
    refine t_0 zro150_31 rfl (ld_i l1) ?_
    refine t_0 zro150_32 rfl rfl ?_
    refine t_0 zro150_33 rfl pq_add ?_
    refine t_3 zro150_34 rfl (ar := ([pvR 150, oI ((δ : Int) + 1)], [])) (pcal_w (as := [oI ((δ : Int) + 1)]) rfl rfl rfl eo_150) ⟨by omega, Nat.le_of_ble_eq_true rfl, Nat.le_of_ble_eq_true rfl, rfl⟩ ?_
    refine hI (by omega) _ (by omega) _ _ _ _ hS2 ⟨by omega, by omega⟩ hm _ (fun g4 f4 q4 m4 c4 hS4 u4 w4 t4 => ?_) (fun g4 q4 m4 c4 hS4 Q4 t4 => ?_) _ rfl (congrArg (fun x => some (oI x)) (show (δ : Int) + 1 = ((δ + 1 : Nat) : Int) by omega))
    · replace hS4 : tS150 g0 g4 q4 m4 f4 c4 := hS4
      show t_X d 94 37 lv3 [] g4 P
      refine t_0 zro150_37 rfl (ld_a l0) ?_
      refine t_0 zro150_38 rfl (pq_cv eo_150 rfl (show cF g4 150 5 = f4 from S_f hS4 2 (Nat.le_of_ble_eq_true rfl))) ?_
      show t_X d 94 41 lv3 [oI (f4)] g4 P
      refine tz_eq zro150_41 (by decide) ⟨by omega, by omega⟩ (fun c5 => absurd c5 (by omega)) (fun c5 => ?_)
      show t_X d 94 44 lv3 [] g4 P
      refine t_5 zro150_44 rfl rfl ?_
      exact hF _ _ _ _ _ hS4 (by omega) (by omega) ((tCl_x _ _).2.2.1 δ p m c _ ⟨by omega, by omega, by omega, by omega⟩ hh (by omega) t4)
    · replace hS4 : tS150 g0 g4 q4 m4 0 c4 := hS4
      have R4 := Q4
      unfold tQ at R4
      show t_X d 94 37 lv3 [] g4 P
      refine t_0 zro150_37 rfl (ld_a l0) ?_
      refine t_0 zro150_38 rfl (pq_cv eo_150 rfl (show cF g4 150 5 = 0 from S_f hS4 2 (Nat.le_of_ble_eq_true rfl))) ?_
      show t_X d 94 41 lv3 [oI 0] g4 P
      refine tz_eq zro150_41 (by decide) ⟨by omega, by omega⟩ (fun c6 => ?_) (fun c6 => absurd c6 (by omega))
      show t_X d 94 45 lv3 [] g4 P
      refine t_0 zro150_45 rfl (ld_a l0) ?_
      refine t_3 zro150_46 rfl (ar := ([pvR 150], [])) (pcal_w (as := []) rfl rfl rfl eo_150) ⟨by omega, Nat.le_of_ble_eq_true rfl, Nat.le_of_ble_eq_true rfl, rfl⟩ ?_
      refine sg150_run hB hS4 ?_ rfl
      have b7 := hH q4 (by omega)
      have z7 := tH_n (B := B) (n := n) (p := q4)
      show t_X d 94 49 lv3 [oI (tH B n q4)] g4 P
      refine t_0 zro150_49 rfl (pq_b (by decide)) ?_
      refine tb_eq zro150_51 (by decide) ⟨by omega, by omega⟩ ⟨by omega, by omega⟩ (fun c8 => ?_) (fun c8 => ?_)
      · show t_X d 94 64 lv3 [] g4 P
        refine t_0 zro150_64 rfl (ld_a l0) ?_
        refine t_0 zro150_65 rfl rfl ?_
        refine t_0 zro150_66 rfl (pq_cv eo_150 rfl (show cF g4 150 4 = q4 from S_f hS4 0 (Nat.le_of_ble_eq_true rfl))) ?_
        show t_X d 94 69 lv3 [oI (q4), pvR 150] g4 P
        refine t_0 zro150_69 rfl rfl ?_
        refine t_0 zro150_70 rfl pq_add ?_
        refine ts_f (n := 0) rfl rfl (by decide) zro150_71 rfl eo_150 hS4 wt_tW150_150_4 gy_150_4 (by decide) ⟨by omega, by omega⟩ (fun g9 hS9 => ?_)
        replace hS9 : tS150 g0 g9 (q4 + 1) m4 0 c4 := hS9
        show t_X d 94 74 lv3 [] g9 P
        refine t_0 zro150_74 rfl (ld_a l0) ?_
        refine t_3 zro150_75 rfl (ar := ([pvR 150], [])) (pcal_w (as := []) rfl rfl rfl eo_150) ⟨by omega, Nat.le_of_ble_eq_true rfl, Nat.le_of_ble_eq_true rfl, rfl⟩ ?_
        refine sg150_run hB hS9 ?_ rfl
        have b10 := hH (q4 + 1) (by omega)
        have z10 := tH_n (B := B) (n := n) (p := q4 + 1)
        show t_X d 94 78 lv3 [oI (tH B n (q4 + 1))] g9 P
        refine t_0 zro150_78 rfl (pq_b (by decide)) ?_
        refine t_0 zro150_80 rfl pq_sub ?_
        refine t_2 zro150_81 rfl (w := (px_s1 lv3 3 (oI ((tH B n (q4 + 1)) - 48)), [])) rfl ?_
        replace l0 : px_lg (px_s1 lv3 3 (oI ((tH B n (q4 + 1)) - 48))) 0 = some (pvR 150) := s1_ne (by decide) (fun _ => rfl) l0
        replace l1 : px_lg (px_s1 lv3 3 (oI ((tH B n (q4 + 1)) - 48))) 1 = some (oI ((δ : Int))) := s1_ne (by decide) (fun _ => rfl) l1
        replace l2 : px_lg (px_s1 lv3 3 (oI ((tH B n (q4 + 1)) - 48))) 2 = some (oI (m)) := s1_ne (by decide) (fun _ => rfl) l2
        have l3 : px_lg (px_s1 lv3 3 (oI ((tH B n (q4 + 1)) - 48))) 3 = some (oI ((tH B n (q4 + 1)) - 48)) := s1_eq
        generalize px_s1 lv3 3 (oI ((tH B n (q4 + 1)) - 48)) = lv11 at l0 l1 l2 l3 ⊢
        show t_X d 94 82 lv11 [] g9 P
        refine t_0 zro150_82 rfl (ld_i l3) ?_
        refine t_0 zro150_83 rfl rfl ?_
        refine t_0 zro150_84 rfl (pq_b (by decide)) ?_
        refine t_3 zro150_86 rfl (ar := ([oI ((tH B n (q4 + 1)) - 48), oI 2, oI 9], [])) (pcal_s ⟨Or.inr rfl, rfl, Nat.le_of_ble_eq_true rfl⟩) ⟨by omega, Nat.le_of_ble_eq_true rfl, Nat.le_of_ble_eq_true rfl, rfl⟩ ?_
        refine ii_run ⟨by omega, by omega⟩ ⟨by omega, by omega⟩ ⟨by omega, by omega⟩ rfl rfl rfl (fun t12 => ?_) (fun t12 => ?_)
        · show t_X d 94 89 lv11 [oI 1] g9 P
          refine tz_ne zro150_89 (by decide) ⟨by omega, by omega⟩ (fun c13 => ?_) (fun c13 => absurd c13 (by omega))
          show t_X d 94 102 lv11 [] g9 P
          refine t_0 zro150_102 rfl (ld_a l0) ?_
          refine t_0 zro150_103 rfl rfl ?_
          refine t_0 zro150_104 rfl (pq_cv eo_150 rfl (show cF g9 150 4 = q4 + 1 from S_f hS9 0 (Nat.le_of_ble_eq_true rfl))) ?_
          show t_X d 94 107 lv11 [oI (q4 + 1), pvR 150] g9 P
          refine t_0 zro150_107 rfl rfl ?_
          refine t_0 zro150_108 rfl pq_add ?_
          refine ts_f (n := 0) rfl rfl (by decide) zro150_109 rfl eo_150 hS9 wt_tW150_150_4 gy_150_4 (by decide) ⟨by omega, by omega⟩ (fun g14 hS14 => ?_)
          replace hS14 : tS150 g0 g14 ((q4 + 1) + 1) m4 0 c4 := hS14
          show t_X d 94 112 lv11 [] g14 P
          refine t_0 zro150_112 rfl (ld_a l0) ?_
          refine t_0 zro150_113 rfl (ld_i l2) ?_
          refine t_0 zro150_114 rfl (ld_a l0) ?_
          refine t_0 zro150_115 rfl (pq_cv eo_150 rfl (show cF g14 150 1 = m4 from S_f hS14 1 (Nat.le_of_ble_eq_true rfl))) ?_
          show t_X d 94 118 lv11 [oI (m4), oI (m), pvR 150] g14 P
          refine t_0 zro150_118 rfl (ld_i l3) ?_
          refine t_3 zro150_119 rfl (ar := ([pvR 150, oI (m), oI (m4), oI ((tH B n (q4 + 1)) - 48)], [])) (pcal_w (as := [oI ((tH B n (q4 + 1)) - 48), oI (m4), oI (m)]) rfl rfl rfl eo_150) ⟨by omega, Nat.le_of_ble_eq_true rfl, Nat.le_of_ble_eq_true rfl, rfl⟩ ?_
          refine rp150_run (by omega) hB hS14 (m := m) ⟨by omega, by omega, by omega⟩ ⟨by omega, by omega⟩ (fun g9 c9 hS9 x1 x2 => ?_) rfl rfl rfl rfl
          replace hS9 : tS150 g0 g9 ((q4 + 1) + 1) (m + (m4 - m) * ((tH B n (q4 + 1)) - 48)) 0 c9 := hS9
          show t_X d 94 122 lv11 [] g9 P
          refine t_5 zro150_122 rfl rfl ?_
          have e5 : (m4 - m) * 2 ≤ (m4 - m) * ((tH B n (q4 + 1)) - 48) := Int.mul_le_mul_of_nonneg_left (by omega) (by omega)
          refine hO _ _ _ _ (show tS150 g0 g9 (q4 + 2) _ 0 c9 by rw [show q4 + 2 = q4 + 1 + 1 by omega]; exact hS9) ⟨by omega, by omega⟩ (by omega) (fun h6 => ?_) (fun h6 => ?_)
          · exact ((tCl_x _ _).2.2.2.1 δ p m c _ _ _ _ ⟨Q4, by omega⟩ hh (by omega) t4 (Or.inr (Or.inr ⟨by omega, ⟨by omega, by omega⟩, Or.inr ⟨h6, _, rfl, x1, x2 h6⟩⟩)))
          · exact ((tCl_x _ _).2.2.2.1 δ p m c _ _ _ _ ⟨Q4, by omega⟩ hh (by omega) t4 (Or.inr (Or.inr ⟨by omega, ⟨by omega, by omega⟩, Or.inl ⟨h6, rfl⟩⟩)))
        · show t_X d 94 89 lv11 [oI 0] g9 P
          refine tz_ne zro150_89 (by decide) ⟨by omega, by omega⟩ (fun c15 => absurd c15 (by omega)) (fun c15 => ?_)
          show t_X d 94 92 lv11 [] g9 P
          refine t_0 zro150_92 rfl (ld_a l0) ?_
          refine t_0 zro150_93 rfl rfl ?_
          refine t_0 zro150_94 rfl (ld_a l0) ?_
          refine t_0 zro150_95 rfl (pq_cv eo_150 rfl (show cF g9 150 4 = q4 + 1 from S_f hS9 0 (Nat.le_of_ble_eq_true rfl))) ?_
          show t_X d 94 98 lv11 [oI (q4 + 1), oI 1, pvR 150] g9 P
          refine t_3 zro150_98 rfl (ar := ([pvR 150, oI 1, oI (q4 + 1)], [])) (pcal_w (as := [oI (q4 + 1), oI 1]) rfl rfl rfl eo_150) ⟨by omega, Nat.le_of_ble_eq_true rfl, Nat.le_of_ble_eq_true rfl, rfl⟩ ?_
          refine fl150_run hB hS9 ⟨by omega, by omega⟩ ⟨by omega, by omega⟩ (fun g16 hS16 => ?_) rfl rfl rfl
          replace hS16 : tS150 g0 g16 (q4 + 1) m4 (-1000 * 1 - (q4 + 1)) c4 := hS16
          show t_X d 94 101 lv11 [] g16 P
          refine t_5 zro150_101 rfl rfl ?_
          exact hF _ _ _ _ _ hS16 (by omega) (by omega) (by rw [show -1000 * 1 - (q4 + 1) = -1000 - (q4 + 1) by omega]; exact ((tCl_x _ _).2.2.2.1 δ p m c _ _ _ _ ⟨Q4, by omega⟩ hh (by omega) t4 (Or.inr (Or.inl ⟨by omega, by omega, rfl⟩))))
      · show t_X d 94 54 lv3 [] g4 P
        refine t_0 zro150_54 rfl (ld_a l0) ?_
        refine t_0 zro150_55 rfl rfl ?_
        refine t_0 zro150_56 rfl (ld_a l0) ?_
        refine t_0 zro150_57 rfl (pq_cv eo_150 rfl (show cF g4 150 4 = q4 from S_f hS4 0 (Nat.le_of_ble_eq_true rfl))) ?_
        show t_X d 94 60 lv3 [oI (q4), oI 1, pvR 150] g4 P
        refine t_3 zro150_60 rfl (ar := ([pvR 150, oI 1, oI (q4)], [])) (pcal_w (as := [oI (q4), oI 1]) rfl rfl rfl eo_150) ⟨by omega, Nat.le_of_ble_eq_true rfl, Nat.le_of_ble_eq_true rfl, rfl⟩ ?_
        refine fl150_run hB hS4 ⟨by omega, by omega⟩ ⟨by omega, by omega⟩ (fun g17 hS17 => ?_) rfl rfl rfl
        replace hS17 : tS150 g0 g17 q4 m4 (-1000 * 1 - q4) c4 := hS17
        show t_X d 94 63 lv3 [] g17 P
        refine t_5 zro150_63 rfl rfl ?_
        exact hF _ _ _ _ _ hS17 (by omega) (by omega) (by rw [show -1000 * 1 - q4 = -1000 - q4 by omega]; exact ((tCl_x _ _).2.2.2.1 δ p m c _ _ _ _ ⟨Q4, by omega⟩ hh (by omega) t4 (Or.inl ⟨by omega, rfl⟩)))
  · show t_X d 94 5 lv [] g P
    refine t_0 zro150_5 rfl (ld_a l0) ?_
    refine t_0 zro150_6 rfl rfl ?_
    refine t_0 zro150_7 rfl (ld_a l0) ?_
    refine t_0 zro150_8 rfl (pq_cv eo_150 rfl (show cF g 150 4 = p from S_f hS 0 (Nat.le_of_ble_eq_true rfl))) ?_
    show t_X d 94 11 lv [oI (p), oI 5, pvR 150] g P
    refine t_3 zro150_11 rfl (ar := ([pvR 150, oI 5, oI (p)], [])) (pcal_w (as := [oI (p), oI 5]) rfl rfl rfl eo_150) ⟨by omega, Nat.le_of_ble_eq_true rfl, Nat.le_of_ble_eq_true rfl, rfl⟩ ?_
    refine fl150_run hB hS ⟨by omega, by omega⟩ ⟨by omega, by omega⟩ (fun g18 hS18 => ?_) rfl rfl rfl
    replace hS18 : tS150 g0 g18 p m (-1000 * 5 - p) c := hS18
    show t_X d 94 14 lv [] g18 P
    refine t_5 zro150_14 rfl rfl ?_
    exact hF _ _ _ _ _ hS18 (by omega) (by omega) (by rw [show -1000 * 5 - p = -5000 - p by omega]; exact (tCl_x _ _).2.1 δ p m c ⟨by omega, by omega, by omega, by omega⟩ hh (by omega))
set_option maxHeartbeats 4000000 in
theorem it150_run {d δ : Nat} {g0 g : pH} {B : tC} {n : Int} (hB : tB150 g0 B n) {p m : Int} {c : tC} (hS : tS150 g0 g p m 0 c) (hp : 0 ≤ p ∧ p ≤ n) (hm : 0 ≤ m ∧ m ≤ 60) (hI : δ < 4 → tI150 g0 B n (δ + 1)) (hδ : δ ≤ 4) (hd : 3 + 3 * (4 - δ) ≤ d) {P : Option pv × pH → Prop} (hF : ∀ (g1 : pH) (f q m1 : Int) (c1 : tC), tS150 g0 g1 q m1 f c1 → f < 0 → -9999 ≤ f → tIt (tH B n) n δ p m c (.inl f) → P (none, g1)) (hO : ∀ (g1 : pH) (q m2 : Int) (c2 : tC), tS150 g0 g1 q m2 0 c2 → 0 ≤ p ∧ p < q ∧ q ≤ n ∧ 0 ≤ m ∧ m < m2 ∧ m2 ≤ 60 → tIt (tH B n) n δ p m c (.inr (q, m2, c2)) → P (none, g1)) {lv : List (Nat × pv)} (l0 : px_lg lv 0 = some (pvR 150)) (l1 : px_lg lv 1 = some (oI (δ : Int))) : t_X d 91 0 lv [] g P := by
  obtain ⟨hn0, hn1, hp1, hm1, hH⟩ := cm150 hB hS
  refine t_0 zri150_0 rfl (ld_a l0) ?_
  refine t_0 zri150_1 rfl (pq_cv eo_150 rfl (show cF g 150 4 = p from S_f hS 0 (Nat.le_of_ble_eq_true rfl))) ?_
  show t_X d 91 4 lv [oI (p)] g P
  refine t_2 zri150_4 rfl (w := (px_s1 lv 2 (oI (p)), [])) rfl ?_
  replace l0 : px_lg (px_s1 lv 2 (oI (p))) 0 = some (pvR 150) := s1_ne (by decide) (fun _ => rfl) l0
  replace l1 : px_lg (px_s1 lv 2 (oI (p))) 1 = some (oI ((δ : Int))) := s1_ne (by decide) (fun _ => rfl) l1
  have l2 : px_lg (px_s1 lv 2 (oI (p))) 2 = some (oI (p)) := s1_eq
  generalize px_s1 lv 2 (oI (p)) = lv1 at l0 l1 l2 ⊢
  show t_X d 91 5 lv1 [] g P
  refine t_0 zri150_5 rfl (ld_a l0) ?_
  refine t_3 zri150_6 rfl (ar := ([pvR 150], [])) (pcal_w (as := []) rfl rfl rfl eo_150) ⟨by omega, Nat.le_of_ble_eq_true rfl, Nat.le_of_ble_eq_true rfl, rfl⟩ ?_
  refine sg150_run hB hS ?_ rfl
  have b2 := hH p (by omega)
  have z2 := tH_n (B := B) (n := n) (p := p)
  show t_X d 91 9 lv1 [oI (tH B n p)] g P
  refine t_0 zri150_9 rfl (pq_b (by decide)) ?_
  refine tb_ne zri150_11 (by decide) ⟨by omega, by omega⟩ ⟨by omega, by omega⟩ (fun c3 => ?_) (fun c3 => ?_)
  · show t_X d 91 22 lv1 [] g P
    refine t_0 zri150_22 rfl (ld_a l0) ?_
    refine t_3 zri150_23 rfl (ar := ([pvR 150], [])) (pcal_w (as := []) rfl rfl rfl eo_150) ⟨by omega, Nat.le_of_ble_eq_true rfl, Nat.le_of_ble_eq_true rfl, rfl⟩ ?_
    refine rw150_run (by omega) hB hS hm (fun g4 f4 q4 hS4 u4 w4 t4 => ?_) (fun g4 q4 w4 c4 hS4 Q4 y4 t4 x4 => ?_) rfl
    · replace hS4 : tS150 g0 g4 q4 m f4 c := hS4
      show t_X d 91 26 lv1 [] g4 P
      refine t_0 zri150_26 rfl (ld_a l0) ?_
      refine t_0 zri150_27 rfl (pq_cv eo_150 rfl (show cF g4 150 1 = m from S_f hS4 1 (Nat.le_of_ble_eq_true rfl))) ?_
      show t_X d 91 30 lv1 [oI (m)] g4 P
      refine t_0 zri150_30 rfl (pq_b (by decide)) ?_
      refine tb_le zri150_32 (by decide) ⟨by omega, by omega⟩ ⟨by omega, by omega⟩ (fun c5 => ?_) (fun c5 => ?_)
      · show t_X d 91 42 lv1 [] g4 P
        refine t_5 zri150_42 rfl rfl ?_
        exact hF _ _ _ _ _ hS4 (by omega) (by omega) ((tCl_x _ _).1 δ p m c _ ⟨by omega, by omega, by omega, by omega⟩ (by omega) t4)
      · show t_X d 91 35 lv1 [] g4 P
        refine t_0 zri150_35 rfl (ld_a l0) ?_
        refine t_0 zri150_36 rfl (pq_b (by decide)) ?_
        refine t_0 zri150_38 rfl (ld_i l2) ?_
        refine t_3 zri150_39 rfl (ar := ([pvR 150, oI 6, oI (p)], [])) (pcal_w (as := [oI (p), oI 6]) rfl rfl rfl eo_150) ⟨by omega, Nat.le_of_ble_eq_true rfl, Nat.le_of_ble_eq_true rfl, rfl⟩ ?_
        refine fn150_run hB hS4 (by omega) (by omega) (a := 0) (b := 0) ?_ rfl
        show t_X d 91 42 lv1 [] g4 P
        refine t_5 zri150_42 rfl rfl ?_
        exact hF _ _ _ _ _ hS4 (by omega) (by omega) ((tCl_x _ _).1 δ p m c _ ⟨by omega, by omega, by omega, by omega⟩ (by omega) t4)
    · replace hS4 : tS150 g0 g4 q4 (m + w4) 0 c4 := hS4
      show t_X d 91 26 lv1 [] g4 P
      refine t_0 zri150_26 rfl (ld_a l0) ?_
      refine t_0 zri150_27 rfl (pq_cv eo_150 rfl (show cF g4 150 1 = m + w4 from S_f hS4 1 (Nat.le_of_ble_eq_true rfl))) ?_
      show t_X d 91 30 lv1 [oI (m + w4)] g4 P
      refine t_0 zri150_30 rfl (pq_b (by decide)) ?_
      refine tb_le zri150_32 (by decide) ⟨by omega, by omega⟩ ⟨by omega, by omega⟩ (fun c7 => ?_) (fun c7 => ?_)
      · show t_X d 91 42 lv1 [] g4 P
        refine t_5 zri150_42 rfl rfl ?_
        exact hO _ _ _ _ hS4 ⟨by omega, by omega, by omega, by omega, by omega, by omega⟩ ((tCl_x _ _).1 δ p m c _ ⟨by omega, by omega, by omega, by omega⟩ (by omega) (t4 (by omega)))
      · show t_X d 91 35 lv1 [] g4 P
        refine t_0 zri150_35 rfl (ld_a l0) ?_
        refine t_0 zri150_36 rfl (pq_b (by decide)) ?_
        refine t_0 zri150_38 rfl (ld_i l2) ?_
        refine t_3 zri150_39 rfl (ar := ([pvR 150, oI 6, oI (p)], [])) (pcal_w (as := [oI (p), oI 6]) rfl rfl rfl eo_150) ⟨by omega, Nat.le_of_ble_eq_true rfl, Nat.le_of_ble_eq_true rfl, rfl⟩ ?_
        refine fl150_run hB hS4 ⟨by omega, by omega⟩ ⟨by omega, by omega⟩ (fun g8 hS8 => ?_) rfl rfl rfl
        replace hS8 : tS150 g0 g8 q4 (m + w4) (-1000 * 6 - p) c4 := hS8
        show t_X d 91 42 lv1 [] g8 P
        refine t_5 zri150_42 rfl rfl ?_
        exact hF _ _ _ _ _ hS8 (by omega) (by omega) (by rw [show -1000 * 6 - p = -6000 - p by omega]; exact ((tCl_x _ _).1 δ p m c _ ⟨by omega, by omega, by omega, by omega⟩ (by omega) (x4 (by omega))))
  · show t_X d 91 14 lv1 [] g P
    refine t_0 zri150_14 rfl (ld_a l0) ?_
    refine t_0 zri150_15 rfl (ld_i l1) ?_
    refine t_3 zri150_16 rfl (ar := ([pvR 150, oI ((δ : Int))], [])) (pcal_w (as := [oI ((δ : Int))]) rfl rfl rfl eo_150) ⟨by omega, Nat.le_of_ble_eq_true rfl, Nat.le_of_ble_eq_true rfl, rfl⟩ ?_
    refine ro150_run hB hS hm hI hδ (by omega) (by omega) (fun g9 f9 q9 m9 c9 hS9 u9 w9 t9 => ?_) (fun g9 q9 m9 c9 hS9 Q9 w9 t9 x9 => ?_) rfl rfl
    · replace hS9 : tS150 g0 g9 q9 m9 f9 c9 := hS9
      have y9 := (cm150 hB hS9).2.2.2.1
      show t_X d 91 19 lv1 [] g9 P
      refine t_1 zri150_19 rfl (pb_goto (pc := 19) (by decide)) ?_
      show t_X d 91 26 lv1 [] g9 P
      refine t_0 zri150_26 rfl (ld_a l0) ?_
      refine t_0 zri150_27 rfl (pq_cv eo_150 rfl (show cF g9 150 1 = m9 from S_f hS9 1 (Nat.le_of_ble_eq_true rfl))) ?_
      show t_X d 91 30 lv1 [oI (m9)] g9 P
      refine t_0 zri150_30 rfl (pq_b (by decide)) ?_
      refine tb_le zri150_32 (by decide) ⟨by omega, by omega⟩ ⟨by omega, by omega⟩ (fun c10 => ?_) (fun c10 => ?_)
      · show t_X d 91 42 lv1 [] g9 P
        refine t_5 zri150_42 rfl rfl ?_
        exact hF _ _ _ _ _ hS9 (by omega) (by omega) t9
      · show t_X d 91 35 lv1 [] g9 P
        refine t_0 zri150_35 rfl (ld_a l0) ?_
        refine t_0 zri150_36 rfl (pq_b (by decide)) ?_
        refine t_0 zri150_38 rfl (ld_i l2) ?_
        refine t_3 zri150_39 rfl (ar := ([pvR 150, oI 6, oI (p)], [])) (pcal_w (as := [oI (p), oI 6]) rfl rfl rfl eo_150) ⟨by omega, Nat.le_of_ble_eq_true rfl, Nat.le_of_ble_eq_true rfl, rfl⟩ ?_
        refine fn150_run hB hS9 (by omega) (by omega) (a := 0) (b := 0) ?_ rfl
        show t_X d 91 42 lv1 [] g9 P
        refine t_5 zri150_42 rfl rfl ?_
        exact hF _ _ _ _ _ hS9 (by omega) (by omega) t9
    · replace hS9 : tS150 g0 g9 q9 m9 0 c9 := hS9
      have y9 := (cm150 hB hS9).2.2.2.1
      show t_X d 91 19 lv1 [] g9 P
      refine t_1 zri150_19 rfl (pb_goto (pc := 19) (by decide)) ?_
      show t_X d 91 26 lv1 [] g9 P
      refine t_0 zri150_26 rfl (ld_a l0) ?_
      refine t_0 zri150_27 rfl (pq_cv eo_150 rfl (show cF g9 150 1 = m9 from S_f hS9 1 (Nat.le_of_ble_eq_true rfl))) ?_
      show t_X d 91 30 lv1 [oI (m9)] g9 P
      refine t_0 zri150_30 rfl (pq_b (by decide)) ?_
      refine tb_le zri150_32 (by decide) ⟨by omega, by omega⟩ ⟨by omega, by omega⟩ (fun c12 => ?_) (fun c12 => ?_)
      · show t_X d 91 42 lv1 [] g9 P
        refine t_5 zri150_42 rfl rfl ?_
        exact hO _ _ _ _ hS9 ⟨by omega, by omega, by omega, by omega, by omega, by omega⟩ (t9 (by omega))
      · show t_X d 91 35 lv1 [] g9 P
        refine t_0 zri150_35 rfl (ld_a l0) ?_
        refine t_0 zri150_36 rfl (pq_b (by decide)) ?_
        refine t_0 zri150_38 rfl (ld_i l2) ?_
        refine t_3 zri150_39 rfl (ar := ([pvR 150, oI 6, oI (p)], [])) (pcal_w (as := [oI (p), oI 6]) rfl rfl rfl eo_150) ⟨by omega, Nat.le_of_ble_eq_true rfl, Nat.le_of_ble_eq_true rfl, rfl⟩ ?_
        refine fl150_run hB hS9 ⟨by omega, by omega⟩ ⟨by omega, by omega⟩ (fun g13 hS13 => ?_) rfl rfl rfl
        replace hS13 : tS150 g0 g13 q9 m9 (-1000 * 6 - p) c9 := hS13
        show t_X d 91 42 lv1 [] g13 P
        refine t_5 zri150_42 rfl rfl ?_
        exact hF _ _ _ _ _ hS13 (by omega) (by omega) (by rw [show -1000 * 6 - p = -6000 - p by omega]; exact (x9 (by omega)))
set_option maxHeartbeats 2000000 in
theorem rpi152 {d : Nat} (hd : 1 ≤ d) {g0 : pH} {B : tC} {n : Int} (hB : tB152 g0 B n) {p m m1 t u rr : Int} (hm : 0 ≤ m ∧ m < m1 ∧ m1 ≤ 60) (hu : m1 ≤ u ∧ u + (m1 - m) ≤ 540) {c0 : tC} {P : Option pv × pH → Prop} (hK : ∀ (g1 : pH) (c1 : tC) (lv : List (Nat × pv)), tS152 g0 g1 p (u + (m1 - m)) 0 c1 → (∀ j : Nat, (j : Int) < u → c1 j = c0 j) → (∀ j : Nat, (j : Int) < m1 - m → u + j < 60 → c1 (u + j).toNat = c1 (m + j).toNat) → (∀ j : Nat, (j : Int) < m1 - m → u - (m1 - m) + j < 60 → c1 (u - (m1 - m) + j).toNat = c1 (m + j).toNat) → px_lg lv 0 = some (pvR 152) → px_lg lv 1 = some (oI m) → px_lg lv 2 = some (oI m1) → px_lg lv 3 = some (oI t) → px_lg lv 4 = some (oI rr) → t_X d 96 34 lv [] g1 P) : ∀ (y i : Nat) (g : pH) (lv : List (Nat × pv)) {c : tC}, m1 - m - i ≤ y → (i : Int) ≤ m1 - m → tS152 g0 g p (u + (i : Int)) 0 c → (∀ j : Nat, (j : Int) < u → c j = c0 j) → (∀ j : Nat, j < i → u + j < 60 → c (u + j).toNat = c (m + j).toNat) → (∀ j : Nat, (j : Int) < m1 - m → u - (m1 - m) + j < 60 → c (u - (m1 - m) + j).toNat = c (m + j).toNat) → px_lg lv 0 = some (pvR 152) → px_lg lv 1 = some (oI m) → px_lg lv 2 = some (oI m1) → px_lg lv 3 = some (oI t) → px_lg lv 4 = some (oI rr) → px_lg lv 5 = some (oI (m + (i : Int))) → t_X d 96 12 lv [] g P := by
  intro y
  induction y with
  | zero =>
    intro i g lv c hy hi hS hc1 hc2 hc3 l0 l1 l2 l3 l4 l5
    refine t_0 zrp152_12 rfl (ld_i l5) ?_
    refine t_0 zrp152_14 rfl (ld_i l2) ?_
    refine tb_ge zrp152_15 (by decide) ⟨by omega, by omega⟩ ⟨by omega, by omega⟩ (fun c1 => ?_) (fun c1 => absurd c1 (by omega))
    show t_X d 96 34 lv [] g P
    have ei : i = (m1 - m).toNat := by omega
    exact hK _ _ _ (by rw [show u + (m1 - m) = u + (i : Int) by omega]; exact hS) hc1 (fun j hj h6 => hc2 j (by omega) h6) hc3 l0 l1 l2 l3 l4
  | succ y ih =>
    intro i g lv c hy hi hS hc1 hc2 hc3 l0 l1 l2 l3 l4 l5
    by_cases hii : (i : Int) < m1 - m
    · skip
      refine t_0 zrp152_12 rfl (ld_i l5) ?_
      refine t_0 zrp152_14 rfl (ld_i l2) ?_
      refine tb_ge zrp152_15 (by decide) ⟨by omega, by omega⟩ ⟨by omega, by omega⟩ (fun c1 => absurd c1 (by omega)) (fun c1 => ?_)
      show t_X d 96 18 lv [] g P
      refine t_0 zrp152_18 rfl (ld_a l0) ?_
      refine t_0 zrp152_19 rfl (ld_a l0) ?_
      refine t_0 zrp152_20 rfl (ld_i l5) ?_
      refine t_3 zrp152_22 rfl (ar := ([pvR 152, oI (m + (i : Int))], [pvR 152])) (pcal_w (as := [oI (m + (i : Int))]) rfl rfl rfl eo_152) ⟨by omega, Nat.le_of_ble_eq_true rfl, Nat.le_of_ble_eq_true rfl, rfl⟩ ?_
      refine sl152_run hB hS ⟨by omega, by omega⟩ (fun t2 => ?_) (fun t2 => absurd (by omega) t2) rfl rfl
      have r2 := pb_a (S_J hS).1 ez_153 (j := (m + (i : Int)).toNat) (by omega) gu_153 (show fA g 153 = c from S_a hS 0 (Nat.le_of_ble_eq_true rfl))
      show t_X d 96 25 lv [oI (c (m + (i : Int)).toNat), pvR 152] g P
      refine t_3 zrp152_25 rfl (ar := ([pvR 152, oI (c (m + (i : Int)).toNat)], [])) (pcal_w (as := [oI (c (m + (i : Int)).toNat)]) rfl rfl rfl eo_152) ⟨by omega, Nat.le_of_ble_eq_true rfl, Nat.le_of_ble_eq_true rfl, rfl⟩ ?_
      refine ap152_run hB hS ⟨by omega, by omega⟩ (by omega) (fun t3 g3 hS3 => ?_) (fun t3 g3 hS3 => ?_) rfl rfl
      · replace hS3 : tS152 g0 g3 p ((u + (i : Int)) + 1) 0 (updI c (u + (i : Int)).toNat (c (m + (i : Int)).toNat)) := hS3
        show t_X d 96 28 lv [] g3 P
        refine t_2 zrp152_28 rfl (w := (px_s1 lv 5 (oI ((m + (i : Int)) + 1)), [])) (pq_inc l5 (by decide)) ?_
        replace l0 : px_lg (px_s1 lv 5 (oI ((m + (i : Int)) + 1))) 0 = some (pvR 152) := s1_ne (by decide) (fun _ => rfl) l0
        replace l1 : px_lg (px_s1 lv 5 (oI ((m + (i : Int)) + 1))) 1 = some (oI (m)) := s1_ne (by decide) (fun _ => rfl) l1
        replace l2 : px_lg (px_s1 lv 5 (oI ((m + (i : Int)) + 1))) 2 = some (oI (m1)) := s1_ne (by decide) (fun _ => rfl) l2
        replace l3 : px_lg (px_s1 lv 5 (oI ((m + (i : Int)) + 1))) 3 = some (oI (t)) := s1_ne (by decide) (fun _ => rfl) l3
        replace l4 : px_lg (px_s1 lv 5 (oI ((m + (i : Int)) + 1))) 4 = some (oI (rr)) := s1_ne (by decide) (fun _ => rfl) l4
        have l5 : px_lg (px_s1 lv 5 (oI ((m + (i : Int)) + 1))) 5 = some (oI ((m + (i : Int)) + 1)) := s1_eq
        generalize px_s1 lv 5 (oI ((m + (i : Int)) + 1)) = lv4 at l0 l1 l2 l3 l4 l5 ⊢
        show t_X d 96 31 lv4 [] g3 P
        refine t_1 zrp152_31 rfl (pb_goto (pc := 31) (by decide)) ?_
        show t_X d 96 12 lv4 [] g3 P
        refine ih (i + 1) _ _ (by omega) (by omega) (show tS152 g0 g3 p (u + ((i + 1 : Nat) : Int)) 0 (updI c (u + (i : Int)).toNat (c (m + (i : Int)).toNat)) by rw [show u + ((i + 1 : Nat) : Int) = u + (i : Int) + 1 by omega]; exact hS3) ?_ ?_ ?_ l0 l1 l2 l3 l4 (l5.trans (congrArg (fun x => some (oI x)) (by omega)))
        · intro j hj
          unfold updI
          rw [if_neg (by omega)]
          exact hc1 j hj
        · intro j hj h6
          unfold updI
          rw [if_neg (show ¬ (m + (j : Int)).toNat = (u + (i : Int)).toNat by omega)]
          by_cases e : j = i
          · subst e; rw [if_pos rfl]
          · rw [if_neg (by omega)]; exact hc2 j (by omega) h6
        · intro j hj h6
          unfold updI
          rw [if_neg (show ¬ (m + (j : Int)).toNat = (u + (i : Int)).toNat by omega), if_neg (by omega)]
          exact hc3 j hj h6
      · replace hS3 : tS152 g0 g3 p ((u + (i : Int)) + 1) 0 c := hS3
        show t_X d 96 28 lv [] g3 P
        refine t_2 zrp152_28 rfl (w := (px_s1 lv 5 (oI ((m + (i : Int)) + 1)), [])) (pq_inc l5 (by decide)) ?_
        replace l0 : px_lg (px_s1 lv 5 (oI ((m + (i : Int)) + 1))) 0 = some (pvR 152) := s1_ne (by decide) (fun _ => rfl) l0
        replace l1 : px_lg (px_s1 lv 5 (oI ((m + (i : Int)) + 1))) 1 = some (oI (m)) := s1_ne (by decide) (fun _ => rfl) l1
        replace l2 : px_lg (px_s1 lv 5 (oI ((m + (i : Int)) + 1))) 2 = some (oI (m1)) := s1_ne (by decide) (fun _ => rfl) l2
        replace l3 : px_lg (px_s1 lv 5 (oI ((m + (i : Int)) + 1))) 3 = some (oI (t)) := s1_ne (by decide) (fun _ => rfl) l3
        replace l4 : px_lg (px_s1 lv 5 (oI ((m + (i : Int)) + 1))) 4 = some (oI (rr)) := s1_ne (by decide) (fun _ => rfl) l4
        have l5 : px_lg (px_s1 lv 5 (oI ((m + (i : Int)) + 1))) 5 = some (oI ((m + (i : Int)) + 1)) := s1_eq
        generalize px_s1 lv 5 (oI ((m + (i : Int)) + 1)) = lv5 at l0 l1 l2 l3 l4 l5 ⊢
        show t_X d 96 31 lv5 [] g3 P
        refine t_1 zrp152_31 rfl (pb_goto (pc := 31) (by decide)) ?_
        show t_X d 96 12 lv5 [] g3 P
        refine ih (i + 1) _ _ (by omega) (by omega) (show tS152 g0 g3 p (u + ((i + 1 : Nat) : Int)) 0 c by rw [show u + ((i + 1 : Nat) : Int) = u + (i : Int) + 1 by omega]; exact hS3) ?_ ?_ ?_ l0 l1 l2 l3 l4 (l5.trans (congrArg (fun x => some (oI x)) (by omega)))
        · exact hc1
        · intro j hj h6
          exact hc2 j (by omega) h6
        · exact hc3
    · skip
      refine t_0 zrp152_12 rfl (ld_i l5) ?_
      refine t_0 zrp152_14 rfl (ld_i l2) ?_
      refine tb_ge zrp152_15 (by decide) ⟨by omega, by omega⟩ ⟨by omega, by omega⟩ (fun c1 => ?_) (fun c1 => absurd c1 (by omega))
      show t_X d 96 34 lv [] g P
      have ei : i = (m1 - m).toNat := by omega
      exact hK _ _ _ (by rw [show u + (m1 - m) = u + (i : Int) by omega]; exact hS) hc1 (fun j hj h6 => hc2 j (by omega) h6) hc3 l0 l1 l2 l3 l4
set_option maxHeartbeats 4000000 in
theorem rpo152 {d : Nat} (hd : 1 ≤ d) {g0 : pH} {B : tC} {n : Int} (hB : tB152 g0 B n) {p m m1 t : Int} (hm : 0 ≤ m ∧ m < m1 ∧ m1 ≤ 60) (ht : 2 ≤ t ∧ t ≤ 9) {c0 : tC} {P : Option pv × pH → Prop} (hO : ∀ (g1 : pH) (c2 : tC), tS152 g0 g1 p (m + (m1 - m) * t) 0 c2 → (∀ j : Nat, (j : Int) < m1 → c2 j = c0 j) → (m + (m1 - m) * t ≤ 60 → ∀ j : Nat, m1 ≤ (j : Int) → (j : Int) < m + (m1 - m) * t → c2 j = c2 (j - (m1 - m)).toNat) → P (none, g1)) : ∀ (y r : Nat) (g : pH) (lv : List (Nat × pv)) {c : tC}, t - r ≤ y → 1 ≤ r ∧ (r : Int) ≤ t → tS152 g0 g p (m + (m1 - m) * (r : Int)) 0 c → (∀ j : Nat, (j : Int) < m1 → c j = c0 j) → (∀ j : Nat, m1 ≤ (j : Int) → (j : Int) < m + (m1 - m) * (r : Int) → (j : Int) < 60 → c j = c (j - (m1 - m)).toNat) → (∀ j : Nat, (j : Int) < m1 - m → m + (m1 - m) * (r : Int) - (m1 - m) + j < 60 → c (m + (m1 - m) * (r : Int) - (m1 - m) + j).toNat = c (m + j).toNat) → px_lg lv 0 = some (pvR 152) → px_lg lv 1 = some (oI m) → px_lg lv 2 = some (oI m1) → px_lg lv 3 = some (oI t) → px_lg lv 4 = some (oI (r : Int)) → t_X d 96 3 lv [] g P := by
  intro y
  induction y with
  | zero =>
    intro r g lv c hy hr hS hc1 hc2 hc3 l0 l1 l2 l3 l4
    refine t_0 zrp152_3 rfl (ld_i l4) ?_
    refine t_0 zrp152_5 rfl (ld_i l3) ?_
    refine tb_ge zrp152_6 (by decide) ⟨by omega, by omega⟩ ⟨by omega, by omega⟩ (fun c1 => ?_) (fun c1 => absurd c1 (by omega))
    show t_X d 96 40 lv [] g P
    refine t_5 zrp152_40 rfl rfl ?_
    have er : (r : Int) = t := by omega
    rw [er] at hS hc2
    exact hO _ _ hS hc1 (fun h6 j hj1 hj2 => hc2 j hj1 hj2 (by omega))
  | succ y ih =>
    intro r g lv c hy hr hS hc1 hc2 hc3 l0 l1 l2 l3 l4
    by_cases hrr : (r : Int) < t
    · have e9 : m + (m1 - m) * ((r + 1 : Nat) : Int) = m + (m1 - m) * (r : Int) + (m1 - m) := by rw [show ((r + 1 : Nat) : Int) = (r : Int) + 1 by omega, Int.mul_add, Int.mul_one]; omega
      have e8 : (m1 - m) * ((r + 1 : Nat) : Int) ≤ (m1 - m) * t := Int.mul_le_mul_of_nonneg_left (by omega) (by omega)
      have e7 : (m1 - m) * t ≤ (m1 - m) * 9 := Int.mul_le_mul_of_nonneg_left (by omega) (by omega)
      have e6 : (m1 - m) * 1 ≤ (m1 - m) * (r : Int) := Int.mul_le_mul_of_nonneg_left (by omega) (by omega)
      refine t_0 zrp152_3 rfl (ld_i l4) ?_
      refine t_0 zrp152_5 rfl (ld_i l3) ?_
      refine tb_ge zrp152_6 (by decide) ⟨by omega, by omega⟩ ⟨by omega, by omega⟩ (fun c1 => absurd c1 (by omega)) (fun c1 => ?_)
      show t_X d 96 9 lv [] g P
      refine t_0 zrp152_9 rfl (ld_i l1) ?_
      refine t_2 zrp152_10 rfl (w := (px_s1 lv 5 (oI (m)), [])) rfl ?_
      replace l0 : px_lg (px_s1 lv 5 (oI (m))) 0 = some (pvR 152) := s1_ne (by decide) (fun _ => rfl) l0
      replace l1 : px_lg (px_s1 lv 5 (oI (m))) 1 = some (oI (m)) := s1_ne (by decide) (fun _ => rfl) l1
      replace l2 : px_lg (px_s1 lv 5 (oI (m))) 2 = some (oI (m1)) := s1_ne (by decide) (fun _ => rfl) l2
      replace l3 : px_lg (px_s1 lv 5 (oI (m))) 3 = some (oI (t)) := s1_ne (by decide) (fun _ => rfl) l3
      replace l4 : px_lg (px_s1 lv 5 (oI (m))) 4 = some (oI ((r : Int))) := s1_ne (by decide) (fun _ => rfl) l4
      have l5 : px_lg (px_s1 lv 5 (oI (m))) 5 = some (oI (m)) := s1_eq
      generalize px_s1 lv 5 (oI (m)) = lv2 at l0 l1 l2 l3 l4 l5 ⊢
      show t_X d 96 12 lv2 [] g P
      refine rpi152 (by omega) hB (t := t) (rr := (r : Int)) (u := m + (m1 - m) * (r : Int)) hm ⟨by omega, by omega⟩ (c0 := c) (fun g1 c1 lv1 h1 h2 h3 h4 k0 k1 k2 k3 k4 => ?_) 60 0 _ _ (by omega) (by omega) (show tS152 g0 g p (m + (m1 - m) * (r : Int) + ((0 : Nat) : Int)) 0 c by rw [show m + (m1 - m) * (r : Int) + ((0 : Nat) : Int) = m + (m1 - m) * (r : Int) by omega]; exact hS) (fun j _ => rfl) (fun j hj => absurd hj (by omega)) hc3 l0 l1 l2 l3 l4 (l5.trans (congrArg (fun x => some (oI x)) (by omega)))
      replace l0 := k0
      replace l1 := k1
      replace l2 := k2
      replace l3 := k3
      replace l4 := k4
      show t_X d 96 34 lv1 [] g1 P
      refine t_2 zrp152_34 rfl (w := (px_s1 lv1 4 (oI ((r : Int) + 1)), [])) (pq_inc l4 (by decide)) ?_
      replace l0 : px_lg (px_s1 lv1 4 (oI ((r : Int) + 1))) 0 = some (pvR 152) := s1_ne (by decide) (fun _ => rfl) l0
      replace l1 : px_lg (px_s1 lv1 4 (oI ((r : Int) + 1))) 1 = some (oI (m)) := s1_ne (by decide) (fun _ => rfl) l1
      replace l2 : px_lg (px_s1 lv1 4 (oI ((r : Int) + 1))) 2 = some (oI (m1)) := s1_ne (by decide) (fun _ => rfl) l2
      replace l3 : px_lg (px_s1 lv1 4 (oI ((r : Int) + 1))) 3 = some (oI (t)) := s1_ne (by decide) (fun _ => rfl) l3
      have l4 : px_lg (px_s1 lv1 4 (oI ((r : Int) + 1))) 4 = some (oI ((r : Int) + 1)) := s1_eq
      generalize px_s1 lv1 4 (oI ((r : Int) + 1)) = lv3 at l0 l1 l2 l3 l4 ⊢
      show t_X d 96 37 lv3 [] g1 P
      refine t_1 zrp152_37 rfl (pb_goto (pc := 37) (by decide)) ?_
      show t_X d 96 3 lv3 [] g1 P
      refine ih (r + 1) _ _ (by omega) (by omega) (show tS152 g0 g1 p (m + (m1 - m) * ((r + 1 : Nat) : Int)) 0 c1 by rw [e9]; exact h1) ?_ ?_ ?_ l0 l1 l2 l3 (l4.trans (congrArg (fun x => some (oI x)) (by omega)))
      · intro j hj; rw [h2 j (by omega)]; exact hc1 j hj
      · intro j hj1 hj2 h6
        by_cases e : (j : Int) < m + (m1 - m) * (r : Int)
        · rw [h2 j e, h2 _ (by omega)]; exact hc2 j hj1 e h6
        · have x1 := h3 (j - (m + (m1 - m) * (r : Int))).toNat (by omega) (by omega)
          have x2 := h4 (j - (m + (m1 - m) * (r : Int))).toNat (by omega) (by omega)
          rw [show (m + (m1 - m) * (r : Int) + ((j - (m + (m1 - m) * (r : Int))).toNat : Int)).toNat = j by omega] at x1
          rw [show (m + (m1 - m) * (r : Int) - (m1 - m) + ((j - (m + (m1 - m) * (r : Int))).toNat : Int)).toNat = ((j : Int) - (m1 - m)).toNat by omega] at x2
          rw [x1, x2]
      · intro j hj h6
        rw [show m + (m1 - m) * ((r + 1 : Nat) : Int) - (m1 - m) = m + (m1 - m) * (r : Int) by omega]
        exact h3 j hj (by omega)
    · skip
      refine t_0 zrp152_3 rfl (ld_i l4) ?_
      refine t_0 zrp152_5 rfl (ld_i l3) ?_
      refine tb_ge zrp152_6 (by decide) ⟨by omega, by omega⟩ ⟨by omega, by omega⟩ (fun c1 => ?_) (fun c1 => absurd c1 (by omega))
      show t_X d 96 40 lv [] g P
      refine t_5 zrp152_40 rfl rfl ?_
      have er : (r : Int) = t := by omega
      rw [er] at hS hc2
      exact hO _ _ hS hc1 (fun h6 j hj1 hj2 => hc2 j hj1 hj2 (by omega))
theorem rp152_run {d : Nat} (hd : 1 ≤ d) {g0 g : pH} {B : tC} {n : Int} (hB : tB152 g0 B n) {p m m1 t : Int} {c : tC} (hS : tS152 g0 g p m1 0 c) (hm : 0 ≤ m ∧ m < m1 ∧ m1 ≤ 60) (ht : 2 ≤ t ∧ t ≤ 9) {P : Option pv × pH → Prop} (hO : ∀ (g1 : pH) (c2 : tC), tS152 g0 g1 p (m + (m1 - m) * t) 0 c2 → (∀ j : Nat, (j : Int) < m1 → c2 j = c j) → (m + (m1 - m) * t ≤ 60 → ∀ j : Nat, m1 ≤ (j : Int) → (j : Int) < m + (m1 - m) * t → c2 j = c2 (j - (m1 - m)).toNat) → P (none, g1)) {lv : List (Nat × pv)} (l0 : px_lg lv 0 = some (pvR 152)) (l1 : px_lg lv 1 = some (oI m)) (l2 : px_lg lv 2 = some (oI m1)) (l3 : px_lg lv 3 = some (oI t)) : t_X d 96 0 lv [] g P := by
  refine t_0 zrp152_0 rfl rfl ?_
  refine t_2 zrp152_1 rfl (w := (px_s1 lv 4 (oI 1), [])) rfl ?_
  replace l0 : px_lg (px_s1 lv 4 (oI 1)) 0 = some (pvR 152) := s1_ne (by decide) (fun _ => rfl) l0
  replace l1 : px_lg (px_s1 lv 4 (oI 1)) 1 = some (oI (m)) := s1_ne (by decide) (fun _ => rfl) l1
  replace l2 : px_lg (px_s1 lv 4 (oI 1)) 2 = some (oI (m1)) := s1_ne (by decide) (fun _ => rfl) l2
  replace l3 : px_lg (px_s1 lv 4 (oI 1)) 3 = some (oI (t)) := s1_ne (by decide) (fun _ => rfl) l3
  have l4 : px_lg (px_s1 lv 4 (oI 1)) 4 = some (oI 1) := s1_eq
  generalize px_s1 lv 4 (oI 1) = lv1 at l0 l1 l2 l3 l4 ⊢
  show t_X d 96 3 lv1 [] g P
  have e1 : m + (m1 - m) * ((1 : Nat) : Int) = m1 := by rw [show ((1 : Nat) : Int) = 1 from rfl, Int.mul_one]; omega
  refine rpo152 (by omega) hB hm ht (c0 := c) hO 9 1 _ _ (by omega) (by omega) (show tS152 g0 g p (m + (m1 - m) * ((1 : Nat) : Int)) 0 c by rw [e1]; exact hS) (fun j _ => rfl) (fun j h1 h2 => absurd h2 (by omega)) (fun j hj h6 => by rw [e1, show m1 - (m1 - m) = m by omega]) l0 l1 l2 l3 l4
def tI152 (g0 : pH) (B : tC) (n : Int) (δ : Nat) : Prop := ∀ (d : Nat), 4 + 3 * (4 - δ) ≤ d → ∀ (g : pH) (p m : Int) (c : tC), tS152 g0 g p m 0 c → 0 ≤ p ∧ p ≤ n → 0 ≤ m ∧ m ≤ 60 → ∀ (P : Option pv × pH → Prop), (∀ (g1 : pH) (f q m1 : Int) (c1 : tC), tS152 g0 g1 q m1 f c1 → f < 0 → -9999 ≤ f → tIs (tH B n) n δ p m c (.inl f) → P (none, g1)) → (∀ (g1 : pH) (q m1 : Int) (c1 : tC), tS152 g0 g1 q m1 0 c1 → tQ n p m q m1 → tIs (tH B n) n δ p m c (.inr (q, m1, c1)) → P (none, g1)) → ∀ (lv : List (Nat × pv)), px_lg lv 0 = some (pvR 152) → px_lg lv 1 = some (oI (δ : Int)) → t_X d 92 0 lv [] g P
set_option maxHeartbeats 4000000 in
theorem ro152_run {d δ : Nat} {g0 g : pH} {B : tC} {n : Int} (hB : tB152 g0 B n) {p m : Int} {c : tC} (hS : tS152 g0 g p m 0 c) (hm : 0 ≤ m ∧ m ≤ 60) (hI : δ < 4 → tI152 g0 B n (δ + 1)) (hδ : δ ≤ 4) (hd : 2 + 3 * (4 - δ) ≤ d) (hh : tH B n p = 40) {P : Option pv × pH → Prop} (hF : ∀ (g1 : pH) (f q m1 : Int) (c1 : tC), tS152 g0 g1 q m1 f c1 → f < 0 → -9999 ≤ f → tIt (tH B n) n δ p m c (.inl f) → P (none, g1)) (hO : ∀ (g1 : pH) (q m2 : Int) (c2 : tC), tS152 g0 g1 q m2 0 c2 → p < q ∧ q ≤ n → m < m2 → (m2 ≤ 60 → tIt (tH B n) n δ p m c (.inr (q, m2, c2))) → (60 < m2 → tIt (tH B n) n δ p m c (.inl (-6000 - p))) → P (none, g1)) {lv : List (Nat × pv)} (l0 : px_lg lv 0 = some (pvR 152)) (l1 : px_lg lv 1 = some (oI (δ : Int))) : t_X d 94 0 lv [] g P := by
  obtain ⟨hn0, hn1, hp1, hm1, hH⟩ := cm152 hB hS
  have z0 := tH_n (B := B) (n := n) (p := p)
  refine t_0 zro152_0 rfl (ld_i l1) ?_
  refine t_0 zro152_1 rfl rfl ?_
  refine tb_lt zro152_2 (by decide) ⟨by omega, by omega⟩ ⟨by omega, by omega⟩ (fun c1 => ?_) (fun c1 => ?_)
  · show t_X d 94 15 lv [] g P
    refine t_0 zro152_15 rfl (ld_a l0) ?_
    refine t_0 zro152_16 rfl rfl ?_
    refine t_0 zro152_17 rfl (pq_cv eo_152 rfl (show cF g 152 4 = p from S_f hS 0 (Nat.le_of_ble_eq_true rfl))) ?_
    show t_X d 94 20 lv [oI (p), pvR 152] g P
    refine t_0 zro152_20 rfl rfl ?_
    refine t_0 zro152_21 rfl pq_add ?_
    refine ts_f (n := 0) rfl rfl (by decide) zro152_22 rfl eo_152 hS wt_tW152_152_4 gy_152_4 (by decide) ⟨by omega, by omega⟩ (fun g2 hS2 => ?_)
    replace hS2 : tS152 g0 g2 (p + 1) m 0 c := hS2
    show t_X d 94 25 lv [] g2 P
    refine t_0 zro152_25 rfl (ld_a l0) ?_
    refine t_0 zro152_26 rfl (pq_cv eo_152 rfl (show cF g2 152 1 = m from S_f hS2 1 (Nat.le_of_ble_eq_true rfl))) ?_
    show t_X d 94 29 lv [oI (m)] g2 P
    refine t_2 zro152_29 rfl (w := (px_s1 lv 2 (oI (m)), [])) rfl ?_
    replace l0 : px_lg (px_s1 lv 2 (oI (m))) 0 = some (pvR 152) := s1_ne (by decide) (fun _ => rfl) l0
    replace l1 : px_lg (px_s1 lv 2 (oI (m))) 1 = some (oI ((δ : Int))) := s1_ne (by decide) (fun _ => rfl) l1
    have l2 : px_lg (px_s1 lv 2 (oI (m))) 2 = some (oI (m)) := s1_eq
    generalize px_s1 lv 2 (oI (m)) = lv3 at l0 l1 l2 ⊢
    show t_X d 94 30 lv3 [] g2 P
    refine t_0 zro152_30 rfl (ld_a l0) ?_
    refine t_0 zro152_31 rfl (ld_i l1) ?_
    refine t_0 zro152_32 rfl rfl ?_
    refine t_0 zro152_33 rfl pq_add ?_
    refine t_3 zro152_34 rfl (ar := ([pvR 152, oI ((δ : Int) + 1)], [])) (pcal_w (as := [oI ((δ : Int) + 1)]) rfl rfl rfl eo_152) ⟨by omega, Nat.le_of_ble_eq_true rfl, Nat.le_of_ble_eq_true rfl, rfl⟩ ?_
    refine hI (by omega) _ (by omega) _ _ _ _ hS2 ⟨by omega, by omega⟩ hm _ (fun g4 f4 q4 m4 c4 hS4 u4 w4 t4 => ?_) (fun g4 q4 m4 c4 hS4 Q4 t4 => ?_) _ rfl (congrArg (fun x => some (oI x)) (show (δ : Int) + 1 = ((δ + 1 : Nat) : Int) by omega))
    · replace hS4 : tS152 g0 g4 q4 m4 f4 c4 := hS4
      show t_X d 94 37 lv3 [] g4 P
      refine t_0 zro152_37 rfl (ld_a l0) ?_
      refine t_0 zro152_38 rfl (pq_cv eo_152 rfl (show cF g4 152 5 = f4 from S_f hS4 2 (Nat.le_of_ble_eq_true rfl))) ?_
      show t_X d 94 41 lv3 [oI (f4)] g4 P
      refine tz_eq zro152_41 (by decide) ⟨by omega, by omega⟩ (fun c5 => absurd c5 (by omega)) (fun c5 => ?_)
      show t_X d 94 44 lv3 [] g4 P
      refine t_5 zro152_44 rfl rfl ?_
      exact hF _ _ _ _ _ hS4 (by omega) (by omega) ((tCl_x _ _).2.2.1 δ p m c _ ⟨by omega, by omega, by omega, by omega⟩ hh (by omega) t4)
    · replace hS4 : tS152 g0 g4 q4 m4 0 c4 := hS4
      have R4 := Q4
      unfold tQ at R4
      show t_X d 94 37 lv3 [] g4 P
      refine t_0 zro152_37 rfl (ld_a l0) ?_
      refine t_0 zro152_38 rfl (pq_cv eo_152 rfl (show cF g4 152 5 = 0 from S_f hS4 2 (Nat.le_of_ble_eq_true rfl))) ?_
      show t_X d 94 41 lv3 [oI 0] g4 P
      refine tz_eq zro152_41 (by decide) ⟨by omega, by omega⟩ (fun c6 => ?_) (fun c6 => absurd c6 (by omega))
      show t_X d 94 45 lv3 [] g4 P
      refine t_0 zro152_45 rfl (ld_a l0) ?_
      refine t_3 zro152_46 rfl (ar := ([pvR 152], [])) (pcal_w (as := []) rfl rfl rfl eo_152) ⟨by omega, Nat.le_of_ble_eq_true rfl, Nat.le_of_ble_eq_true rfl, rfl⟩ ?_
      refine sg152_run hB hS4 ?_ rfl
      have b7 := hH q4 (by omega)
      have z7 := tH_n (B := B) (n := n) (p := q4)
      show t_X d 94 49 lv3 [oI (tH B n q4)] g4 P
      refine t_0 zro152_49 rfl (pq_b (by decide)) ?_
      refine tb_eq zro152_51 (by decide) ⟨by omega, by omega⟩ ⟨by omega, by omega⟩ (fun c8 => ?_) (fun c8 => ?_)
      · show t_X d 94 64 lv3 [] g4 P
        refine t_0 zro152_64 rfl (ld_a l0) ?_
        refine t_0 zro152_65 rfl rfl ?_
        refine t_0 zro152_66 rfl (pq_cv eo_152 rfl (show cF g4 152 4 = q4 from S_f hS4 0 (Nat.le_of_ble_eq_true rfl))) ?_
        show t_X d 94 69 lv3 [oI (q4), pvR 152] g4 P
        refine t_0 zro152_69 rfl rfl ?_
        refine t_0 zro152_70 rfl pq_add ?_
        refine ts_f (n := 0) rfl rfl (by decide) zro152_71 rfl eo_152 hS4 wt_tW152_152_4 gy_152_4 (by decide) ⟨by omega, by omega⟩ (fun g9 hS9 => ?_)
        replace hS9 : tS152 g0 g9 (q4 + 1) m4 0 c4 := hS9
        show t_X d 94 74 lv3 [] g9 P
        refine t_0 zro152_74 rfl (ld_a l0) ?_
        refine t_3 zro152_75 rfl (ar := ([pvR 152], [])) (pcal_w (as := []) rfl rfl rfl eo_152) ⟨by omega, Nat.le_of_ble_eq_true rfl, Nat.le_of_ble_eq_true rfl, rfl⟩ ?_
        refine sg152_run hB hS9 ?_ rfl
        have b10 := hH (q4 + 1) (by omega)
        have z10 := tH_n (B := B) (n := n) (p := q4 + 1)
        show t_X d 94 78 lv3 [oI (tH B n (q4 + 1))] g9 P
        refine t_0 zro152_78 rfl (pq_b (by decide)) ?_
        refine t_0 zro152_80 rfl pq_sub ?_
        refine t_2 zro152_81 rfl (w := (px_s1 lv3 3 (oI ((tH B n (q4 + 1)) - 48)), [])) rfl ?_
        replace l0 : px_lg (px_s1 lv3 3 (oI ((tH B n (q4 + 1)) - 48))) 0 = some (pvR 152) := s1_ne (by decide) (fun _ => rfl) l0
        replace l1 : px_lg (px_s1 lv3 3 (oI ((tH B n (q4 + 1)) - 48))) 1 = some (oI ((δ : Int))) := s1_ne (by decide) (fun _ => rfl) l1
        replace l2 : px_lg (px_s1 lv3 3 (oI ((tH B n (q4 + 1)) - 48))) 2 = some (oI (m)) := s1_ne (by decide) (fun _ => rfl) l2
        have l3 : px_lg (px_s1 lv3 3 (oI ((tH B n (q4 + 1)) - 48))) 3 = some (oI ((tH B n (q4 + 1)) - 48)) := s1_eq
        generalize px_s1 lv3 3 (oI ((tH B n (q4 + 1)) - 48)) = lv11 at l0 l1 l2 l3 ⊢
        show t_X d 94 82 lv11 [] g9 P
        refine t_0 zro152_82 rfl (ld_i l3) ?_
        refine t_0 zro152_83 rfl rfl ?_
        refine t_0 zro152_84 rfl (pq_b (by decide)) ?_
        refine t_3 zro152_86 rfl (ar := ([oI ((tH B n (q4 + 1)) - 48), oI 2, oI 9], [])) (pcal_s ⟨Or.inr rfl, rfl, Nat.le_of_ble_eq_true rfl⟩) ⟨by omega, Nat.le_of_ble_eq_true rfl, Nat.le_of_ble_eq_true rfl, rfl⟩ ?_
        refine ii_run ⟨by omega, by omega⟩ ⟨by omega, by omega⟩ ⟨by omega, by omega⟩ rfl rfl rfl (fun t12 => ?_) (fun t12 => ?_)
        · show t_X d 94 89 lv11 [oI 1] g9 P
          refine tz_ne zro152_89 (by decide) ⟨by omega, by omega⟩ (fun c13 => ?_) (fun c13 => absurd c13 (by omega))
          show t_X d 94 102 lv11 [] g9 P
          refine t_0 zro152_102 rfl (ld_a l0) ?_
          refine t_0 zro152_103 rfl rfl ?_
          refine t_0 zro152_104 rfl (pq_cv eo_152 rfl (show cF g9 152 4 = q4 + 1 from S_f hS9 0 (Nat.le_of_ble_eq_true rfl))) ?_
          show t_X d 94 107 lv11 [oI (q4 + 1), pvR 152] g9 P
          refine t_0 zro152_107 rfl rfl ?_
          refine t_0 zro152_108 rfl pq_add ?_
          refine ts_f (n := 0) rfl rfl (by decide) zro152_109 rfl eo_152 hS9 wt_tW152_152_4 gy_152_4 (by decide) ⟨by omega, by omega⟩ (fun g14 hS14 => ?_)
          replace hS14 : tS152 g0 g14 ((q4 + 1) + 1) m4 0 c4 := hS14
          show t_X d 94 112 lv11 [] g14 P
          refine t_0 zro152_112 rfl (ld_a l0) ?_
          refine t_0 zro152_113 rfl (ld_i l2) ?_
          refine t_0 zro152_114 rfl (ld_a l0) ?_
          refine t_0 zro152_115 rfl (pq_cv eo_152 rfl (show cF g14 152 1 = m4 from S_f hS14 1 (Nat.le_of_ble_eq_true rfl))) ?_
          show t_X d 94 118 lv11 [oI (m4), oI (m), pvR 152] g14 P
          refine t_0 zro152_118 rfl (ld_i l3) ?_
          refine t_3 zro152_119 rfl (ar := ([pvR 152, oI (m), oI (m4), oI ((tH B n (q4 + 1)) - 48)], [])) (pcal_w (as := [oI ((tH B n (q4 + 1)) - 48), oI (m4), oI (m)]) rfl rfl rfl eo_152) ⟨by omega, Nat.le_of_ble_eq_true rfl, Nat.le_of_ble_eq_true rfl, rfl⟩ ?_
          refine rp152_run (by omega) hB hS14 (m := m) ⟨by omega, by omega, by omega⟩ ⟨by omega, by omega⟩ (fun g9 c9 hS9 x1 x2 => ?_) rfl rfl rfl rfl
          replace hS9 : tS152 g0 g9 ((q4 + 1) + 1) (m + (m4 - m) * ((tH B n (q4 + 1)) - 48)) 0 c9 := hS9
          show t_X d 94 122 lv11 [] g9 P
          refine t_5 zro152_122 rfl rfl ?_
          have e5 : (m4 - m) * 2 ≤ (m4 - m) * ((tH B n (q4 + 1)) - 48) := Int.mul_le_mul_of_nonneg_left (by omega) (by omega)
          refine hO _ _ _ _ (show tS152 g0 g9 (q4 + 2) _ 0 c9 by rw [show q4 + 2 = q4 + 1 + 1 by omega]; exact hS9) ⟨by omega, by omega⟩ (by omega) (fun h6 => ?_) (fun h6 => ?_)
          · exact ((tCl_x _ _).2.2.2.1 δ p m c _ _ _ _ ⟨Q4, by omega⟩ hh (by omega) t4 (Or.inr (Or.inr ⟨by omega, ⟨by omega, by omega⟩, Or.inr ⟨h6, _, rfl, x1, x2 h6⟩⟩)))
          · exact ((tCl_x _ _).2.2.2.1 δ p m c _ _ _ _ ⟨Q4, by omega⟩ hh (by omega) t4 (Or.inr (Or.inr ⟨by omega, ⟨by omega, by omega⟩, Or.inl ⟨h6, rfl⟩⟩)))
        · show t_X d 94 89 lv11 [oI 0] g9 P
          refine tz_ne zro152_89 (by decide) ⟨by omega, by omega⟩ (fun c15 => absurd c15 (by omega)) (fun c15 => ?_)
          show t_X d 94 92 lv11 [] g9 P
          refine t_0 zro152_92 rfl (ld_a l0) ?_
          refine t_0 zro152_93 rfl rfl ?_
          refine t_0 zro152_94 rfl (ld_a l0) ?_
          refine t_0 zro152_95 rfl (pq_cv eo_152 rfl (show cF g9 152 4 = q4 + 1 from S_f hS9 0 (Nat.le_of_ble_eq_true rfl))) ?_
          show t_X d 94 98 lv11 [oI (q4 + 1), oI 1, pvR 152] g9 P
          refine t_3 zro152_98 rfl (ar := ([pvR 152, oI 1, oI (q4 + 1)], [])) (pcal_w (as := [oI (q4 + 1), oI 1]) rfl rfl rfl eo_152) ⟨by omega, Nat.le_of_ble_eq_true rfl, Nat.le_of_ble_eq_true rfl, rfl⟩ ?_
          refine fl152_run hB hS9 ⟨by omega, by omega⟩ ⟨by omega, by omega⟩ (fun g16 hS16 => ?_) rfl rfl rfl
          replace hS16 : tS152 g0 g16 (q4 + 1) m4 (-1000 * 1 - (q4 + 1)) c4 := hS16
          show t_X d 94 101 lv11 [] g16 P
          refine t_5 zro152_101 rfl rfl ?_
          exact hF _ _ _ _ _ hS16 (by omega) (by omega) (by rw [show -1000 * 1 - (q4 + 1) = -1000 - (q4 + 1) by omega]; exact ((tCl_x _ _).2.2.2.1 δ p m c _ _ _ _ ⟨Q4, by omega⟩ hh (by omega) t4 (Or.inr (Or.inl ⟨by omega, by omega, rfl⟩))))
      · show t_X d 94 54 lv3 [] g4 P
        refine t_0 zro152_54 rfl (ld_a l0) ?_
        refine t_0 zro152_55 rfl rfl ?_
        refine t_0 zro152_56 rfl (ld_a l0) ?_
        refine t_0 zro152_57 rfl (pq_cv eo_152 rfl (show cF g4 152 4 = q4 from S_f hS4 0 (Nat.le_of_ble_eq_true rfl))) ?_
        show t_X d 94 60 lv3 [oI (q4), oI 1, pvR 152] g4 P
        refine t_3 zro152_60 rfl (ar := ([pvR 152, oI 1, oI (q4)], [])) (pcal_w (as := [oI (q4), oI 1]) rfl rfl rfl eo_152) ⟨by omega, Nat.le_of_ble_eq_true rfl, Nat.le_of_ble_eq_true rfl, rfl⟩ ?_
        refine fl152_run hB hS4 ⟨by omega, by omega⟩ ⟨by omega, by omega⟩ (fun g17 hS17 => ?_) rfl rfl rfl
        replace hS17 : tS152 g0 g17 q4 m4 (-1000 * 1 - q4) c4 := hS17
        show t_X d 94 63 lv3 [] g17 P
        refine t_5 zro152_63 rfl rfl ?_
        exact hF _ _ _ _ _ hS17 (by omega) (by omega) (by rw [show -1000 * 1 - q4 = -1000 - q4 by omega]; exact ((tCl_x _ _).2.2.2.1 δ p m c _ _ _ _ ⟨Q4, by omega⟩ hh (by omega) t4 (Or.inl ⟨by omega, rfl⟩)))
  · show t_X d 94 5 lv [] g P
    refine t_0 zro152_5 rfl (ld_a l0) ?_
    refine t_0 zro152_6 rfl rfl ?_
    refine t_0 zro152_7 rfl (ld_a l0) ?_
    refine t_0 zro152_8 rfl (pq_cv eo_152 rfl (show cF g 152 4 = p from S_f hS 0 (Nat.le_of_ble_eq_true rfl))) ?_
    show t_X d 94 11 lv [oI (p), oI 5, pvR 152] g P
    refine t_3 zro152_11 rfl (ar := ([pvR 152, oI 5, oI (p)], [])) (pcal_w (as := [oI (p), oI 5]) rfl rfl rfl eo_152) ⟨by omega, Nat.le_of_ble_eq_true rfl, Nat.le_of_ble_eq_true rfl, rfl⟩ ?_
    refine fl152_run hB hS ⟨by omega, by omega⟩ ⟨by omega, by omega⟩ (fun g18 hS18 => ?_) rfl rfl rfl
    replace hS18 : tS152 g0 g18 p m (-1000 * 5 - p) c := hS18
    show t_X d 94 14 lv [] g18 P
    refine t_5 zro152_14 rfl rfl ?_
    exact hF _ _ _ _ _ hS18 (by omega) (by omega) (by rw [show -1000 * 5 - p = -5000 - p by omega]; exact (tCl_x _ _).2.1 δ p m c ⟨by omega, by omega, by omega, by omega⟩ hh (by omega))
set_option maxHeartbeats 4000000 in
theorem it152_run {d δ : Nat} {g0 g : pH} {B : tC} {n : Int} (hB : tB152 g0 B n) {p m : Int} {c : tC} (hS : tS152 g0 g p m 0 c) (hp : 0 ≤ p ∧ p ≤ n) (hm : 0 ≤ m ∧ m ≤ 60) (hI : δ < 4 → tI152 g0 B n (δ + 1)) (hδ : δ ≤ 4) (hd : 3 + 3 * (4 - δ) ≤ d) {P : Option pv × pH → Prop} (hF : ∀ (g1 : pH) (f q m1 : Int) (c1 : tC), tS152 g0 g1 q m1 f c1 → f < 0 → -9999 ≤ f → tIt (tH B n) n δ p m c (.inl f) → P (none, g1)) (hO : ∀ (g1 : pH) (q m2 : Int) (c2 : tC), tS152 g0 g1 q m2 0 c2 → 0 ≤ p ∧ p < q ∧ q ≤ n ∧ 0 ≤ m ∧ m < m2 ∧ m2 ≤ 60 → tIt (tH B n) n δ p m c (.inr (q, m2, c2)) → P (none, g1)) {lv : List (Nat × pv)} (l0 : px_lg lv 0 = some (pvR 152)) (l1 : px_lg lv 1 = some (oI (δ : Int))) : t_X d 91 0 lv [] g P := by
  obtain ⟨hn0, hn1, hp1, hm1, hH⟩ := cm152 hB hS
  refine t_0 zri152_0 rfl (ld_a l0) ?_
  refine t_0 zri152_1 rfl (pq_cv eo_152 rfl (show cF g 152 4 = p from S_f hS 0 (Nat.le_of_ble_eq_true rfl))) ?_
  show t_X d 91 4 lv [oI (p)] g P
  refine t_2 zri152_4 rfl (w := (px_s1 lv 2 (oI (p)), [])) rfl ?_
  replace l0 : px_lg (px_s1 lv 2 (oI (p))) 0 = some (pvR 152) := s1_ne (by decide) (fun _ => rfl) l0
  replace l1 : px_lg (px_s1 lv 2 (oI (p))) 1 = some (oI ((δ : Int))) := s1_ne (by decide) (fun _ => rfl) l1
  have l2 : px_lg (px_s1 lv 2 (oI (p))) 2 = some (oI (p)) := s1_eq
  generalize px_s1 lv 2 (oI (p)) = lv1 at l0 l1 l2 ⊢
  show t_X d 91 5 lv1 [] g P
  refine t_0 zri152_5 rfl (ld_a l0) ?_
  refine t_3 zri152_6 rfl (ar := ([pvR 152], [])) (pcal_w (as := []) rfl rfl rfl eo_152) ⟨by omega, Nat.le_of_ble_eq_true rfl, Nat.le_of_ble_eq_true rfl, rfl⟩ ?_
  refine sg152_run hB hS ?_ rfl
  have b2 := hH p (by omega)
  have z2 := tH_n (B := B) (n := n) (p := p)
  show t_X d 91 9 lv1 [oI (tH B n p)] g P
  refine t_0 zri152_9 rfl (pq_b (by decide)) ?_
  refine tb_ne zri152_11 (by decide) ⟨by omega, by omega⟩ ⟨by omega, by omega⟩ (fun c3 => ?_) (fun c3 => ?_)
  · show t_X d 91 22 lv1 [] g P
    refine t_0 zri152_22 rfl (ld_a l0) ?_
    refine t_3 zri152_23 rfl (ar := ([pvR 152], [])) (pcal_w (as := []) rfl rfl rfl eo_152) ⟨by omega, Nat.le_of_ble_eq_true rfl, Nat.le_of_ble_eq_true rfl, rfl⟩ ?_
    refine rw152_run (by omega) hB hS hm (fun g4 f4 q4 hS4 u4 w4 t4 => ?_) (fun g4 q4 w4 c4 hS4 Q4 y4 t4 x4 => ?_) rfl
    · replace hS4 : tS152 g0 g4 q4 m f4 c := hS4
      show t_X d 91 26 lv1 [] g4 P
      refine t_0 zri152_26 rfl (ld_a l0) ?_
      refine t_0 zri152_27 rfl (pq_cv eo_152 rfl (show cF g4 152 1 = m from S_f hS4 1 (Nat.le_of_ble_eq_true rfl))) ?_
      show t_X d 91 30 lv1 [oI (m)] g4 P
      refine t_0 zri152_30 rfl (pq_b (by decide)) ?_
      refine tb_le zri152_32 (by decide) ⟨by omega, by omega⟩ ⟨by omega, by omega⟩ (fun c5 => ?_) (fun c5 => ?_)
      · show t_X d 91 42 lv1 [] g4 P
        refine t_5 zri152_42 rfl rfl ?_
        exact hF _ _ _ _ _ hS4 (by omega) (by omega) ((tCl_x _ _).1 δ p m c _ ⟨by omega, by omega, by omega, by omega⟩ (by omega) t4)
      · show t_X d 91 35 lv1 [] g4 P
        refine t_0 zri152_35 rfl (ld_a l0) ?_
        refine t_0 zri152_36 rfl (pq_b (by decide)) ?_
        refine t_0 zri152_38 rfl (ld_i l2) ?_
        refine t_3 zri152_39 rfl (ar := ([pvR 152, oI 6, oI (p)], [])) (pcal_w (as := [oI (p), oI 6]) rfl rfl rfl eo_152) ⟨by omega, Nat.le_of_ble_eq_true rfl, Nat.le_of_ble_eq_true rfl, rfl⟩ ?_
        refine fn152_run hB hS4 (by omega) (by omega) (a := 0) (b := 0) ?_ rfl
        show t_X d 91 42 lv1 [] g4 P
        refine t_5 zri152_42 rfl rfl ?_
        exact hF _ _ _ _ _ hS4 (by omega) (by omega) ((tCl_x _ _).1 δ p m c _ ⟨by omega, by omega, by omega, by omega⟩ (by omega) t4)
    · replace hS4 : tS152 g0 g4 q4 (m + w4) 0 c4 := hS4
      show t_X d 91 26 lv1 [] g4 P
      refine t_0 zri152_26 rfl (ld_a l0) ?_
      refine t_0 zri152_27 rfl (pq_cv eo_152 rfl (show cF g4 152 1 = m + w4 from S_f hS4 1 (Nat.le_of_ble_eq_true rfl))) ?_
      show t_X d 91 30 lv1 [oI (m + w4)] g4 P
      refine t_0 zri152_30 rfl (pq_b (by decide)) ?_
      refine tb_le zri152_32 (by decide) ⟨by omega, by omega⟩ ⟨by omega, by omega⟩ (fun c7 => ?_) (fun c7 => ?_)
      · show t_X d 91 42 lv1 [] g4 P
        refine t_5 zri152_42 rfl rfl ?_
        exact hO _ _ _ _ hS4 ⟨by omega, by omega, by omega, by omega, by omega, by omega⟩ ((tCl_x _ _).1 δ p m c _ ⟨by omega, by omega, by omega, by omega⟩ (by omega) (t4 (by omega)))
      · show t_X d 91 35 lv1 [] g4 P
        refine t_0 zri152_35 rfl (ld_a l0) ?_
        refine t_0 zri152_36 rfl (pq_b (by decide)) ?_
        refine t_0 zri152_38 rfl (ld_i l2) ?_
        refine t_3 zri152_39 rfl (ar := ([pvR 152, oI 6, oI (p)], [])) (pcal_w (as := [oI (p), oI 6]) rfl rfl rfl eo_152) ⟨by omega, Nat.le_of_ble_eq_true rfl, Nat.le_of_ble_eq_true rfl, rfl⟩ ?_
        refine fl152_run hB hS4 ⟨by omega, by omega⟩ ⟨by omega, by omega⟩ (fun g8 hS8 => ?_) rfl rfl rfl
        replace hS8 : tS152 g0 g8 q4 (m + w4) (-1000 * 6 - p) c4 := hS8
        show t_X d 91 42 lv1 [] g8 P
        refine t_5 zri152_42 rfl rfl ?_
        exact hF _ _ _ _ _ hS8 (by omega) (by omega) (by rw [show -1000 * 6 - p = -6000 - p by omega]; exact ((tCl_x _ _).1 δ p m c _ ⟨by omega, by omega, by omega, by omega⟩ (by omega) (x4 (by omega))))
  · show t_X d 91 14 lv1 [] g P
    refine t_0 zri152_14 rfl (ld_a l0) ?_
    refine t_0 zri152_15 rfl (ld_i l1) ?_
    refine t_3 zri152_16 rfl (ar := ([pvR 152, oI ((δ : Int))], [])) (pcal_w (as := [oI ((δ : Int))]) rfl rfl rfl eo_152) ⟨by omega, Nat.le_of_ble_eq_true rfl, Nat.le_of_ble_eq_true rfl, rfl⟩ ?_
    refine ro152_run hB hS hm hI hδ (by omega) (by omega) (fun g9 f9 q9 m9 c9 hS9 u9 w9 t9 => ?_) (fun g9 q9 m9 c9 hS9 Q9 w9 t9 x9 => ?_) rfl rfl
    · replace hS9 : tS152 g0 g9 q9 m9 f9 c9 := hS9
      have y9 := (cm152 hB hS9).2.2.2.1
      show t_X d 91 19 lv1 [] g9 P
      refine t_1 zri152_19 rfl (pb_goto (pc := 19) (by decide)) ?_
      show t_X d 91 26 lv1 [] g9 P
      refine t_0 zri152_26 rfl (ld_a l0) ?_
      refine t_0 zri152_27 rfl (pq_cv eo_152 rfl (show cF g9 152 1 = m9 from S_f hS9 1 (Nat.le_of_ble_eq_true rfl))) ?_
      show t_X d 91 30 lv1 [oI (m9)] g9 P
      refine t_0 zri152_30 rfl (pq_b (by decide)) ?_
      refine tb_le zri152_32 (by decide) ⟨by omega, by omega⟩ ⟨by omega, by omega⟩ (fun c10 => ?_) (fun c10 => ?_)
      · show t_X d 91 42 lv1 [] g9 P
        refine t_5 zri152_42 rfl rfl ?_
        exact hF _ _ _ _ _ hS9 (by omega) (by omega) t9
      · show t_X d 91 35 lv1 [] g9 P
        refine t_0 zri152_35 rfl (ld_a l0) ?_
        refine t_0 zri152_36 rfl (pq_b (by decide)) ?_
        refine t_0 zri152_38 rfl (ld_i l2) ?_
        refine t_3 zri152_39 rfl (ar := ([pvR 152, oI 6, oI (p)], [])) (pcal_w (as := [oI (p), oI 6]) rfl rfl rfl eo_152) ⟨by omega, Nat.le_of_ble_eq_true rfl, Nat.le_of_ble_eq_true rfl, rfl⟩ ?_
        refine fn152_run hB hS9 (by omega) (by omega) (a := 0) (b := 0) ?_ rfl
        show t_X d 91 42 lv1 [] g9 P
        refine t_5 zri152_42 rfl rfl ?_
        exact hF _ _ _ _ _ hS9 (by omega) (by omega) t9
    · replace hS9 : tS152 g0 g9 q9 m9 0 c9 := hS9
      have y9 := (cm152 hB hS9).2.2.2.1
      show t_X d 91 19 lv1 [] g9 P
      refine t_1 zri152_19 rfl (pb_goto (pc := 19) (by decide)) ?_
      show t_X d 91 26 lv1 [] g9 P
      refine t_0 zri152_26 rfl (ld_a l0) ?_
      refine t_0 zri152_27 rfl (pq_cv eo_152 rfl (show cF g9 152 1 = m9 from S_f hS9 1 (Nat.le_of_ble_eq_true rfl))) ?_
      show t_X d 91 30 lv1 [oI (m9)] g9 P
      refine t_0 zri152_30 rfl (pq_b (by decide)) ?_
      refine tb_le zri152_32 (by decide) ⟨by omega, by omega⟩ ⟨by omega, by omega⟩ (fun c12 => ?_) (fun c12 => ?_)
      · show t_X d 91 42 lv1 [] g9 P
        refine t_5 zri152_42 rfl rfl ?_
        exact hO _ _ _ _ hS9 ⟨by omega, by omega, by omega, by omega, by omega, by omega⟩ (t9 (by omega))
      · show t_X d 91 35 lv1 [] g9 P
        refine t_0 zri152_35 rfl (ld_a l0) ?_
        refine t_0 zri152_36 rfl (pq_b (by decide)) ?_
        refine t_0 zri152_38 rfl (ld_i l2) ?_
        refine t_3 zri152_39 rfl (ar := ([pvR 152, oI 6, oI (p)], [])) (pcal_w (as := [oI (p), oI 6]) rfl rfl rfl eo_152) ⟨by omega, Nat.le_of_ble_eq_true rfl, Nat.le_of_ble_eq_true rfl, rfl⟩ ?_
        refine fl152_run hB hS9 ⟨by omega, by omega⟩ ⟨by omega, by omega⟩ (fun g13 hS13 => ?_) rfl rfl rfl
        replace hS13 : tS152 g0 g13 q9 m9 (-1000 * 6 - p) c9 := hS13
        show t_X d 91 42 lv1 [] g13 P
        refine t_5 zri152_42 rfl rfl ?_
        exact hF _ _ _ _ _ hS13 (by omega) (by omega) (by rw [show -1000 * 6 - p = -6000 - p by omega]; exact (x9 (by omega)))
end
section
/-! class: the tray's text read, exactly (printed by wip/e2/u1c.py) -/
theorem zis150_0 : xe_look (xc 92) 0 = some (.iconst 1, 1, 0, 0, 0) := by decide +kernel
theorem zis150_1 : xe_look (xc 92) 1 = some (.istore_n 2, 1, 0, 0, 0) := by decide +kernel
theorem zis150_2 : xe_look (xc 92) 2 = some (.iconst 0, 1, 0, 0, 0) := by decide +kernel
theorem zis150_3 : xe_look (xc 92) 3 = some (.istore_n 3, 1, 0, 0, 0) := by decide +kernel
theorem zis150_4 : xe_look (xc 92) 4 = some (.iload_n 3, 1, 0, 0, 0) := by decide +kernel
theorem zis150_5 : xe_look (xc 92) 5 = some (.bipush 120, 2, 0, 0, 0) := by decide +kernel
theorem zis150_7 : xe_look (xc 92) 7 = some (.if_icmp .gt 58, 3, 0, 0, 0) := by decide +kernel
theorem zis150_10 : xe_look (xc 92) 10 = some (.iload_n 2, 1, 0, 0, 0) := by decide +kernel
theorem zis150_11 : xe_look (xc 92) 11 = some (.ifCond .eq 54, 3, 0, 0, 0) := by decide +kernel
theorem zis150_14 : xe_look (xc 92) 14 = some (.aload_n 0, 1, 0, 0, 0) := by decide +kernel
theorem zis150_15 : xe_look (xc 92) 15 = some (.iload_n 1, 1, 0, 0, 0) := by decide +kernel
theorem zis150_16 : xe_look (xc 92) 16 = some (.invokevirtual 45, 3, 0, 91, 957) := by decide +kernel
theorem zis150_19 : xe_look (xc 92) 19 = some (.aload_n 0, 1, 0, 0, 0) := by decide +kernel
theorem zis150_20 : xe_look (xc 92) 20 = some (.getfield 34, 3, 9, 5, 946) := by decide +kernel
theorem zis150_23 : xe_look (xc 92) 23 = some (.ifCond .ne 16, 3, 0, 0, 0) := by decide +kernel
theorem zis150_26 : xe_look (xc 92) 26 = some (.aload_n 0, 1, 0, 0, 0) := by decide +kernel
theorem zis150_27 : xe_look (xc 92) 27 = some (.invokevirtual 48, 3, 0, 97, 954) := by decide +kernel
theorem zis150_30 : xe_look (xc 92) 30 = some (.bipush 44, 2, 0, 0, 0) := by decide +kernel
theorem zis150_32 : xe_look (xc 92) 32 = some (.if_icmp .ne 7, 3, 0, 0, 0) := by decide +kernel
theorem zis150_35 : xe_look (xc 92) 35 = some (.iconst 1, 1, 0, 0, 0) := by decide +kernel
theorem zis150_36 : xe_look (xc 92) 36 = some (.goto 4, 3, 0, 0, 0) := by decide +kernel
theorem zis150_39 : xe_look (xc 92) 39 = some (.iconst 0, 1, 0, 0, 0) := by decide +kernel
theorem zis150_40 : xe_look (xc 92) 40 = some (.istore_n 2, 1, 0, 0, 0) := by decide +kernel
theorem zis150_41 : xe_look (xc 92) 41 = some (.aload_n 0, 1, 0, 0, 0) := by decide +kernel
theorem zis150_42 : xe_look (xc 92) 42 = some (.dup, 1, 0, 0, 0) := by decide +kernel
theorem zis150_43 : xe_look (xc 92) 43 = some (.getfield 31, 3, 9, 4, 951) := by decide +kernel
theorem zis150_46 : xe_look (xc 92) 46 = some (.iload_n 2, 1, 0, 0, 0) := by decide +kernel
theorem zis150_47 : xe_look (xc 92) 47 = some (.ifCond .eq 7, 3, 0, 0, 0) := by decide +kernel
theorem zis150_50 : xe_look (xc 92) 50 = some (.iconst 1, 1, 0, 0, 0) := by decide +kernel
theorem zis150_51 : xe_look (xc 92) 51 = some (.goto 4, 3, 0, 0, 0) := by decide +kernel
theorem zis150_54 : xe_look (xc 92) 54 = some (.iconst 0, 1, 0, 0, 0) := by decide +kernel
theorem zis150_55 : xe_look (xc 92) 55 = some (.iadd, 1, 0, 0, 0) := by decide +kernel
theorem zis150_56 : xe_look (xc 92) 56 = some (.putfield 31, 3, 9, 4, 951) := by decide +kernel
theorem zis150_59 : xe_look (xc 92) 59 = some (.iinc 3 1, 3, 0, 0, 0) := by decide +kernel
theorem zis150_62 : xe_look (xc 92) 62 = some (.goto (-58), 3, 0, 0, 0) := by decide +kernel
theorem zis150_65 : xe_look (xc 92) 65 = some (.return_, 1, 0, 0, 0) := by decide +kernel
theorem zis152_0 : xe_look (xc 92) 0 = some (.iconst 1, 1, 0, 0, 0) := by decide +kernel
theorem zis152_1 : xe_look (xc 92) 1 = some (.istore_n 2, 1, 0, 0, 0) := by decide +kernel
theorem zis152_2 : xe_look (xc 92) 2 = some (.iconst 0, 1, 0, 0, 0) := by decide +kernel
theorem zis152_3 : xe_look (xc 92) 3 = some (.istore_n 3, 1, 0, 0, 0) := by decide +kernel
theorem zis152_4 : xe_look (xc 92) 4 = some (.iload_n 3, 1, 0, 0, 0) := by decide +kernel
theorem zis152_5 : xe_look (xc 92) 5 = some (.bipush 120, 2, 0, 0, 0) := by decide +kernel
theorem zis152_7 : xe_look (xc 92) 7 = some (.if_icmp .gt 58, 3, 0, 0, 0) := by decide +kernel
theorem zis152_10 : xe_look (xc 92) 10 = some (.iload_n 2, 1, 0, 0, 0) := by decide +kernel
theorem zis152_11 : xe_look (xc 92) 11 = some (.ifCond .eq 54, 3, 0, 0, 0) := by decide +kernel
theorem zis152_14 : xe_look (xc 92) 14 = some (.aload_n 0, 1, 0, 0, 0) := by decide +kernel
theorem zis152_15 : xe_look (xc 92) 15 = some (.iload_n 1, 1, 0, 0, 0) := by decide +kernel
theorem zis152_16 : xe_look (xc 92) 16 = some (.invokevirtual 45, 3, 0, 91, 957) := by decide +kernel
theorem zis152_19 : xe_look (xc 92) 19 = some (.aload_n 0, 1, 0, 0, 0) := by decide +kernel
theorem zis152_20 : xe_look (xc 92) 20 = some (.getfield 34, 3, 9, 5, 946) := by decide +kernel
theorem zis152_23 : xe_look (xc 92) 23 = some (.ifCond .ne 16, 3, 0, 0, 0) := by decide +kernel
theorem zis152_26 : xe_look (xc 92) 26 = some (.aload_n 0, 1, 0, 0, 0) := by decide +kernel
theorem zis152_27 : xe_look (xc 92) 27 = some (.invokevirtual 48, 3, 0, 97, 954) := by decide +kernel
theorem zis152_30 : xe_look (xc 92) 30 = some (.bipush 44, 2, 0, 0, 0) := by decide +kernel
theorem zis152_32 : xe_look (xc 92) 32 = some (.if_icmp .ne 7, 3, 0, 0, 0) := by decide +kernel
theorem zis152_35 : xe_look (xc 92) 35 = some (.iconst 1, 1, 0, 0, 0) := by decide +kernel
theorem zis152_36 : xe_look (xc 92) 36 = some (.goto 4, 3, 0, 0, 0) := by decide +kernel
theorem zis152_39 : xe_look (xc 92) 39 = some (.iconst 0, 1, 0, 0, 0) := by decide +kernel
theorem zis152_40 : xe_look (xc 92) 40 = some (.istore_n 2, 1, 0, 0, 0) := by decide +kernel
theorem zis152_41 : xe_look (xc 92) 41 = some (.aload_n 0, 1, 0, 0, 0) := by decide +kernel
theorem zis152_42 : xe_look (xc 92) 42 = some (.dup, 1, 0, 0, 0) := by decide +kernel
theorem zis152_43 : xe_look (xc 92) 43 = some (.getfield 31, 3, 9, 4, 951) := by decide +kernel
theorem zis152_46 : xe_look (xc 92) 46 = some (.iload_n 2, 1, 0, 0, 0) := by decide +kernel
theorem zis152_47 : xe_look (xc 92) 47 = some (.ifCond .eq 7, 3, 0, 0, 0) := by decide +kernel
theorem zis152_50 : xe_look (xc 92) 50 = some (.iconst 1, 1, 0, 0, 0) := by decide +kernel
theorem zis152_51 : xe_look (xc 92) 51 = some (.goto 4, 3, 0, 0, 0) := by decide +kernel
theorem zis152_54 : xe_look (xc 92) 54 = some (.iconst 0, 1, 0, 0, 0) := by decide +kernel
theorem zis152_55 : xe_look (xc 92) 55 = some (.iadd, 1, 0, 0, 0) := by decide +kernel
theorem zis152_56 : xe_look (xc 92) 56 = some (.putfield 31, 3, 9, 4, 951) := by decide +kernel
theorem zis152_59 : xe_look (xc 92) 59 = some (.iinc 3 1, 3, 0, 0, 0) := by decide +kernel
theorem zis152_62 : xe_look (xc 92) 62 = some (.goto (-58), 3, 0, 0, 0) := by decide +kernel
theorem zis152_65 : xe_look (xc 92) 65 = some (.return_, 1, 0, 0, 0) := by decide +kernel
theorem zrd150_0 : xe_look (xc 90) 0 = some (.aload_n 0, 1, 0, 0, 0) := by decide +kernel
theorem zrd150_1 : xe_look (xc 90) 1 = some (.aload_n 1, 1, 0, 0, 0) := by decide +kernel
theorem zrd150_2 : xe_look (xc 90) 2 = some (.putfield 15, 3, 9, 2, 948) := by decide +kernel
theorem zrd150_5 : xe_look (xc 90) 5 = some (.aload_n 0, 1, 0, 0, 0) := by decide +kernel
theorem zrd150_6 : xe_look (xc 90) 6 = some (.iload_n 2, 1, 0, 0, 0) := by decide +kernel
theorem zrd150_7 : xe_look (xc 90) 7 = some (.aload_n 1, 1, 0, 0, 0) := by decide +kernel
theorem zrd150_8 : xe_look (xc 90) 8 = some (.arraylength, 1, 0, 0, 0) := by decide +kernel
theorem zrd150_9 : xe_look (xc 90) 9 = some (.invokestatic 22, 3, 3, 0, 949) := by decide +kernel
theorem zrd150_12 : xe_look (xc 90) 12 = some (.putfield 28, 3, 9, 3, 950) := by decide +kernel
theorem zrd150_15 : xe_look (xc 90) 15 = some (.aload_n 0, 1, 0, 0, 0) := by decide +kernel
theorem zrd150_16 : xe_look (xc 90) 16 = some (.iconst 0, 1, 0, 0, 0) := by decide +kernel
theorem zrd150_17 : xe_look (xc 90) 17 = some (.putfield 31, 3, 9, 4, 951) := by decide +kernel
theorem zrd150_20 : xe_look (xc 90) 20 = some (.aload_n 0, 1, 0, 0, 0) := by decide +kernel
theorem zrd150_21 : xe_look (xc 90) 21 = some (.iconst 0, 1, 0, 0, 0) := by decide +kernel
theorem zrd150_22 : xe_look (xc 90) 22 = some (.putfield 34, 3, 9, 5, 946) := by decide +kernel
theorem zrd150_25 : xe_look (xc 90) 25 = some (.aload_n 0, 1, 0, 0, 0) := by decide +kernel
theorem zrd150_26 : xe_look (xc 90) 26 = some (.iconst 0, 1, 0, 0, 0) := by decide +kernel
theorem zrd150_27 : xe_look (xc 90) 27 = some (.putfield 18, 3, 9, 1, 944) := by decide +kernel
theorem zrd150_30 : xe_look (xc 90) 30 = some (.aload_n 0, 1, 0, 0, 0) := by decide +kernel
theorem zrd150_31 : xe_look (xc 90) 31 = some (.iconst 0, 1, 0, 0, 0) := by decide +kernel
theorem zrd150_32 : xe_look (xc 90) 32 = some (.invokevirtual 37, 3, 0, 92, 952) := by decide +kernel
theorem zrd150_35 : xe_look (xc 90) 35 = some (.aload_n 0, 1, 0, 0, 0) := by decide +kernel
theorem zrd150_36 : xe_look (xc 90) 36 = some (.getfield 31, 3, 9, 4, 951) := by decide +kernel
theorem zrd150_39 : xe_look (xc 90) 39 = some (.aload_n 0, 1, 0, 0, 0) := by decide +kernel
theorem zrd150_40 : xe_look (xc 90) 40 = some (.getfield 28, 3, 9, 3, 950) := by decide +kernel
theorem zrd150_43 : xe_look (xc 90) 43 = some (.if_icmp .ge 12, 3, 0, 0, 0) := by decide +kernel
theorem zrd150_46 : xe_look (xc 90) 46 = some (.aload_n 0, 1, 0, 0, 0) := by decide +kernel
theorem zrd150_47 : xe_look (xc 90) 47 = some (.iconst 1, 1, 0, 0, 0) := by decide +kernel
theorem zrd150_48 : xe_look (xc 90) 48 = some (.aload_n 0, 1, 0, 0, 0) := by decide +kernel
theorem zrd150_49 : xe_look (xc 90) 49 = some (.getfield 31, 3, 9, 4, 951) := by decide +kernel
theorem zrd150_52 : xe_look (xc 90) 52 = some (.invokevirtual 41, 3, 0, 87, 953) := by decide +kernel
theorem zrd150_55 : xe_look (xc 90) 55 = some (.aload_n 0, 1, 0, 0, 0) := by decide +kernel
theorem zrd150_56 : xe_look (xc 90) 56 = some (.getfield 34, 3, 9, 5, 946) := by decide +kernel
theorem zrd150_59 : xe_look (xc 90) 59 = some (.ifCond .ne 10, 3, 0, 0, 0) := by decide +kernel
theorem zrd150_62 : xe_look (xc 90) 62 = some (.aload_n 0, 1, 0, 0, 0) := by decide +kernel
theorem zrd150_63 : xe_look (xc 90) 63 = some (.getfield 18, 3, 9, 1, 944) := by decide +kernel
theorem zrd150_66 : xe_look (xc 90) 66 = some (.goto 7, 3, 0, 0, 0) := by decide +kernel
theorem zrd150_69 : xe_look (xc 90) 69 = some (.aload_n 0, 1, 0, 0, 0) := by decide +kernel
theorem zrd150_70 : xe_look (xc 90) 70 = some (.getfield 34, 3, 9, 5, 946) := by decide +kernel
theorem zrd150_73 : xe_look (xc 90) 73 = some (.ireturn, 1, 0, 0, 0) := by decide +kernel
theorem zrd152_0 : xe_look (xc 90) 0 = some (.aload_n 0, 1, 0, 0, 0) := by decide +kernel
theorem zrd152_1 : xe_look (xc 90) 1 = some (.aload_n 1, 1, 0, 0, 0) := by decide +kernel
theorem zrd152_2 : xe_look (xc 90) 2 = some (.putfield 15, 3, 9, 2, 948) := by decide +kernel
theorem zrd152_5 : xe_look (xc 90) 5 = some (.aload_n 0, 1, 0, 0, 0) := by decide +kernel
theorem zrd152_6 : xe_look (xc 90) 6 = some (.iload_n 2, 1, 0, 0, 0) := by decide +kernel
theorem zrd152_7 : xe_look (xc 90) 7 = some (.aload_n 1, 1, 0, 0, 0) := by decide +kernel
theorem zrd152_8 : xe_look (xc 90) 8 = some (.arraylength, 1, 0, 0, 0) := by decide +kernel
theorem zrd152_9 : xe_look (xc 90) 9 = some (.invokestatic 22, 3, 3, 0, 949) := by decide +kernel
theorem zrd152_12 : xe_look (xc 90) 12 = some (.putfield 28, 3, 9, 3, 950) := by decide +kernel
theorem zrd152_15 : xe_look (xc 90) 15 = some (.aload_n 0, 1, 0, 0, 0) := by decide +kernel
theorem zrd152_16 : xe_look (xc 90) 16 = some (.iconst 0, 1, 0, 0, 0) := by decide +kernel
theorem zrd152_17 : xe_look (xc 90) 17 = some (.putfield 31, 3, 9, 4, 951) := by decide +kernel
theorem zrd152_20 : xe_look (xc 90) 20 = some (.aload_n 0, 1, 0, 0, 0) := by decide +kernel
theorem zrd152_21 : xe_look (xc 90) 21 = some (.iconst 0, 1, 0, 0, 0) := by decide +kernel
theorem zrd152_22 : xe_look (xc 90) 22 = some (.putfield 34, 3, 9, 5, 946) := by decide +kernel
theorem zrd152_25 : xe_look (xc 90) 25 = some (.aload_n 0, 1, 0, 0, 0) := by decide +kernel
theorem zrd152_26 : xe_look (xc 90) 26 = some (.iconst 0, 1, 0, 0, 0) := by decide +kernel
theorem zrd152_27 : xe_look (xc 90) 27 = some (.putfield 18, 3, 9, 1, 944) := by decide +kernel
theorem zrd152_30 : xe_look (xc 90) 30 = some (.aload_n 0, 1, 0, 0, 0) := by decide +kernel
theorem zrd152_31 : xe_look (xc 90) 31 = some (.iconst 0, 1, 0, 0, 0) := by decide +kernel
theorem zrd152_32 : xe_look (xc 90) 32 = some (.invokevirtual 37, 3, 0, 92, 952) := by decide +kernel
theorem zrd152_35 : xe_look (xc 90) 35 = some (.aload_n 0, 1, 0, 0, 0) := by decide +kernel
theorem zrd152_36 : xe_look (xc 90) 36 = some (.getfield 31, 3, 9, 4, 951) := by decide +kernel
theorem zrd152_39 : xe_look (xc 90) 39 = some (.aload_n 0, 1, 0, 0, 0) := by decide +kernel
theorem zrd152_40 : xe_look (xc 90) 40 = some (.getfield 28, 3, 9, 3, 950) := by decide +kernel
theorem zrd152_43 : xe_look (xc 90) 43 = some (.if_icmp .ge 12, 3, 0, 0, 0) := by decide +kernel
theorem zrd152_46 : xe_look (xc 90) 46 = some (.aload_n 0, 1, 0, 0, 0) := by decide +kernel
theorem zrd152_47 : xe_look (xc 90) 47 = some (.iconst 1, 1, 0, 0, 0) := by decide +kernel
theorem zrd152_48 : xe_look (xc 90) 48 = some (.aload_n 0, 1, 0, 0, 0) := by decide +kernel
theorem zrd152_49 : xe_look (xc 90) 49 = some (.getfield 31, 3, 9, 4, 951) := by decide +kernel
theorem zrd152_52 : xe_look (xc 90) 52 = some (.invokevirtual 41, 3, 0, 87, 953) := by decide +kernel
theorem zrd152_55 : xe_look (xc 90) 55 = some (.aload_n 0, 1, 0, 0, 0) := by decide +kernel
theorem zrd152_56 : xe_look (xc 90) 56 = some (.getfield 34, 3, 9, 5, 946) := by decide +kernel
theorem zrd152_59 : xe_look (xc 90) 59 = some (.ifCond .ne 10, 3, 0, 0, 0) := by decide +kernel
theorem zrd152_62 : xe_look (xc 90) 62 = some (.aload_n 0, 1, 0, 0, 0) := by decide +kernel
theorem zrd152_63 : xe_look (xc 90) 63 = some (.getfield 18, 3, 9, 1, 944) := by decide +kernel
theorem zrd152_66 : xe_look (xc 90) 66 = some (.goto 7, 3, 0, 0, 0) := by decide +kernel
theorem zrd152_69 : xe_look (xc 90) 69 = some (.aload_n 0, 1, 0, 0, 0) := by decide +kernel
theorem zrd152_70 : xe_look (xc 90) 70 = some (.getfield 34, 3, 9, 5, 946) := by decide +kernel
theorem zrd152_73 : xe_look (xc 90) 73 = some (.ireturn, 1, 0, 0, 0) := by decide +kernel
def tU150 : Nat := 2 ^ (cn 150 + 1) + 2 ^ (cn 150 + 3) + 2 ^ (cn 150 + 4) + 2 ^ (cn 150 + 5)
def tu150k : List (Nat × Nat) := [(150, 4), (150, 1), (150, 5), (150, 3)]
def tV150 : Nat := tU150 + 2 ^ (cn 150 + 2) + 2 ^ cn 151
theorem tV150_b : tW150 &&& tV150 = tW150 ∧ tU150 &&& tV150 = tU150 ∧ tV150.testBit (cn 150 + 2) = true ∧ tV150.testBit (cn 1) = false ∧ tU150.testBit (cn 150 + 2) = false ∧ tU150.testBit (cn 1) = false ∧ tU150.testBit (cn 151) = false := by decide +kernel
theorem gt_150_2 : eG (cn 150 + 2) = (0, 100000, [2, 152]) := by decide +kernel
def tU152 : Nat := 2 ^ (cn 152 + 1) + 2 ^ (cn 152 + 3) + 2 ^ (cn 152 + 4) + 2 ^ (cn 152 + 5)
def tu152k : List (Nat × Nat) := [(152, 4), (152, 1), (152, 5), (152, 3)]
def tV152 : Nat := tU152 + 2 ^ (cn 152 + 2) + 2 ^ cn 153
theorem tV152_b : tW152 &&& tV152 = tW152 ∧ tU152 &&& tV152 = tU152 ∧ tV152.testBit (cn 152 + 2) = true ∧ tV152.testBit (cn 1) = false ∧ tU152.testBit (cn 152 + 2) = false ∧ tU152.testBit (cn 1) = false ∧ tU152.testBit (cn 153) = false := by decide +kernel
theorem gt_152_2 : eG (cn 152 + 2) = (0, 100000, [2, 154]) := by decide +kernel
theorem gy_150_3 : eG (cn 150 + 3) = (0, 120, []) := by decide +kernel
theorem gy_152_3 : eG (cn 152 + 3) = (0, 120, []) := by decide +kernel
theorem wt_tU150_150_1 : tU150.testBit (cn 150 + 1) = true := by decide +kernel
theorem wt_tU150_150_3 : tU150.testBit (cn 150 + 3) = true := by decide +kernel
theorem wt_tU150_150_4 : tU150.testBit (cn 150 + 4) = true := by decide +kernel
theorem wt_tU150_150_5 : tU150.testBit (cn 150 + 5) = true := by decide +kernel
theorem wt_tU152_152_1 : tU152.testBit (cn 152 + 1) = true := by decide +kernel
theorem wt_tU152_152_3 : tU152.testBit (cn 152 + 3) = true := by decide +kernel
theorem wt_tU152_152_4 : tU152.testBit (cn 152 + 4) = true := by decide +kernel
theorem wt_tU152_152_5 : tU152.testBit (cn 152 + 5) = true := by decide +kernel
theorem ix150 {d : Nat} {g : pH} {k : Int} (hk : 0 ≤ k ∧ k ≤ 1000) {P : Option pv × pH → Prop} (hP : P (none, g)) {lv : List (Nat × pv)} (l0 : px_lg lv 0 = some (pvR 150)) (l2 : px_lg lv 2 = some (oI 0)) (l3 : px_lg lv 3 = some (oI k)) : t_X d 92 4 lv [] g P := by
  refine t_0 zis150_4 rfl (ld_i l3) ?_
  refine t_0 zis150_5 rfl (pq_b (by decide)) ?_
  refine tb_gt zis150_7 (by decide) ⟨by omega, by omega⟩ ⟨by omega, by omega⟩ (fun c1 => ?_) (fun c1 => ?_)
  · show t_X d 92 65 lv [] g P
    refine t_5 zis150_65 rfl rfl ?_
    exact hP
  · show t_X d 92 10 lv [] g P
    refine t_0 zis150_10 rfl (ld_i l2) ?_
    refine tz_eq zis150_11 (by decide) ⟨by omega, by omega⟩ (fun c2 => ?_) (fun c2 => absurd c2 (by omega))
    show t_X d 92 65 lv [] g P
    refine t_5 zis150_65 rfl rfl ?_
    exact hP
set_option maxHeartbeats 4000000 in
theorem il150 {δ : Nat} {g0 : pH} {B : tC} {n : Int} (hB : tB150 g0 B n) (hI : δ < 4 → tI150 g0 B n (δ + 1)) (hδ : δ ≤ 4) {d : Nat} (hd : 4 + 3 * (4 - δ) ≤ d) : ∀ (y k : Nat) (g : pH) (lv : List (Nat × pv)) (p m : Int) (c : tC) (P : Option pv × pH → Prop), n - p ≤ y → (k : Int) ≤ p → tS150 g0 g p m 0 c → 0 ≤ p ∧ p ≤ n → 0 ≤ m ∧ m ≤ 60 → (∀ (g1 : pH) (f q m1 : Int) (c1 : tC), tS150 g0 g1 q m1 f c1 → f < 0 → -9999 ≤ f → tIs (tH B n) n δ p m c (.inl f) → P (none, g1)) → (∀ (g1 : pH) (q m1 : Int) (c1 : tC), tS150 g0 g1 q m1 0 c1 → tQ n p m q m1 → tIs (tH B n) n δ p m c (.inr (q, m1, c1)) → P (none, g1)) → px_lg lv 0 = some (pvR 150) → px_lg lv 1 = some (oI (δ : Int)) → px_lg lv 2 = some (oI 1) → px_lg lv 3 = some (oI (k : Int)) → t_X d 92 4 lv [] g P := by
  intro y
  induction y with
  | zero =>
    intro k g lv p m c P hy hk hS hp hm hF hO l0 l1 l2 l3
    obtain ⟨hn0, hn1, hp1, hm1, hH⟩ := cm150 hB hS
    refine t_0 zis150_4 rfl (ld_i l3) ?_
    refine t_0 zis150_5 rfl (pq_b (by decide)) ?_
    refine tb_gt zis150_7 (by decide) ⟨by omega, by omega⟩ ⟨by omega, by omega⟩ (fun c1 => absurd c1 (by omega)) (fun c1 => ?_)
    show t_X d 92 10 lv [] g P
    refine t_0 zis150_10 rfl (ld_i l2) ?_
    refine tz_eq zis150_11 (by decide) ⟨by omega, by omega⟩ (fun c2 => absurd c2 (by omega)) (fun c2 => ?_)
    show t_X d 92 14 lv [] g P
    refine t_0 zis150_14 rfl (ld_a l0) ?_
    refine t_0 zis150_15 rfl (ld_i l1) ?_
    refine t_3 zis150_16 rfl (ar := ([pvR 150, oI ((δ : Int))], [])) (pcal_w (as := [oI ((δ : Int))]) rfl rfl rfl eo_150) ⟨by omega, Nat.le_of_ble_eq_true rfl, Nat.le_of_ble_eq_true rfl, rfl⟩ ?_
    refine it150_run hB hS ⟨by omega, by omega⟩ hm hI hδ (by omega) (fun g3 f3 q3 m3 c3 hS3 u3 w3 t3 => ?_) (fun g3 q3 m3 c3 hS3 Q3 t3 => ?_) rfl rfl
    · replace hS3 : tS150 g0 g3 q3 m3 f3 c3 := hS3
      have y3 := (cm150 hB hS3).2.2.1
      show t_X d 92 19 lv [] g3 P
      refine t_0 zis150_19 rfl (ld_a l0) ?_
      refine t_0 zis150_20 rfl (pq_cv eo_150 rfl (show cF g3 150 5 = f3 from S_f hS3 2 (Nat.le_of_ble_eq_true rfl))) ?_
      show t_X d 92 23 lv [oI (f3)] g3 P
      refine tz_ne zis150_23 (by decide) ⟨by omega, by omega⟩ (fun c4 => ?_) (fun c4 => absurd c4 (by omega))
      show t_X d 92 39 lv [] g3 P
      refine t_0 zis150_39 rfl rfl ?_
      refine t_2 zis150_40 rfl (w := (px_s1 lv 2 (oI 0), [])) rfl ?_
      replace l0 : px_lg (px_s1 lv 2 (oI 0)) 0 = some (pvR 150) := s1_ne (by decide) (fun _ => rfl) l0
      replace l1 : px_lg (px_s1 lv 2 (oI 0)) 1 = some (oI ((δ : Int))) := s1_ne (by decide) (fun _ => rfl) l1
      replace l3 : px_lg (px_s1 lv 2 (oI 0)) 3 = some (oI ((k : Int))) := s1_ne (by decide) (fun _ => rfl) l3
      have l2 : px_lg (px_s1 lv 2 (oI 0)) 2 = some (oI 0) := s1_eq
      generalize px_s1 lv 2 (oI 0) = lv5 at l0 l1 l3 l2 ⊢
      show t_X d 92 41 lv5 [] g3 P
      refine t_0 zis150_41 rfl (ld_a l0) ?_
      refine t_0 zis150_42 rfl rfl ?_
      refine t_0 zis150_43 rfl (pq_cv eo_150 rfl (show cF g3 150 4 = q3 from S_f hS3 0 (Nat.le_of_ble_eq_true rfl))) ?_
      show t_X d 92 46 lv5 [oI (q3), pvR 150] g3 P
      refine t_0 zis150_46 rfl (ld_i l2) ?_
      refine tz_eq zis150_47 (by decide) ⟨by omega, by omega⟩ (fun c6 => ?_) (fun c6 => absurd c6 (by omega))
      show t_X d 92 54 lv5 [oI (q3), pvR 150] g3 P
      refine t_0 zis150_54 rfl rfl ?_
      refine t_0 zis150_55 rfl pq_add ?_
      rw [show q3 + 0 = q3 by omega]
      refine ts_f (n := 0) rfl rfl (by decide) zis150_56 rfl eo_150 hS3 wt_tW150_150_4 gy_150_4 (by decide) ⟨by omega, by omega⟩ (fun g7 hS7 => ?_)
      replace hS7 : tS150 g0 g7 q3 m3 f3 c3 := hS7
      show t_X d 92 59 lv5 [] g7 P
      refine t_2 zis150_59 rfl (w := (px_s1 lv5 3 (oI ((k : Int) + 1)), [])) (pq_inc l3 (by decide)) ?_
      replace l0 : px_lg (px_s1 lv5 3 (oI ((k : Int) + 1))) 0 = some (pvR 150) := s1_ne (by decide) (fun _ => rfl) l0
      replace l1 : px_lg (px_s1 lv5 3 (oI ((k : Int) + 1))) 1 = some (oI ((δ : Int))) := s1_ne (by decide) (fun _ => rfl) l1
      replace l2 : px_lg (px_s1 lv5 3 (oI ((k : Int) + 1))) 2 = some (oI 0) := s1_ne (by decide) (fun _ => rfl) l2
      have l3 : px_lg (px_s1 lv5 3 (oI ((k : Int) + 1))) 3 = some (oI ((k : Int) + 1)) := s1_eq
      generalize px_s1 lv5 3 (oI ((k : Int) + 1)) = lv8 at l0 l1 l2 l3 ⊢
      show t_X d 92 62 lv8 [] g7 P
      refine t_1 zis150_62 rfl (pb_goto (pc := 62) (by decide)) ?_
      show t_X d 92 4 lv8 [] g7 P
      exact ix150 (by omega) (hF _ _ _ _ _ hS7 (by omega) (by omega) ((tCl_x _ _).2.2.2.2.1 δ p m c _ t3)) l0 l2 l3
    · replace hS3 : tS150 g0 g3 q3 m3 0 c3 := hS3
      show t_X d 92 19 lv [] g3 P
      refine t_0 zis150_19 rfl (ld_a l0) ?_
      refine t_0 zis150_20 rfl (pq_cv eo_150 rfl (show cF g3 150 5 = 0 from S_f hS3 2 (Nat.le_of_ble_eq_true rfl))) ?_
      show t_X d 92 23 lv [oI 0] g3 P
      refine tz_ne zis150_23 (by decide) ⟨by omega, by omega⟩ (fun c9 => absurd c9 (by omega)) (fun c9 => ?_)
      show t_X d 92 26 lv [] g3 P
      refine t_0 zis150_26 rfl (ld_a l0) ?_
      refine t_3 zis150_27 rfl (ar := ([pvR 150], [])) (pcal_w (as := []) rfl rfl rfl eo_150) ⟨by omega, Nat.le_of_ble_eq_true rfl, Nat.le_of_ble_eq_true rfl, rfl⟩ ?_
      refine sg150_run hB hS3 ?_ rfl
      have b10 := hH q3 (by omega)
      have z10 := tH_n (B := B) (n := n) (p := q3)
      show t_X d 92 30 lv [oI (tH B n q3)] g3 P
      refine t_0 zis150_30 rfl (pq_b (by decide)) ?_
      refine tb_ne zis150_32 (by decide) ⟨by omega, by omega⟩ ⟨by omega, by omega⟩ (fun c11 => ?_) (fun c11 => ?_)
      · show t_X d 92 39 lv [] g3 P
        refine t_0 zis150_39 rfl rfl ?_
        refine t_2 zis150_40 rfl (w := (px_s1 lv 2 (oI 0), [])) rfl ?_
        replace l0 : px_lg (px_s1 lv 2 (oI 0)) 0 = some (pvR 150) := s1_ne (by decide) (fun _ => rfl) l0
        replace l1 : px_lg (px_s1 lv 2 (oI 0)) 1 = some (oI ((δ : Int))) := s1_ne (by decide) (fun _ => rfl) l1
        replace l3 : px_lg (px_s1 lv 2 (oI 0)) 3 = some (oI ((k : Int))) := s1_ne (by decide) (fun _ => rfl) l3
        have l2 : px_lg (px_s1 lv 2 (oI 0)) 2 = some (oI 0) := s1_eq
        generalize px_s1 lv 2 (oI 0) = lv12 at l0 l1 l3 l2 ⊢
        show t_X d 92 41 lv12 [] g3 P
        refine t_0 zis150_41 rfl (ld_a l0) ?_
        refine t_0 zis150_42 rfl rfl ?_
        refine t_0 zis150_43 rfl (pq_cv eo_150 rfl (show cF g3 150 4 = q3 from S_f hS3 0 (Nat.le_of_ble_eq_true rfl))) ?_
        show t_X d 92 46 lv12 [oI (q3), pvR 150] g3 P
        refine t_0 zis150_46 rfl (ld_i l2) ?_
        refine tz_eq zis150_47 (by decide) ⟨by omega, by omega⟩ (fun c13 => ?_) (fun c13 => absurd c13 (by omega))
        show t_X d 92 54 lv12 [oI (q3), pvR 150] g3 P
        refine t_0 zis150_54 rfl rfl ?_
        refine t_0 zis150_55 rfl pq_add ?_
        rw [show q3 + 0 = q3 by omega]
        refine ts_f (n := 0) rfl rfl (by decide) zis150_56 rfl eo_150 hS3 wt_tW150_150_4 gy_150_4 (by decide) ⟨by omega, by omega⟩ (fun g14 hS14 => ?_)
        replace hS14 : tS150 g0 g14 q3 m3 0 c3 := hS14
        show t_X d 92 59 lv12 [] g14 P
        refine t_2 zis150_59 rfl (w := (px_s1 lv12 3 (oI ((k : Int) + 1)), [])) (pq_inc l3 (by decide)) ?_
        replace l0 : px_lg (px_s1 lv12 3 (oI ((k : Int) + 1))) 0 = some (pvR 150) := s1_ne (by decide) (fun _ => rfl) l0
        replace l1 : px_lg (px_s1 lv12 3 (oI ((k : Int) + 1))) 1 = some (oI ((δ : Int))) := s1_ne (by decide) (fun _ => rfl) l1
        replace l2 : px_lg (px_s1 lv12 3 (oI ((k : Int) + 1))) 2 = some (oI 0) := s1_ne (by decide) (fun _ => rfl) l2
        have l3 : px_lg (px_s1 lv12 3 (oI ((k : Int) + 1))) 3 = some (oI ((k : Int) + 1)) := s1_eq
        generalize px_s1 lv12 3 (oI ((k : Int) + 1)) = lv15 at l0 l1 l2 l3 ⊢
        show t_X d 92 62 lv15 [] g14 P
        refine t_1 zis150_62 rfl (pb_goto (pc := 62) (by decide)) ?_
        show t_X d 92 4 lv15 [] g14 P
        exact ix150 (by omega) (hO _ _ _ _ hS14 ⟨by omega, by omega, by omega, by omega, by omega, by omega⟩ ((tCl_x _ _).2.2.2.2.2.1 δ p m c _ _ _ ⟨by omega, by omega, by omega, by omega, by omega, by omega⟩ t3 (by omega))) l0 l2 l3
      · show t_X d 92 35 lv [] g3 P
        refine t_0 zis150_35 rfl rfl ?_
        refine t_1 zis150_36 rfl (pb_goto (pc := 36) (by decide)) ?_
        show t_X d 92 40 lv [oI 1] g3 P
        refine t_2 zis150_40 rfl (w := (px_s1 lv 2 (oI 1), [])) rfl ?_
        replace l0 : px_lg (px_s1 lv 2 (oI 1)) 0 = some (pvR 150) := s1_ne (by decide) (fun _ => rfl) l0
        replace l1 : px_lg (px_s1 lv 2 (oI 1)) 1 = some (oI ((δ : Int))) := s1_ne (by decide) (fun _ => rfl) l1
        replace l3 : px_lg (px_s1 lv 2 (oI 1)) 3 = some (oI ((k : Int))) := s1_ne (by decide) (fun _ => rfl) l3
        have l2 : px_lg (px_s1 lv 2 (oI 1)) 2 = some (oI 1) := s1_eq
        generalize px_s1 lv 2 (oI 1) = lv16 at l0 l1 l3 l2 ⊢
        show t_X d 92 41 lv16 [] g3 P
        refine t_0 zis150_41 rfl (ld_a l0) ?_
        refine t_0 zis150_42 rfl rfl ?_
        refine t_0 zis150_43 rfl (pq_cv eo_150 rfl (show cF g3 150 4 = q3 from S_f hS3 0 (Nat.le_of_ble_eq_true rfl))) ?_
        show t_X d 92 46 lv16 [oI (q3), pvR 150] g3 P
        refine t_0 zis150_46 rfl (ld_i l2) ?_
        refine tz_eq zis150_47 (by decide) ⟨by omega, by omega⟩ (fun c17 => absurd c17 (by omega)) (fun c17 => ?_)
        show t_X d 92 50 lv16 [oI (q3), pvR 150] g3 P
        refine t_0 zis150_50 rfl rfl ?_
        refine t_1 zis150_51 rfl (pb_goto (pc := 51) (by decide)) ?_
        show t_X d 92 55 lv16 [oI 1, oI (q3), pvR 150] g3 P
        refine t_0 zis150_55 rfl pq_add ?_
        refine ts_f (n := 0) rfl rfl (by decide) zis150_56 rfl eo_150 hS3 wt_tW150_150_4 gy_150_4 (by decide) ⟨by omega, by omega⟩ (fun g18 hS18 => ?_)
        replace hS18 : tS150 g0 g18 (q3 + 1) m3 0 c3 := hS18
        show t_X d 92 59 lv16 [] g18 P
        refine t_2 zis150_59 rfl (w := (px_s1 lv16 3 (oI ((k : Int) + 1)), [])) (pq_inc l3 (by decide)) ?_
        replace l0 : px_lg (px_s1 lv16 3 (oI ((k : Int) + 1))) 0 = some (pvR 150) := s1_ne (by decide) (fun _ => rfl) l0
        replace l1 : px_lg (px_s1 lv16 3 (oI ((k : Int) + 1))) 1 = some (oI ((δ : Int))) := s1_ne (by decide) (fun _ => rfl) l1
        replace l2 : px_lg (px_s1 lv16 3 (oI ((k : Int) + 1))) 2 = some (oI 1) := s1_ne (by decide) (fun _ => rfl) l2
        have l3 : px_lg (px_s1 lv16 3 (oI ((k : Int) + 1))) 3 = some (oI ((k : Int) + 1)) := s1_eq
        generalize px_s1 lv16 3 (oI ((k : Int) + 1)) = lv19 at l0 l1 l2 l3 ⊢
        show t_X d 92 62 lv19 [] g18 P
        refine t_1 zis150_62 rfl (pb_goto (pc := 62) (by decide)) ?_
        show t_X d 92 4 lv19 [] g18 P
        exfalso
        omega
  | succ y ih =>
    intro k g lv p m c P hy hk hS hp hm hF hO l0 l1 l2 l3
    obtain ⟨hn0, hn1, hp1, hm1, hH⟩ := cm150 hB hS
    refine t_0 zis150_4 rfl (ld_i l3) ?_
    refine t_0 zis150_5 rfl (pq_b (by decide)) ?_
    refine tb_gt zis150_7 (by decide) ⟨by omega, by omega⟩ ⟨by omega, by omega⟩ (fun c1 => absurd c1 (by omega)) (fun c1 => ?_)
    show t_X d 92 10 lv [] g P
    refine t_0 zis150_10 rfl (ld_i l2) ?_
    refine tz_eq zis150_11 (by decide) ⟨by omega, by omega⟩ (fun c2 => absurd c2 (by omega)) (fun c2 => ?_)
    show t_X d 92 14 lv [] g P
    refine t_0 zis150_14 rfl (ld_a l0) ?_
    refine t_0 zis150_15 rfl (ld_i l1) ?_
    refine t_3 zis150_16 rfl (ar := ([pvR 150, oI ((δ : Int))], [])) (pcal_w (as := [oI ((δ : Int))]) rfl rfl rfl eo_150) ⟨by omega, Nat.le_of_ble_eq_true rfl, Nat.le_of_ble_eq_true rfl, rfl⟩ ?_
    refine it150_run hB hS ⟨by omega, by omega⟩ hm hI hδ (by omega) (fun g3 f3 q3 m3 c3 hS3 u3 w3 t3 => ?_) (fun g3 q3 m3 c3 hS3 Q3 t3 => ?_) rfl rfl
    · replace hS3 : tS150 g0 g3 q3 m3 f3 c3 := hS3
      have y3 := (cm150 hB hS3).2.2.1
      show t_X d 92 19 lv [] g3 P
      refine t_0 zis150_19 rfl (ld_a l0) ?_
      refine t_0 zis150_20 rfl (pq_cv eo_150 rfl (show cF g3 150 5 = f3 from S_f hS3 2 (Nat.le_of_ble_eq_true rfl))) ?_
      show t_X d 92 23 lv [oI (f3)] g3 P
      refine tz_ne zis150_23 (by decide) ⟨by omega, by omega⟩ (fun c4 => ?_) (fun c4 => absurd c4 (by omega))
      show t_X d 92 39 lv [] g3 P
      refine t_0 zis150_39 rfl rfl ?_
      refine t_2 zis150_40 rfl (w := (px_s1 lv 2 (oI 0), [])) rfl ?_
      replace l0 : px_lg (px_s1 lv 2 (oI 0)) 0 = some (pvR 150) := s1_ne (by decide) (fun _ => rfl) l0
      replace l1 : px_lg (px_s1 lv 2 (oI 0)) 1 = some (oI ((δ : Int))) := s1_ne (by decide) (fun _ => rfl) l1
      replace l3 : px_lg (px_s1 lv 2 (oI 0)) 3 = some (oI ((k : Int))) := s1_ne (by decide) (fun _ => rfl) l3
      have l2 : px_lg (px_s1 lv 2 (oI 0)) 2 = some (oI 0) := s1_eq
      generalize px_s1 lv 2 (oI 0) = lv5 at l0 l1 l3 l2 ⊢
      show t_X d 92 41 lv5 [] g3 P
      refine t_0 zis150_41 rfl (ld_a l0) ?_
      refine t_0 zis150_42 rfl rfl ?_
      refine t_0 zis150_43 rfl (pq_cv eo_150 rfl (show cF g3 150 4 = q3 from S_f hS3 0 (Nat.le_of_ble_eq_true rfl))) ?_
      show t_X d 92 46 lv5 [oI (q3), pvR 150] g3 P
      refine t_0 zis150_46 rfl (ld_i l2) ?_
      refine tz_eq zis150_47 (by decide) ⟨by omega, by omega⟩ (fun c6 => ?_) (fun c6 => absurd c6 (by omega))
      show t_X d 92 54 lv5 [oI (q3), pvR 150] g3 P
      refine t_0 zis150_54 rfl rfl ?_
      refine t_0 zis150_55 rfl pq_add ?_
      rw [show q3 + 0 = q3 by omega]
      refine ts_f (n := 0) rfl rfl (by decide) zis150_56 rfl eo_150 hS3 wt_tW150_150_4 gy_150_4 (by decide) ⟨by omega, by omega⟩ (fun g7 hS7 => ?_)
      replace hS7 : tS150 g0 g7 q3 m3 f3 c3 := hS7
      show t_X d 92 59 lv5 [] g7 P
      refine t_2 zis150_59 rfl (w := (px_s1 lv5 3 (oI ((k : Int) + 1)), [])) (pq_inc l3 (by decide)) ?_
      replace l0 : px_lg (px_s1 lv5 3 (oI ((k : Int) + 1))) 0 = some (pvR 150) := s1_ne (by decide) (fun _ => rfl) l0
      replace l1 : px_lg (px_s1 lv5 3 (oI ((k : Int) + 1))) 1 = some (oI ((δ : Int))) := s1_ne (by decide) (fun _ => rfl) l1
      replace l2 : px_lg (px_s1 lv5 3 (oI ((k : Int) + 1))) 2 = some (oI 0) := s1_ne (by decide) (fun _ => rfl) l2
      have l3 : px_lg (px_s1 lv5 3 (oI ((k : Int) + 1))) 3 = some (oI ((k : Int) + 1)) := s1_eq
      generalize px_s1 lv5 3 (oI ((k : Int) + 1)) = lv8 at l0 l1 l2 l3 ⊢
      show t_X d 92 62 lv8 [] g7 P
      refine t_1 zis150_62 rfl (pb_goto (pc := 62) (by decide)) ?_
      show t_X d 92 4 lv8 [] g7 P
      exact ix150 (by omega) (hF _ _ _ _ _ hS7 (by omega) (by omega) ((tCl_x _ _).2.2.2.2.1 δ p m c _ t3)) l0 l2 l3
    · replace hS3 : tS150 g0 g3 q3 m3 0 c3 := hS3
      show t_X d 92 19 lv [] g3 P
      refine t_0 zis150_19 rfl (ld_a l0) ?_
      refine t_0 zis150_20 rfl (pq_cv eo_150 rfl (show cF g3 150 5 = 0 from S_f hS3 2 (Nat.le_of_ble_eq_true rfl))) ?_
      show t_X d 92 23 lv [oI 0] g3 P
      refine tz_ne zis150_23 (by decide) ⟨by omega, by omega⟩ (fun c9 => absurd c9 (by omega)) (fun c9 => ?_)
      show t_X d 92 26 lv [] g3 P
      refine t_0 zis150_26 rfl (ld_a l0) ?_
      refine t_3 zis150_27 rfl (ar := ([pvR 150], [])) (pcal_w (as := []) rfl rfl rfl eo_150) ⟨by omega, Nat.le_of_ble_eq_true rfl, Nat.le_of_ble_eq_true rfl, rfl⟩ ?_
      refine sg150_run hB hS3 ?_ rfl
      have b10 := hH q3 (by omega)
      have z10 := tH_n (B := B) (n := n) (p := q3)
      show t_X d 92 30 lv [oI (tH B n q3)] g3 P
      refine t_0 zis150_30 rfl (pq_b (by decide)) ?_
      refine tb_ne zis150_32 (by decide) ⟨by omega, by omega⟩ ⟨by omega, by omega⟩ (fun c11 => ?_) (fun c11 => ?_)
      · show t_X d 92 39 lv [] g3 P
        refine t_0 zis150_39 rfl rfl ?_
        refine t_2 zis150_40 rfl (w := (px_s1 lv 2 (oI 0), [])) rfl ?_
        replace l0 : px_lg (px_s1 lv 2 (oI 0)) 0 = some (pvR 150) := s1_ne (by decide) (fun _ => rfl) l0
        replace l1 : px_lg (px_s1 lv 2 (oI 0)) 1 = some (oI ((δ : Int))) := s1_ne (by decide) (fun _ => rfl) l1
        replace l3 : px_lg (px_s1 lv 2 (oI 0)) 3 = some (oI ((k : Int))) := s1_ne (by decide) (fun _ => rfl) l3
        have l2 : px_lg (px_s1 lv 2 (oI 0)) 2 = some (oI 0) := s1_eq
        generalize px_s1 lv 2 (oI 0) = lv12 at l0 l1 l3 l2 ⊢
        show t_X d 92 41 lv12 [] g3 P
        refine t_0 zis150_41 rfl (ld_a l0) ?_
        refine t_0 zis150_42 rfl rfl ?_
        refine t_0 zis150_43 rfl (pq_cv eo_150 rfl (show cF g3 150 4 = q3 from S_f hS3 0 (Nat.le_of_ble_eq_true rfl))) ?_
        show t_X d 92 46 lv12 [oI (q3), pvR 150] g3 P
        refine t_0 zis150_46 rfl (ld_i l2) ?_
        refine tz_eq zis150_47 (by decide) ⟨by omega, by omega⟩ (fun c13 => ?_) (fun c13 => absurd c13 (by omega))
        show t_X d 92 54 lv12 [oI (q3), pvR 150] g3 P
        refine t_0 zis150_54 rfl rfl ?_
        refine t_0 zis150_55 rfl pq_add ?_
        rw [show q3 + 0 = q3 by omega]
        refine ts_f (n := 0) rfl rfl (by decide) zis150_56 rfl eo_150 hS3 wt_tW150_150_4 gy_150_4 (by decide) ⟨by omega, by omega⟩ (fun g14 hS14 => ?_)
        replace hS14 : tS150 g0 g14 q3 m3 0 c3 := hS14
        show t_X d 92 59 lv12 [] g14 P
        refine t_2 zis150_59 rfl (w := (px_s1 lv12 3 (oI ((k : Int) + 1)), [])) (pq_inc l3 (by decide)) ?_
        replace l0 : px_lg (px_s1 lv12 3 (oI ((k : Int) + 1))) 0 = some (pvR 150) := s1_ne (by decide) (fun _ => rfl) l0
        replace l1 : px_lg (px_s1 lv12 3 (oI ((k : Int) + 1))) 1 = some (oI ((δ : Int))) := s1_ne (by decide) (fun _ => rfl) l1
        replace l2 : px_lg (px_s1 lv12 3 (oI ((k : Int) + 1))) 2 = some (oI 0) := s1_ne (by decide) (fun _ => rfl) l2
        have l3 : px_lg (px_s1 lv12 3 (oI ((k : Int) + 1))) 3 = some (oI ((k : Int) + 1)) := s1_eq
        generalize px_s1 lv12 3 (oI ((k : Int) + 1)) = lv15 at l0 l1 l2 l3 ⊢
        show t_X d 92 62 lv15 [] g14 P
        refine t_1 zis150_62 rfl (pb_goto (pc := 62) (by decide)) ?_
        show t_X d 92 4 lv15 [] g14 P
        exact ix150 (by omega) (hO _ _ _ _ hS14 ⟨by omega, by omega, by omega, by omega, by omega, by omega⟩ ((tCl_x _ _).2.2.2.2.2.1 δ p m c _ _ _ ⟨by omega, by omega, by omega, by omega, by omega, by omega⟩ t3 (by omega))) l0 l2 l3
      · show t_X d 92 35 lv [] g3 P
        refine t_0 zis150_35 rfl rfl ?_
        refine t_1 zis150_36 rfl (pb_goto (pc := 36) (by decide)) ?_
        show t_X d 92 40 lv [oI 1] g3 P
        refine t_2 zis150_40 rfl (w := (px_s1 lv 2 (oI 1), [])) rfl ?_
        replace l0 : px_lg (px_s1 lv 2 (oI 1)) 0 = some (pvR 150) := s1_ne (by decide) (fun _ => rfl) l0
        replace l1 : px_lg (px_s1 lv 2 (oI 1)) 1 = some (oI ((δ : Int))) := s1_ne (by decide) (fun _ => rfl) l1
        replace l3 : px_lg (px_s1 lv 2 (oI 1)) 3 = some (oI ((k : Int))) := s1_ne (by decide) (fun _ => rfl) l3
        have l2 : px_lg (px_s1 lv 2 (oI 1)) 2 = some (oI 1) := s1_eq
        generalize px_s1 lv 2 (oI 1) = lv16 at l0 l1 l3 l2 ⊢
        show t_X d 92 41 lv16 [] g3 P
        refine t_0 zis150_41 rfl (ld_a l0) ?_
        refine t_0 zis150_42 rfl rfl ?_
        refine t_0 zis150_43 rfl (pq_cv eo_150 rfl (show cF g3 150 4 = q3 from S_f hS3 0 (Nat.le_of_ble_eq_true rfl))) ?_
        show t_X d 92 46 lv16 [oI (q3), pvR 150] g3 P
        refine t_0 zis150_46 rfl (ld_i l2) ?_
        refine tz_eq zis150_47 (by decide) ⟨by omega, by omega⟩ (fun c17 => absurd c17 (by omega)) (fun c17 => ?_)
        show t_X d 92 50 lv16 [oI (q3), pvR 150] g3 P
        refine t_0 zis150_50 rfl rfl ?_
        refine t_1 zis150_51 rfl (pb_goto (pc := 51) (by decide)) ?_
        show t_X d 92 55 lv16 [oI 1, oI (q3), pvR 150] g3 P
        refine t_0 zis150_55 rfl pq_add ?_
        refine ts_f (n := 0) rfl rfl (by decide) zis150_56 rfl eo_150 hS3 wt_tW150_150_4 gy_150_4 (by decide) ⟨by omega, by omega⟩ (fun g18 hS18 => ?_)
        replace hS18 : tS150 g0 g18 (q3 + 1) m3 0 c3 := hS18
        show t_X d 92 59 lv16 [] g18 P
        refine t_2 zis150_59 rfl (w := (px_s1 lv16 3 (oI ((k : Int) + 1)), [])) (pq_inc l3 (by decide)) ?_
        replace l0 : px_lg (px_s1 lv16 3 (oI ((k : Int) + 1))) 0 = some (pvR 150) := s1_ne (by decide) (fun _ => rfl) l0
        replace l1 : px_lg (px_s1 lv16 3 (oI ((k : Int) + 1))) 1 = some (oI ((δ : Int))) := s1_ne (by decide) (fun _ => rfl) l1
        replace l2 : px_lg (px_s1 lv16 3 (oI ((k : Int) + 1))) 2 = some (oI 1) := s1_ne (by decide) (fun _ => rfl) l2
        have l3 : px_lg (px_s1 lv16 3 (oI ((k : Int) + 1))) 3 = some (oI ((k : Int) + 1)) := s1_eq
        generalize px_s1 lv16 3 (oI ((k : Int) + 1)) = lv19 at l0 l1 l2 l3 ⊢
        show t_X d 92 62 lv19 [] g18 P
        refine t_1 zis150_62 rfl (pb_goto (pc := 62) (by decide)) ?_
        show t_X d 92 4 lv19 [] g18 P
        refine ih (k + 1) _ _ _ _ _ _ (by omega) (by omega) hS18 ⟨by omega, by omega⟩ ⟨by omega, by omega⟩ (fun g9 f9 q9 m9 c9 hS9 u9 w9 t9 => ?_) (fun g9 q9 m9 c9 hS9 Q9 t9 => ?_) l0 l1 l2 (l3.trans (congrArg (fun x => some (oI x)) (by omega)))
        · exact hF _ _ _ _ _ hS9 u9 w9 ((tCl_x _ _).2.2.2.2.2.2 δ p m c _ _ _ _ ⟨by omega, by omega, by omega, by omega, by omega, by omega⟩ t3 (by omega) t9)
        · unfold tQ at Q9
          exact hO _ _ _ _ hS9 ⟨by omega, by omega, by omega, by omega, by omega, by omega⟩ ((tCl_x _ _).2.2.2.2.2.2 δ p m c _ _ _ _ ⟨by omega, by omega, by omega, by omega, by omega, by omega⟩ t3 (by omega) t9)
theorem tI150_s {δ : Nat} {g0 : pH} {B : tC} {n : Int} (hB : tB150 g0 B n) (hI : δ < 4 → tI150 g0 B n (δ + 1)) (hδ : δ ≤ 4) : tI150 g0 B n δ := by
  intro d hd g p m c hS hp hm P hF hO lv l0 l1
  have hn1 := hB.2.2.2.2.1
  refine t_0 zis150_0 rfl rfl ?_
  refine t_2 zis150_1 rfl (w := (px_s1 lv 2 (oI 1), [])) rfl ?_
  replace l0 : px_lg (px_s1 lv 2 (oI 1)) 0 = some (pvR 150) := s1_ne (by decide) (fun _ => rfl) l0
  replace l1 : px_lg (px_s1 lv 2 (oI 1)) 1 = some (oI ((δ : Int))) := s1_ne (by decide) (fun _ => rfl) l1
  have l2 : px_lg (px_s1 lv 2 (oI 1)) 2 = some (oI 1) := s1_eq
  generalize px_s1 lv 2 (oI 1) = lv1 at l0 l1 l2 ⊢
  show t_X d 92 2 lv1 [] g P
  refine t_0 zis150_2 rfl rfl ?_
  refine t_2 zis150_3 rfl (w := (px_s1 lv1 3 (oI 0), [])) rfl ?_
  replace l0 : px_lg (px_s1 lv1 3 (oI 0)) 0 = some (pvR 150) := s1_ne (by decide) (fun _ => rfl) l0
  replace l1 : px_lg (px_s1 lv1 3 (oI 0)) 1 = some (oI ((δ : Int))) := s1_ne (by decide) (fun _ => rfl) l1
  replace l2 : px_lg (px_s1 lv1 3 (oI 0)) 2 = some (oI 1) := s1_ne (by decide) (fun _ => rfl) l2
  have l3 : px_lg (px_s1 lv1 3 (oI 0)) 3 = some (oI 0) := s1_eq
  generalize px_s1 lv1 3 (oI 0) = lv2 at l0 l1 l2 l3 ⊢
  show t_X d 92 4 lv2 [] g P
  exact il150 hB hI hδ hd 121 0 _ _ _ _ _ _ (by omega) (by omega) hS hp hm hF hO l0 l1 l2 l3
theorem tI150_0 {g0 : pH} {B : tC} {n : Int} (hB : tB150 g0 B n) : tI150 g0 B n 0 := tI150_s hB (fun _ => tI150_s hB (fun _ => tI150_s hB (fun _ => tI150_s hB (fun _ => tI150_s hB (fun h => absurd h (by omega)) (by omega)) (by omega)) (by omega)) (by omega)) (by omega)
set_option maxHeartbeats 4000000 in
theorem rd150_run {d : Nat} (hd : 17 ≤ d) {h0 g : pH} (hJ : J_ tV150 h0 g) {n : Int} (hn : 1 ≤ n ∧ n ≤ 120) {P : Option pv × pH → Prop} (hF : ∀ (g1 : pH) (f : Int) (c : tC), J_ tV150 h0 g1 → (f < 0 ∧ -9999 ≤ f) → tIs (tH (fA g 1) n) n 0 0 0 c (.inl f) → P (some (oI f), g1)) (hE : ∀ (g1 : pH) (p m : Int) (c c1 : tC), J_ tV150 h0 g1 → 0 ≤ p → p < n → 0 ≤ m ∧ m ≤ 60 → tIs (tH (fA g 1) n) n 0 0 0 c (.inr (p, m, c1)) → P (some (oI (-1000 - p)), g1)) (hO : ∀ (g1 : pH) (m : Int) (c c1 : tC), J_ tV150 h0 g1 → tIs (tH (fA g 1) n) n 0 0 0 c (.inr (n, m, c1)) → cF g1 150 1 = m → fA g1 151 = c1 → 1 ≤ m ∧ m ≤ 60 → P (some (oI m), g1)) {lv : List (Nat × pv)} (l0 : px_lg lv 0 = some (pvR 150)) (l1 : px_lg lv 1 = some (pvR 1)) (l2 : px_lg lv 2 = some (oI n)) : t_X d 90 0 lv [] g P := by
  have hG := hJ.1
  refine t_0 zrd150_0 rfl (ld_a l0) ?_
  refine t_0 zrd150_1 rfl (ld_a l1) ?_
  refine ts_ra (ks := []) (as := []) zrd150_2 rfl eo_150 ⟨hJ, fun i hi => absurd hi (Nat.not_lt_zero _), fun i hi => absurd hi (Nat.not_lt_zero _)⟩ (vs := []) (cs := []) tV150_b.2.2.1 (by rw [gt_150_2]; exact ⟨by decide, by decide, Or.inr (by decide)⟩) (fun g1 J0 e1 => ?_)
  have J1 := J0.1
  have r1 : g1.2.2.1 150 2 = some 1 := by rw [e1]; exact (pu_rr : pu g.2.2.1 150 2 (some 1) 150 2 = some 1)
  have a1 : fA g1 1 = fA g 1 := by rw [e1]; rfl
  have hS1 : sE tu150k tq150a tU150 g1 g1 [cF g1 150 4, cF g1 150 1, cF g1 150 5, cF g1 150 3] [fA g1 151] := S_0 J1.1
  clear e1 J0
  show t_X d 90 5 lv [] g1 P
  refine t_0 zrd150_5 rfl (ld_a l0) ?_
  refine t_0 zrd150_6 rfl (ld_i l2) ?_
  refine t_0 zrd150_7 rfl (ld_a l1) ?_
  refine t_0 zrd150_8 rfl (pq_ln ez_1 rfl) ?_
  show t_X d 90 9 lv [oI 260, oI (n), pvR 150] g1 P
  refine t_0 zrd150_9 rfl (pq_mi (by omega) (Nat.le_of_ble_eq_true rfl) ⟨by omega, by omega⟩ ⟨by omega, by omega⟩) ?_
  rw [if_neg (show ¬ (260 : Int) < n by omega)]
  show t_X d 90 12 lv [oI (n), pvR 150] g1 P
  refine ts_f (n := 3) rfl rfl (by decide) zrd150_12 rfl eo_150 hS1 wt_tU150_150_3 gy_150_3 (by decide) ⟨by omega, by omega⟩ (fun g21 hS21 => ?_)
  replace hS21 : sE tu150k tq150a tU150 g1 g21 [cF g1 150 4, cF g1 150 1, cF g1 150 5, n] [fA g1 151] := hS21
  show t_X d 90 15 lv [] g21 P
  refine t_0 zrd150_15 rfl (ld_a l0) ?_
  refine t_0 zrd150_16 rfl rfl ?_
  refine ts_f (n := 0) rfl rfl (by decide) zrd150_17 rfl eo_150 hS21 wt_tU150_150_4 gy_150_4 (by decide) ⟨by omega, by omega⟩ (fun g22 hS22 => ?_)
  replace hS22 : sE tu150k tq150a tU150 g1 g22 [0, cF g1 150 1, cF g1 150 5, n] [fA g1 151] := hS22
  show t_X d 90 20 lv [] g22 P
  refine t_0 zrd150_20 rfl (ld_a l0) ?_
  refine t_0 zrd150_21 rfl rfl ?_
  refine ts_f (n := 2) rfl rfl (by decide) zrd150_22 rfl eo_150 hS22 wt_tU150_150_5 gy_150_5 (by decide) ⟨by omega, by omega⟩ (fun g23 hS23 => ?_)
  replace hS23 : sE tu150k tq150a tU150 g1 g23 [0, cF g1 150 1, 0, n] [fA g1 151] := hS23
  show t_X d 90 25 lv [] g23 P
  refine t_0 zrd150_25 rfl (ld_a l0) ?_
  refine t_0 zrd150_26 rfl rfl ?_
  refine ts_f (n := 1) rfl rfl (by decide) zrd150_27 rfl eo_150 hS23 wt_tU150_150_1 gy_150_1 (by decide) ⟨by omega, by omega⟩ (fun g24 hS24 => ?_)
  replace hS24 : sE tu150k tq150a tU150 g1 g24 [0, 0, 0, n] [fA g1 151] := hS24
  show t_X d 90 30 lv [] g24 P
  refine t_0 zrd150_30 rfl (ld_a l0) ?_
  refine t_0 zrd150_31 rfl rfl ?_
  have G6 := (S_J hS24).1
  have M6 := (S_J hS24).2
  have hB : tB150 g24 (fA g 1) n := ⟨S_f hS24 3 (Nat.le_of_ble_eq_true rfl), (M6.1 150 2 tV150_b.2.2.2.2.1).2.2.trans r1, (fA_M M6 tV150_b.2.2.2.2.2.1).trans a1, by omega, by omega, fun j hj => gb_a hG el_1 hj gA_1⟩
  have hS : sE tq150k tq150a tW150 g24 g24 [cF g24 150 4, cF g24 150 1, cF g24 150 5] [fA g24 151] := S_0 G6
  rw [(show cF g24 150 4 = 0 from S_f hS24 0 (Nat.le_of_ble_eq_true rfl)), (show cF g24 150 1 = 0 from S_f hS24 1 (Nat.le_of_ble_eq_true rfl)), (show cF g24 150 5 = 0 from S_f hS24 2 (Nat.le_of_ble_eq_true rfl))] at hS
  have J6 : J_ tV150 h0 g24 := J_up tV150_b.2.1 J1 (S_J hS24)
  generalize hc0 : fA g24 151 = c0 at hS
  refine t_3 zrd150_32 rfl (ar := ([pvR 150, oI 0], [])) (pcal_w (as := [oI 0]) rfl rfl rfl eo_150) ⟨by omega, Nat.le_of_ble_eq_true rfl, Nat.le_of_ble_eq_true rfl, rfl⟩ ?_
  refine tI150_0 hB _ (by omega) _ _ _ _ hS ⟨by omega, by omega⟩ ⟨by omega, by omega⟩ _ (fun g9 f9 q9 m9 c9 hS9 u9 w9 t9 => ?_) (fun g9 q9 m9 c9 hS9 Q9 t9 => ?_) _ rfl rfl
  · replace hS9 : tS150 g24 g9 q9 m9 f9 c9 := hS9
    have y9 := (cm150 hB hS9).2.2.1
    show t_X d 90 35 lv [] g9 P
    refine t_0 zrd150_35 rfl (ld_a l0) ?_
    refine t_0 zrd150_36 rfl (pq_cv eo_150 rfl (show cF g9 150 4 = q9 from S_f hS9 0 (Nat.le_of_ble_eq_true rfl))) ?_
    show t_X d 90 39 lv [oI (q9)] g9 P
    refine t_0 zrd150_39 rfl (ld_a l0) ?_
    refine t_0 zrd150_40 rfl (pq_cv eo_150 rfl (ce150 hB hS9 : cF g9 150 3 = n)) ?_
    show t_X d 90 43 lv [oI (n), oI (q9)] g9 P
    refine tb_ge zrd150_43 (by decide) ⟨by omega, by omega⟩ ⟨by omega, by omega⟩ (fun c25 => ?_) (fun c25 => ?_)
    · show t_X d 90 55 lv [] g9 P
      refine t_0 zrd150_55 rfl (ld_a l0) ?_
      refine t_0 zrd150_56 rfl (pq_cv eo_150 rfl (show cF g9 150 5 = f9 from S_f hS9 2 (Nat.le_of_ble_eq_true rfl))) ?_
      show t_X d 90 59 lv [oI (f9)] g9 P
      refine tz_ne zrd150_59 (by decide) ⟨by omega, by omega⟩ (fun c26 => ?_) (fun c26 => absurd c26 (by omega))
      show t_X d 90 69 lv [] g9 P
      refine t_0 zrd150_69 rfl (ld_a l0) ?_
      refine t_0 zrd150_70 rfl (pq_cv eo_150 rfl (show cF g9 150 5 = f9 from S_f hS9 2 (Nat.le_of_ble_eq_true rfl))) ?_
      show t_X d 90 73 lv [oI (f9)] g9 P
      refine t_5 zrd150_73 rfl rfl ?_
      exact hF _ _ _ (J_up tV150_b.1 J6 (S_J hS9)) ⟨u9, w9⟩ t9
    · show t_X d 90 46 lv [] g9 P
      refine t_0 zrd150_46 rfl (ld_a l0) ?_
      refine t_0 zrd150_47 rfl rfl ?_
      refine t_0 zrd150_48 rfl (ld_a l0) ?_
      refine t_0 zrd150_49 rfl (pq_cv eo_150 rfl (show cF g9 150 4 = q9 from S_f hS9 0 (Nat.le_of_ble_eq_true rfl))) ?_
      show t_X d 90 52 lv [oI (q9), oI 1, pvR 150] g9 P
      refine t_3 zrd150_52 rfl (ar := ([pvR 150, oI 1, oI (q9)], [])) (pcal_w (as := [oI (q9), oI 1]) rfl rfl rfl eo_150) ⟨by omega, Nat.le_of_ble_eq_true rfl, Nat.le_of_ble_eq_true rfl, rfl⟩ ?_
      refine fn150_run hB hS9 (by omega) (by omega) (a := 0) (b := 0) ?_ rfl
      show t_X d 90 55 lv [] g9 P
      refine t_0 zrd150_55 rfl (ld_a l0) ?_
      refine t_0 zrd150_56 rfl (pq_cv eo_150 rfl (show cF g9 150 5 = f9 from S_f hS9 2 (Nat.le_of_ble_eq_true rfl))) ?_
      show t_X d 90 59 lv [oI (f9)] g9 P
      refine tz_ne zrd150_59 (by decide) ⟨by omega, by omega⟩ (fun c28 => ?_) (fun c28 => absurd c28 (by omega))
      show t_X d 90 69 lv [] g9 P
      refine t_0 zrd150_69 rfl (ld_a l0) ?_
      refine t_0 zrd150_70 rfl (pq_cv eo_150 rfl (show cF g9 150 5 = f9 from S_f hS9 2 (Nat.le_of_ble_eq_true rfl))) ?_
      show t_X d 90 73 lv [oI (f9)] g9 P
      refine t_5 zrd150_73 rfl rfl ?_
      exact hF _ _ _ (J_up tV150_b.1 J6 (S_J hS9)) ⟨u9, w9⟩ t9
  · replace hS9 : tS150 g24 g9 q9 m9 0 c9 := hS9
    have R9 := Q9
    unfold tQ at R9
    show t_X d 90 35 lv [] g9 P
    refine t_0 zrd150_35 rfl (ld_a l0) ?_
    refine t_0 zrd150_36 rfl (pq_cv eo_150 rfl (show cF g9 150 4 = q9 from S_f hS9 0 (Nat.le_of_ble_eq_true rfl))) ?_
    show t_X d 90 39 lv [oI (q9)] g9 P
    refine t_0 zrd150_39 rfl (ld_a l0) ?_
    refine t_0 zrd150_40 rfl (pq_cv eo_150 rfl (ce150 hB hS9 : cF g9 150 3 = n)) ?_
    show t_X d 90 43 lv [oI (n), oI (q9)] g9 P
    refine tb_ge zrd150_43 (by decide) ⟨by omega, by omega⟩ ⟨by omega, by omega⟩ (fun c29 => ?_) (fun c29 => ?_)
    · show t_X d 90 55 lv [] g9 P
      refine t_0 zrd150_55 rfl (ld_a l0) ?_
      refine t_0 zrd150_56 rfl (pq_cv eo_150 rfl (show cF g9 150 5 = 0 from S_f hS9 2 (Nat.le_of_ble_eq_true rfl))) ?_
      show t_X d 90 59 lv [oI 0] g9 P
      refine tz_ne zrd150_59 (by decide) ⟨by omega, by omega⟩ (fun c30 => absurd c30 (by omega)) (fun c30 => ?_)
      show t_X d 90 62 lv [] g9 P
      refine t_0 zrd150_62 rfl (ld_a l0) ?_
      refine t_0 zrd150_63 rfl (pq_cv eo_150 rfl (show cF g9 150 1 = m9 from S_f hS9 1 (Nat.le_of_ble_eq_true rfl))) ?_
      show t_X d 90 66 lv [oI (m9)] g9 P
      refine t_1 zrd150_66 rfl (pb_goto (pc := 66) (by decide)) ?_
      show t_X d 90 73 lv [oI (m9)] g9 P
      refine t_5 zrd150_73 rfl rfl ?_
      have e9 : q9 = n := by omega
      rw [e9] at t9
      exact hO _ _ _ _ (J_up tV150_b.1 J6 (S_J hS9)) t9 (S_f hS9 1 (Nat.le_of_ble_eq_true rfl)) (S_a hS9 0 (Nat.le_of_ble_eq_true rfl)) (by omega)
    · show t_X d 90 46 lv [] g9 P
      refine t_0 zrd150_46 rfl (ld_a l0) ?_
      refine t_0 zrd150_47 rfl rfl ?_
      refine t_0 zrd150_48 rfl (ld_a l0) ?_
      refine t_0 zrd150_49 rfl (pq_cv eo_150 rfl (show cF g9 150 4 = q9 from S_f hS9 0 (Nat.le_of_ble_eq_true rfl))) ?_
      show t_X d 90 52 lv [oI (q9), oI 1, pvR 150] g9 P
      refine t_3 zrd150_52 rfl (ar := ([pvR 150, oI 1, oI (q9)], [])) (pcal_w (as := [oI (q9), oI 1]) rfl rfl rfl eo_150) ⟨by omega, Nat.le_of_ble_eq_true rfl, Nat.le_of_ble_eq_true rfl, rfl⟩ ?_
      refine fl150_run hB hS9 ⟨by omega, by omega⟩ ⟨by omega, by omega⟩ (fun g31 hS31 => ?_) rfl rfl rfl
      replace hS31 : tS150 g24 g31 q9 m9 (-1000 * 1 - q9) c9 := hS31
      show t_X d 90 55 lv [] g31 P
      refine t_0 zrd150_55 rfl (ld_a l0) ?_
      refine t_0 zrd150_56 rfl (pq_cv eo_150 rfl (show cF g31 150 5 = -1000 * 1 - q9 from S_f hS31 2 (Nat.le_of_ble_eq_true rfl))) ?_
      show t_X d 90 59 lv [oI (-1000 * 1 - q9)] g31 P
      refine tz_ne zrd150_59 (by decide) ⟨by omega, by omega⟩ (fun c32 => ?_) (fun c32 => absurd c32 (by omega))
      show t_X d 90 69 lv [] g31 P
      refine t_0 zrd150_69 rfl (ld_a l0) ?_
      refine t_0 zrd150_70 rfl (pq_cv eo_150 rfl (show cF g31 150 5 = -1000 * 1 - q9 from S_f hS31 2 (Nat.le_of_ble_eq_true rfl))) ?_
      show t_X d 90 73 lv [oI (-1000 * 1 - q9)] g31 P
      refine t_5 zrd150_73 rfl rfl ?_
      rw [show -1000 * 1 - q9 = -1000 - q9 by omega]
      exact hE _ _ _ _ _ (J_up tV150_b.1 J6 (S_J hS31)) (by omega) (by omega) ⟨by omega, by omega⟩ t9
theorem ix152 {d : Nat} {g : pH} {k : Int} (hk : 0 ≤ k ∧ k ≤ 1000) {P : Option pv × pH → Prop} (hP : P (none, g)) {lv : List (Nat × pv)} (l0 : px_lg lv 0 = some (pvR 152)) (l2 : px_lg lv 2 = some (oI 0)) (l3 : px_lg lv 3 = some (oI k)) : t_X d 92 4 lv [] g P := by
  refine t_0 zis152_4 rfl (ld_i l3) ?_
  refine t_0 zis152_5 rfl (pq_b (by decide)) ?_
  refine tb_gt zis152_7 (by decide) ⟨by omega, by omega⟩ ⟨by omega, by omega⟩ (fun c1 => ?_) (fun c1 => ?_)
  · show t_X d 92 65 lv [] g P
    refine t_5 zis152_65 rfl rfl ?_
    exact hP
  · show t_X d 92 10 lv [] g P
    refine t_0 zis152_10 rfl (ld_i l2) ?_
    refine tz_eq zis152_11 (by decide) ⟨by omega, by omega⟩ (fun c2 => ?_) (fun c2 => absurd c2 (by omega))
    show t_X d 92 65 lv [] g P
    refine t_5 zis152_65 rfl rfl ?_
    exact hP
set_option maxHeartbeats 4000000 in
theorem il152 {δ : Nat} {g0 : pH} {B : tC} {n : Int} (hB : tB152 g0 B n) (hI : δ < 4 → tI152 g0 B n (δ + 1)) (hδ : δ ≤ 4) {d : Nat} (hd : 4 + 3 * (4 - δ) ≤ d) : ∀ (y k : Nat) (g : pH) (lv : List (Nat × pv)) (p m : Int) (c : tC) (P : Option pv × pH → Prop), n - p ≤ y → (k : Int) ≤ p → tS152 g0 g p m 0 c → 0 ≤ p ∧ p ≤ n → 0 ≤ m ∧ m ≤ 60 → (∀ (g1 : pH) (f q m1 : Int) (c1 : tC), tS152 g0 g1 q m1 f c1 → f < 0 → -9999 ≤ f → tIs (tH B n) n δ p m c (.inl f) → P (none, g1)) → (∀ (g1 : pH) (q m1 : Int) (c1 : tC), tS152 g0 g1 q m1 0 c1 → tQ n p m q m1 → tIs (tH B n) n δ p m c (.inr (q, m1, c1)) → P (none, g1)) → px_lg lv 0 = some (pvR 152) → px_lg lv 1 = some (oI (δ : Int)) → px_lg lv 2 = some (oI 1) → px_lg lv 3 = some (oI (k : Int)) → t_X d 92 4 lv [] g P := by
  intro y
  induction y with
  | zero =>
    intro k g lv p m c P hy hk hS hp hm hF hO l0 l1 l2 l3
    obtain ⟨hn0, hn1, hp1, hm1, hH⟩ := cm152 hB hS
    refine t_0 zis152_4 rfl (ld_i l3) ?_
    refine t_0 zis152_5 rfl (pq_b (by decide)) ?_
    refine tb_gt zis152_7 (by decide) ⟨by omega, by omega⟩ ⟨by omega, by omega⟩ (fun c1 => absurd c1 (by omega)) (fun c1 => ?_)
    show t_X d 92 10 lv [] g P
    refine t_0 zis152_10 rfl (ld_i l2) ?_
    refine tz_eq zis152_11 (by decide) ⟨by omega, by omega⟩ (fun c2 => absurd c2 (by omega)) (fun c2 => ?_)
    show t_X d 92 14 lv [] g P
    refine t_0 zis152_14 rfl (ld_a l0) ?_
    refine t_0 zis152_15 rfl (ld_i l1) ?_
    refine t_3 zis152_16 rfl (ar := ([pvR 152, oI ((δ : Int))], [])) (pcal_w (as := [oI ((δ : Int))]) rfl rfl rfl eo_152) ⟨by omega, Nat.le_of_ble_eq_true rfl, Nat.le_of_ble_eq_true rfl, rfl⟩ ?_
    refine it152_run hB hS ⟨by omega, by omega⟩ hm hI hδ (by omega) (fun g3 f3 q3 m3 c3 hS3 u3 w3 t3 => ?_) (fun g3 q3 m3 c3 hS3 Q3 t3 => ?_) rfl rfl
    · replace hS3 : tS152 g0 g3 q3 m3 f3 c3 := hS3
      have y3 := (cm152 hB hS3).2.2.1
      show t_X d 92 19 lv [] g3 P
      refine t_0 zis152_19 rfl (ld_a l0) ?_
      refine t_0 zis152_20 rfl (pq_cv eo_152 rfl (show cF g3 152 5 = f3 from S_f hS3 2 (Nat.le_of_ble_eq_true rfl))) ?_
      show t_X d 92 23 lv [oI (f3)] g3 P
      refine tz_ne zis152_23 (by decide) ⟨by omega, by omega⟩ (fun c4 => ?_) (fun c4 => absurd c4 (by omega))
      show t_X d 92 39 lv [] g3 P
      refine t_0 zis152_39 rfl rfl ?_
      refine t_2 zis152_40 rfl (w := (px_s1 lv 2 (oI 0), [])) rfl ?_
      replace l0 : px_lg (px_s1 lv 2 (oI 0)) 0 = some (pvR 152) := s1_ne (by decide) (fun _ => rfl) l0
      replace l1 : px_lg (px_s1 lv 2 (oI 0)) 1 = some (oI ((δ : Int))) := s1_ne (by decide) (fun _ => rfl) l1
      replace l3 : px_lg (px_s1 lv 2 (oI 0)) 3 = some (oI ((k : Int))) := s1_ne (by decide) (fun _ => rfl) l3
      have l2 : px_lg (px_s1 lv 2 (oI 0)) 2 = some (oI 0) := s1_eq
      generalize px_s1 lv 2 (oI 0) = lv5 at l0 l1 l3 l2 ⊢
      show t_X d 92 41 lv5 [] g3 P
      refine t_0 zis152_41 rfl (ld_a l0) ?_
      refine t_0 zis152_42 rfl rfl ?_
      refine t_0 zis152_43 rfl (pq_cv eo_152 rfl (show cF g3 152 4 = q3 from S_f hS3 0 (Nat.le_of_ble_eq_true rfl))) ?_
      show t_X d 92 46 lv5 [oI (q3), pvR 152] g3 P
      refine t_0 zis152_46 rfl (ld_i l2) ?_
      refine tz_eq zis152_47 (by decide) ⟨by omega, by omega⟩ (fun c6 => ?_) (fun c6 => absurd c6 (by omega))
      show t_X d 92 54 lv5 [oI (q3), pvR 152] g3 P
      refine t_0 zis152_54 rfl rfl ?_
      refine t_0 zis152_55 rfl pq_add ?_
      rw [show q3 + 0 = q3 by omega]
      refine ts_f (n := 0) rfl rfl (by decide) zis152_56 rfl eo_152 hS3 wt_tW152_152_4 gy_152_4 (by decide) ⟨by omega, by omega⟩ (fun g7 hS7 => ?_)
      replace hS7 : tS152 g0 g7 q3 m3 f3 c3 := hS7
      show t_X d 92 59 lv5 [] g7 P
      refine t_2 zis152_59 rfl (w := (px_s1 lv5 3 (oI ((k : Int) + 1)), [])) (pq_inc l3 (by decide)) ?_
      replace l0 : px_lg (px_s1 lv5 3 (oI ((k : Int) + 1))) 0 = some (pvR 152) := s1_ne (by decide) (fun _ => rfl) l0
      replace l1 : px_lg (px_s1 lv5 3 (oI ((k : Int) + 1))) 1 = some (oI ((δ : Int))) := s1_ne (by decide) (fun _ => rfl) l1
      replace l2 : px_lg (px_s1 lv5 3 (oI ((k : Int) + 1))) 2 = some (oI 0) := s1_ne (by decide) (fun _ => rfl) l2
      have l3 : px_lg (px_s1 lv5 3 (oI ((k : Int) + 1))) 3 = some (oI ((k : Int) + 1)) := s1_eq
      generalize px_s1 lv5 3 (oI ((k : Int) + 1)) = lv8 at l0 l1 l2 l3 ⊢
      show t_X d 92 62 lv8 [] g7 P
      refine t_1 zis152_62 rfl (pb_goto (pc := 62) (by decide)) ?_
      show t_X d 92 4 lv8 [] g7 P
      exact ix152 (by omega) (hF _ _ _ _ _ hS7 (by omega) (by omega) ((tCl_x _ _).2.2.2.2.1 δ p m c _ t3)) l0 l2 l3
    · replace hS3 : tS152 g0 g3 q3 m3 0 c3 := hS3
      show t_X d 92 19 lv [] g3 P
      refine t_0 zis152_19 rfl (ld_a l0) ?_
      refine t_0 zis152_20 rfl (pq_cv eo_152 rfl (show cF g3 152 5 = 0 from S_f hS3 2 (Nat.le_of_ble_eq_true rfl))) ?_
      show t_X d 92 23 lv [oI 0] g3 P
      refine tz_ne zis152_23 (by decide) ⟨by omega, by omega⟩ (fun c9 => absurd c9 (by omega)) (fun c9 => ?_)
      show t_X d 92 26 lv [] g3 P
      refine t_0 zis152_26 rfl (ld_a l0) ?_
      refine t_3 zis152_27 rfl (ar := ([pvR 152], [])) (pcal_w (as := []) rfl rfl rfl eo_152) ⟨by omega, Nat.le_of_ble_eq_true rfl, Nat.le_of_ble_eq_true rfl, rfl⟩ ?_
      refine sg152_run hB hS3 ?_ rfl
      have b10 := hH q3 (by omega)
      have z10 := tH_n (B := B) (n := n) (p := q3)
      show t_X d 92 30 lv [oI (tH B n q3)] g3 P
      refine t_0 zis152_30 rfl (pq_b (by decide)) ?_
      refine tb_ne zis152_32 (by decide) ⟨by omega, by omega⟩ ⟨by omega, by omega⟩ (fun c11 => ?_) (fun c11 => ?_)
      · show t_X d 92 39 lv [] g3 P
        refine t_0 zis152_39 rfl rfl ?_
        refine t_2 zis152_40 rfl (w := (px_s1 lv 2 (oI 0), [])) rfl ?_
        replace l0 : px_lg (px_s1 lv 2 (oI 0)) 0 = some (pvR 152) := s1_ne (by decide) (fun _ => rfl) l0
        replace l1 : px_lg (px_s1 lv 2 (oI 0)) 1 = some (oI ((δ : Int))) := s1_ne (by decide) (fun _ => rfl) l1
        replace l3 : px_lg (px_s1 lv 2 (oI 0)) 3 = some (oI ((k : Int))) := s1_ne (by decide) (fun _ => rfl) l3
        have l2 : px_lg (px_s1 lv 2 (oI 0)) 2 = some (oI 0) := s1_eq
        generalize px_s1 lv 2 (oI 0) = lv12 at l0 l1 l3 l2 ⊢
        show t_X d 92 41 lv12 [] g3 P
        refine t_0 zis152_41 rfl (ld_a l0) ?_
        refine t_0 zis152_42 rfl rfl ?_
        refine t_0 zis152_43 rfl (pq_cv eo_152 rfl (show cF g3 152 4 = q3 from S_f hS3 0 (Nat.le_of_ble_eq_true rfl))) ?_
        show t_X d 92 46 lv12 [oI (q3), pvR 152] g3 P
        refine t_0 zis152_46 rfl (ld_i l2) ?_
        refine tz_eq zis152_47 (by decide) ⟨by omega, by omega⟩ (fun c13 => ?_) (fun c13 => absurd c13 (by omega))
        show t_X d 92 54 lv12 [oI (q3), pvR 152] g3 P
        refine t_0 zis152_54 rfl rfl ?_
        refine t_0 zis152_55 rfl pq_add ?_
        rw [show q3 + 0 = q3 by omega]
        refine ts_f (n := 0) rfl rfl (by decide) zis152_56 rfl eo_152 hS3 wt_tW152_152_4 gy_152_4 (by decide) ⟨by omega, by omega⟩ (fun g14 hS14 => ?_)
        replace hS14 : tS152 g0 g14 q3 m3 0 c3 := hS14
        show t_X d 92 59 lv12 [] g14 P
        refine t_2 zis152_59 rfl (w := (px_s1 lv12 3 (oI ((k : Int) + 1)), [])) (pq_inc l3 (by decide)) ?_
        replace l0 : px_lg (px_s1 lv12 3 (oI ((k : Int) + 1))) 0 = some (pvR 152) := s1_ne (by decide) (fun _ => rfl) l0
        replace l1 : px_lg (px_s1 lv12 3 (oI ((k : Int) + 1))) 1 = some (oI ((δ : Int))) := s1_ne (by decide) (fun _ => rfl) l1
        replace l2 : px_lg (px_s1 lv12 3 (oI ((k : Int) + 1))) 2 = some (oI 0) := s1_ne (by decide) (fun _ => rfl) l2
        have l3 : px_lg (px_s1 lv12 3 (oI ((k : Int) + 1))) 3 = some (oI ((k : Int) + 1)) := s1_eq
        generalize px_s1 lv12 3 (oI ((k : Int) + 1)) = lv15 at l0 l1 l2 l3 ⊢
        show t_X d 92 62 lv15 [] g14 P
        refine t_1 zis152_62 rfl (pb_goto (pc := 62) (by decide)) ?_
        show t_X d 92 4 lv15 [] g14 P
        exact ix152 (by omega) (hO _ _ _ _ hS14 ⟨by omega, by omega, by omega, by omega, by omega, by omega⟩ ((tCl_x _ _).2.2.2.2.2.1 δ p m c _ _ _ ⟨by omega, by omega, by omega, by omega, by omega, by omega⟩ t3 (by omega))) l0 l2 l3
      · show t_X d 92 35 lv [] g3 P
        refine t_0 zis152_35 rfl rfl ?_
        refine t_1 zis152_36 rfl (pb_goto (pc := 36) (by decide)) ?_
        show t_X d 92 40 lv [oI 1] g3 P
        refine t_2 zis152_40 rfl (w := (px_s1 lv 2 (oI 1), [])) rfl ?_
        replace l0 : px_lg (px_s1 lv 2 (oI 1)) 0 = some (pvR 152) := s1_ne (by decide) (fun _ => rfl) l0
        replace l1 : px_lg (px_s1 lv 2 (oI 1)) 1 = some (oI ((δ : Int))) := s1_ne (by decide) (fun _ => rfl) l1
        replace l3 : px_lg (px_s1 lv 2 (oI 1)) 3 = some (oI ((k : Int))) := s1_ne (by decide) (fun _ => rfl) l3
        have l2 : px_lg (px_s1 lv 2 (oI 1)) 2 = some (oI 1) := s1_eq
        generalize px_s1 lv 2 (oI 1) = lv16 at l0 l1 l3 l2 ⊢
        show t_X d 92 41 lv16 [] g3 P
        refine t_0 zis152_41 rfl (ld_a l0) ?_
        refine t_0 zis152_42 rfl rfl ?_
        refine t_0 zis152_43 rfl (pq_cv eo_152 rfl (show cF g3 152 4 = q3 from S_f hS3 0 (Nat.le_of_ble_eq_true rfl))) ?_
        show t_X d 92 46 lv16 [oI (q3), pvR 152] g3 P
        refine t_0 zis152_46 rfl (ld_i l2) ?_
        refine tz_eq zis152_47 (by decide) ⟨by omega, by omega⟩ (fun c17 => absurd c17 (by omega)) (fun c17 => ?_)
        show t_X d 92 50 lv16 [oI (q3), pvR 152] g3 P
        refine t_0 zis152_50 rfl rfl ?_
        refine t_1 zis152_51 rfl (pb_goto (pc := 51) (by decide)) ?_
        show t_X d 92 55 lv16 [oI 1, oI (q3), pvR 152] g3 P
        refine t_0 zis152_55 rfl pq_add ?_
        refine ts_f (n := 0) rfl rfl (by decide) zis152_56 rfl eo_152 hS3 wt_tW152_152_4 gy_152_4 (by decide) ⟨by omega, by omega⟩ (fun g18 hS18 => ?_)
        replace hS18 : tS152 g0 g18 (q3 + 1) m3 0 c3 := hS18
        show t_X d 92 59 lv16 [] g18 P
        refine t_2 zis152_59 rfl (w := (px_s1 lv16 3 (oI ((k : Int) + 1)), [])) (pq_inc l3 (by decide)) ?_
        replace l0 : px_lg (px_s1 lv16 3 (oI ((k : Int) + 1))) 0 = some (pvR 152) := s1_ne (by decide) (fun _ => rfl) l0
        replace l1 : px_lg (px_s1 lv16 3 (oI ((k : Int) + 1))) 1 = some (oI ((δ : Int))) := s1_ne (by decide) (fun _ => rfl) l1
        replace l2 : px_lg (px_s1 lv16 3 (oI ((k : Int) + 1))) 2 = some (oI 1) := s1_ne (by decide) (fun _ => rfl) l2
        have l3 : px_lg (px_s1 lv16 3 (oI ((k : Int) + 1))) 3 = some (oI ((k : Int) + 1)) := s1_eq
        generalize px_s1 lv16 3 (oI ((k : Int) + 1)) = lv19 at l0 l1 l2 l3 ⊢
        show t_X d 92 62 lv19 [] g18 P
        refine t_1 zis152_62 rfl (pb_goto (pc := 62) (by decide)) ?_
        show t_X d 92 4 lv19 [] g18 P
        exfalso
        omega
  | succ y ih =>
    intro k g lv p m c P hy hk hS hp hm hF hO l0 l1 l2 l3
    obtain ⟨hn0, hn1, hp1, hm1, hH⟩ := cm152 hB hS
    refine t_0 zis152_4 rfl (ld_i l3) ?_
    refine t_0 zis152_5 rfl (pq_b (by decide)) ?_
    refine tb_gt zis152_7 (by decide) ⟨by omega, by omega⟩ ⟨by omega, by omega⟩ (fun c1 => absurd c1 (by omega)) (fun c1 => ?_)
    show t_X d 92 10 lv [] g P
    refine t_0 zis152_10 rfl (ld_i l2) ?_
    refine tz_eq zis152_11 (by decide) ⟨by omega, by omega⟩ (fun c2 => absurd c2 (by omega)) (fun c2 => ?_)
    show t_X d 92 14 lv [] g P
    refine t_0 zis152_14 rfl (ld_a l0) ?_
    refine t_0 zis152_15 rfl (ld_i l1) ?_
    refine t_3 zis152_16 rfl (ar := ([pvR 152, oI ((δ : Int))], [])) (pcal_w (as := [oI ((δ : Int))]) rfl rfl rfl eo_152) ⟨by omega, Nat.le_of_ble_eq_true rfl, Nat.le_of_ble_eq_true rfl, rfl⟩ ?_
    refine it152_run hB hS ⟨by omega, by omega⟩ hm hI hδ (by omega) (fun g3 f3 q3 m3 c3 hS3 u3 w3 t3 => ?_) (fun g3 q3 m3 c3 hS3 Q3 t3 => ?_) rfl rfl
    · replace hS3 : tS152 g0 g3 q3 m3 f3 c3 := hS3
      have y3 := (cm152 hB hS3).2.2.1
      show t_X d 92 19 lv [] g3 P
      refine t_0 zis152_19 rfl (ld_a l0) ?_
      refine t_0 zis152_20 rfl (pq_cv eo_152 rfl (show cF g3 152 5 = f3 from S_f hS3 2 (Nat.le_of_ble_eq_true rfl))) ?_
      show t_X d 92 23 lv [oI (f3)] g3 P
      refine tz_ne zis152_23 (by decide) ⟨by omega, by omega⟩ (fun c4 => ?_) (fun c4 => absurd c4 (by omega))
      show t_X d 92 39 lv [] g3 P
      refine t_0 zis152_39 rfl rfl ?_
      refine t_2 zis152_40 rfl (w := (px_s1 lv 2 (oI 0), [])) rfl ?_
      replace l0 : px_lg (px_s1 lv 2 (oI 0)) 0 = some (pvR 152) := s1_ne (by decide) (fun _ => rfl) l0
      replace l1 : px_lg (px_s1 lv 2 (oI 0)) 1 = some (oI ((δ : Int))) := s1_ne (by decide) (fun _ => rfl) l1
      replace l3 : px_lg (px_s1 lv 2 (oI 0)) 3 = some (oI ((k : Int))) := s1_ne (by decide) (fun _ => rfl) l3
      have l2 : px_lg (px_s1 lv 2 (oI 0)) 2 = some (oI 0) := s1_eq
      generalize px_s1 lv 2 (oI 0) = lv5 at l0 l1 l3 l2 ⊢
      show t_X d 92 41 lv5 [] g3 P
      refine t_0 zis152_41 rfl (ld_a l0) ?_
      refine t_0 zis152_42 rfl rfl ?_
      refine t_0 zis152_43 rfl (pq_cv eo_152 rfl (show cF g3 152 4 = q3 from S_f hS3 0 (Nat.le_of_ble_eq_true rfl))) ?_
      show t_X d 92 46 lv5 [oI (q3), pvR 152] g3 P
      refine t_0 zis152_46 rfl (ld_i l2) ?_
      refine tz_eq zis152_47 (by decide) ⟨by omega, by omega⟩ (fun c6 => ?_) (fun c6 => absurd c6 (by omega))
      show t_X d 92 54 lv5 [oI (q3), pvR 152] g3 P
      refine t_0 zis152_54 rfl rfl ?_
      refine t_0 zis152_55 rfl pq_add ?_
      rw [show q3 + 0 = q3 by omega]
      refine ts_f (n := 0) rfl rfl (by decide) zis152_56 rfl eo_152 hS3 wt_tW152_152_4 gy_152_4 (by decide) ⟨by omega, by omega⟩ (fun g7 hS7 => ?_)
      replace hS7 : tS152 g0 g7 q3 m3 f3 c3 := hS7
      show t_X d 92 59 lv5 [] g7 P
      refine t_2 zis152_59 rfl (w := (px_s1 lv5 3 (oI ((k : Int) + 1)), [])) (pq_inc l3 (by decide)) ?_
      replace l0 : px_lg (px_s1 lv5 3 (oI ((k : Int) + 1))) 0 = some (pvR 152) := s1_ne (by decide) (fun _ => rfl) l0
      replace l1 : px_lg (px_s1 lv5 3 (oI ((k : Int) + 1))) 1 = some (oI ((δ : Int))) := s1_ne (by decide) (fun _ => rfl) l1
      replace l2 : px_lg (px_s1 lv5 3 (oI ((k : Int) + 1))) 2 = some (oI 0) := s1_ne (by decide) (fun _ => rfl) l2
      have l3 : px_lg (px_s1 lv5 3 (oI ((k : Int) + 1))) 3 = some (oI ((k : Int) + 1)) := s1_eq
      generalize px_s1 lv5 3 (oI ((k : Int) + 1)) = lv8 at l0 l1 l2 l3 ⊢
      show t_X d 92 62 lv8 [] g7 P
      refine t_1 zis152_62 rfl (pb_goto (pc := 62) (by decide)) ?_
      show t_X d 92 4 lv8 [] g7 P
      exact ix152 (by omega) (hF _ _ _ _ _ hS7 (by omega) (by omega) ((tCl_x _ _).2.2.2.2.1 δ p m c _ t3)) l0 l2 l3
    · replace hS3 : tS152 g0 g3 q3 m3 0 c3 := hS3
      show t_X d 92 19 lv [] g3 P
      refine t_0 zis152_19 rfl (ld_a l0) ?_
      refine t_0 zis152_20 rfl (pq_cv eo_152 rfl (show cF g3 152 5 = 0 from S_f hS3 2 (Nat.le_of_ble_eq_true rfl))) ?_
      show t_X d 92 23 lv [oI 0] g3 P
      refine tz_ne zis152_23 (by decide) ⟨by omega, by omega⟩ (fun c9 => absurd c9 (by omega)) (fun c9 => ?_)
      show t_X d 92 26 lv [] g3 P
      refine t_0 zis152_26 rfl (ld_a l0) ?_
      refine t_3 zis152_27 rfl (ar := ([pvR 152], [])) (pcal_w (as := []) rfl rfl rfl eo_152) ⟨by omega, Nat.le_of_ble_eq_true rfl, Nat.le_of_ble_eq_true rfl, rfl⟩ ?_
      refine sg152_run hB hS3 ?_ rfl
      have b10 := hH q3 (by omega)
      have z10 := tH_n (B := B) (n := n) (p := q3)
      show t_X d 92 30 lv [oI (tH B n q3)] g3 P
      refine t_0 zis152_30 rfl (pq_b (by decide)) ?_
      refine tb_ne zis152_32 (by decide) ⟨by omega, by omega⟩ ⟨by omega, by omega⟩ (fun c11 => ?_) (fun c11 => ?_)
      · show t_X d 92 39 lv [] g3 P
        refine t_0 zis152_39 rfl rfl ?_
        refine t_2 zis152_40 rfl (w := (px_s1 lv 2 (oI 0), [])) rfl ?_
        replace l0 : px_lg (px_s1 lv 2 (oI 0)) 0 = some (pvR 152) := s1_ne (by decide) (fun _ => rfl) l0
        replace l1 : px_lg (px_s1 lv 2 (oI 0)) 1 = some (oI ((δ : Int))) := s1_ne (by decide) (fun _ => rfl) l1
        replace l3 : px_lg (px_s1 lv 2 (oI 0)) 3 = some (oI ((k : Int))) := s1_ne (by decide) (fun _ => rfl) l3
        have l2 : px_lg (px_s1 lv 2 (oI 0)) 2 = some (oI 0) := s1_eq
        generalize px_s1 lv 2 (oI 0) = lv12 at l0 l1 l3 l2 ⊢
        show t_X d 92 41 lv12 [] g3 P
        refine t_0 zis152_41 rfl (ld_a l0) ?_
        refine t_0 zis152_42 rfl rfl ?_
        refine t_0 zis152_43 rfl (pq_cv eo_152 rfl (show cF g3 152 4 = q3 from S_f hS3 0 (Nat.le_of_ble_eq_true rfl))) ?_
        show t_X d 92 46 lv12 [oI (q3), pvR 152] g3 P
        refine t_0 zis152_46 rfl (ld_i l2) ?_
        refine tz_eq zis152_47 (by decide) ⟨by omega, by omega⟩ (fun c13 => ?_) (fun c13 => absurd c13 (by omega))
        show t_X d 92 54 lv12 [oI (q3), pvR 152] g3 P
        refine t_0 zis152_54 rfl rfl ?_
        refine t_0 zis152_55 rfl pq_add ?_
        rw [show q3 + 0 = q3 by omega]
        refine ts_f (n := 0) rfl rfl (by decide) zis152_56 rfl eo_152 hS3 wt_tW152_152_4 gy_152_4 (by decide) ⟨by omega, by omega⟩ (fun g14 hS14 => ?_)
        replace hS14 : tS152 g0 g14 q3 m3 0 c3 := hS14
        show t_X d 92 59 lv12 [] g14 P
        refine t_2 zis152_59 rfl (w := (px_s1 lv12 3 (oI ((k : Int) + 1)), [])) (pq_inc l3 (by decide)) ?_
        replace l0 : px_lg (px_s1 lv12 3 (oI ((k : Int) + 1))) 0 = some (pvR 152) := s1_ne (by decide) (fun _ => rfl) l0
        replace l1 : px_lg (px_s1 lv12 3 (oI ((k : Int) + 1))) 1 = some (oI ((δ : Int))) := s1_ne (by decide) (fun _ => rfl) l1
        replace l2 : px_lg (px_s1 lv12 3 (oI ((k : Int) + 1))) 2 = some (oI 0) := s1_ne (by decide) (fun _ => rfl) l2
        have l3 : px_lg (px_s1 lv12 3 (oI ((k : Int) + 1))) 3 = some (oI ((k : Int) + 1)) := s1_eq
        generalize px_s1 lv12 3 (oI ((k : Int) + 1)) = lv15 at l0 l1 l2 l3 ⊢
        show t_X d 92 62 lv15 [] g14 P
        refine t_1 zis152_62 rfl (pb_goto (pc := 62) (by decide)) ?_
        show t_X d 92 4 lv15 [] g14 P
        exact ix152 (by omega) (hO _ _ _ _ hS14 ⟨by omega, by omega, by omega, by omega, by omega, by omega⟩ ((tCl_x _ _).2.2.2.2.2.1 δ p m c _ _ _ ⟨by omega, by omega, by omega, by omega, by omega, by omega⟩ t3 (by omega))) l0 l2 l3
      · show t_X d 92 35 lv [] g3 P
        refine t_0 zis152_35 rfl rfl ?_
        refine t_1 zis152_36 rfl (pb_goto (pc := 36) (by decide)) ?_
        show t_X d 92 40 lv [oI 1] g3 P
        refine t_2 zis152_40 rfl (w := (px_s1 lv 2 (oI 1), [])) rfl ?_
        replace l0 : px_lg (px_s1 lv 2 (oI 1)) 0 = some (pvR 152) := s1_ne (by decide) (fun _ => rfl) l0
        replace l1 : px_lg (px_s1 lv 2 (oI 1)) 1 = some (oI ((δ : Int))) := s1_ne (by decide) (fun _ => rfl) l1
        replace l3 : px_lg (px_s1 lv 2 (oI 1)) 3 = some (oI ((k : Int))) := s1_ne (by decide) (fun _ => rfl) l3
        have l2 : px_lg (px_s1 lv 2 (oI 1)) 2 = some (oI 1) := s1_eq
        generalize px_s1 lv 2 (oI 1) = lv16 at l0 l1 l3 l2 ⊢
        show t_X d 92 41 lv16 [] g3 P
        refine t_0 zis152_41 rfl (ld_a l0) ?_
        refine t_0 zis152_42 rfl rfl ?_
        refine t_0 zis152_43 rfl (pq_cv eo_152 rfl (show cF g3 152 4 = q3 from S_f hS3 0 (Nat.le_of_ble_eq_true rfl))) ?_
        show t_X d 92 46 lv16 [oI (q3), pvR 152] g3 P
        refine t_0 zis152_46 rfl (ld_i l2) ?_
        refine tz_eq zis152_47 (by decide) ⟨by omega, by omega⟩ (fun c17 => absurd c17 (by omega)) (fun c17 => ?_)
        show t_X d 92 50 lv16 [oI (q3), pvR 152] g3 P
        refine t_0 zis152_50 rfl rfl ?_
        refine t_1 zis152_51 rfl (pb_goto (pc := 51) (by decide)) ?_
        show t_X d 92 55 lv16 [oI 1, oI (q3), pvR 152] g3 P
        refine t_0 zis152_55 rfl pq_add ?_
        refine ts_f (n := 0) rfl rfl (by decide) zis152_56 rfl eo_152 hS3 wt_tW152_152_4 gy_152_4 (by decide) ⟨by omega, by omega⟩ (fun g18 hS18 => ?_)
        replace hS18 : tS152 g0 g18 (q3 + 1) m3 0 c3 := hS18
        show t_X d 92 59 lv16 [] g18 P
        refine t_2 zis152_59 rfl (w := (px_s1 lv16 3 (oI ((k : Int) + 1)), [])) (pq_inc l3 (by decide)) ?_
        replace l0 : px_lg (px_s1 lv16 3 (oI ((k : Int) + 1))) 0 = some (pvR 152) := s1_ne (by decide) (fun _ => rfl) l0
        replace l1 : px_lg (px_s1 lv16 3 (oI ((k : Int) + 1))) 1 = some (oI ((δ : Int))) := s1_ne (by decide) (fun _ => rfl) l1
        replace l2 : px_lg (px_s1 lv16 3 (oI ((k : Int) + 1))) 2 = some (oI 1) := s1_ne (by decide) (fun _ => rfl) l2
        have l3 : px_lg (px_s1 lv16 3 (oI ((k : Int) + 1))) 3 = some (oI ((k : Int) + 1)) := s1_eq
        generalize px_s1 lv16 3 (oI ((k : Int) + 1)) = lv19 at l0 l1 l2 l3 ⊢
        show t_X d 92 62 lv19 [] g18 P
        refine t_1 zis152_62 rfl (pb_goto (pc := 62) (by decide)) ?_
        show t_X d 92 4 lv19 [] g18 P
        refine ih (k + 1) _ _ _ _ _ _ (by omega) (by omega) hS18 ⟨by omega, by omega⟩ ⟨by omega, by omega⟩ (fun g9 f9 q9 m9 c9 hS9 u9 w9 t9 => ?_) (fun g9 q9 m9 c9 hS9 Q9 t9 => ?_) l0 l1 l2 (l3.trans (congrArg (fun x => some (oI x)) (by omega)))
        · exact hF _ _ _ _ _ hS9 u9 w9 ((tCl_x _ _).2.2.2.2.2.2 δ p m c _ _ _ _ ⟨by omega, by omega, by omega, by omega, by omega, by omega⟩ t3 (by omega) t9)
        · unfold tQ at Q9
          exact hO _ _ _ _ hS9 ⟨by omega, by omega, by omega, by omega, by omega, by omega⟩ ((tCl_x _ _).2.2.2.2.2.2 δ p m c _ _ _ _ ⟨by omega, by omega, by omega, by omega, by omega, by omega⟩ t3 (by omega) t9)
theorem tI152_s {δ : Nat} {g0 : pH} {B : tC} {n : Int} (hB : tB152 g0 B n) (hI : δ < 4 → tI152 g0 B n (δ + 1)) (hδ : δ ≤ 4) : tI152 g0 B n δ := by
  intro d hd g p m c hS hp hm P hF hO lv l0 l1
  have hn1 := hB.2.2.2.2.1
  refine t_0 zis152_0 rfl rfl ?_
  refine t_2 zis152_1 rfl (w := (px_s1 lv 2 (oI 1), [])) rfl ?_
  replace l0 : px_lg (px_s1 lv 2 (oI 1)) 0 = some (pvR 152) := s1_ne (by decide) (fun _ => rfl) l0
  replace l1 : px_lg (px_s1 lv 2 (oI 1)) 1 = some (oI ((δ : Int))) := s1_ne (by decide) (fun _ => rfl) l1
  have l2 : px_lg (px_s1 lv 2 (oI 1)) 2 = some (oI 1) := s1_eq
  generalize px_s1 lv 2 (oI 1) = lv1 at l0 l1 l2 ⊢
  show t_X d 92 2 lv1 [] g P
  refine t_0 zis152_2 rfl rfl ?_
  refine t_2 zis152_3 rfl (w := (px_s1 lv1 3 (oI 0), [])) rfl ?_
  replace l0 : px_lg (px_s1 lv1 3 (oI 0)) 0 = some (pvR 152) := s1_ne (by decide) (fun _ => rfl) l0
  replace l1 : px_lg (px_s1 lv1 3 (oI 0)) 1 = some (oI ((δ : Int))) := s1_ne (by decide) (fun _ => rfl) l1
  replace l2 : px_lg (px_s1 lv1 3 (oI 0)) 2 = some (oI 1) := s1_ne (by decide) (fun _ => rfl) l2
  have l3 : px_lg (px_s1 lv1 3 (oI 0)) 3 = some (oI 0) := s1_eq
  generalize px_s1 lv1 3 (oI 0) = lv2 at l0 l1 l2 l3 ⊢
  show t_X d 92 4 lv2 [] g P
  exact il152 hB hI hδ hd 121 0 _ _ _ _ _ _ (by omega) (by omega) hS hp hm hF hO l0 l1 l2 l3
theorem tI152_0 {g0 : pH} {B : tC} {n : Int} (hB : tB152 g0 B n) : tI152 g0 B n 0 := tI152_s hB (fun _ => tI152_s hB (fun _ => tI152_s hB (fun _ => tI152_s hB (fun _ => tI152_s hB (fun h => absurd h (by omega)) (by omega)) (by omega)) (by omega)) (by omega)) (by omega)
set_option maxHeartbeats 4000000 in
theorem rd152_run {d : Nat} (hd : 17 ≤ d) {h0 g : pH} (hJ : J_ tV152 h0 g) {n : Int} (hn : 1 ≤ n ∧ n ≤ 120) {P : Option pv × pH → Prop} (hF : ∀ (g1 : pH) (f : Int) (c : tC), J_ tV152 h0 g1 → (f < 0 ∧ -9999 ≤ f) → tIs (tH (fA g 1) n) n 0 0 0 c (.inl f) → P (some (oI f), g1)) (hE : ∀ (g1 : pH) (p m : Int) (c c1 : tC), J_ tV152 h0 g1 → 0 ≤ p → p < n → 0 ≤ m ∧ m ≤ 60 → tIs (tH (fA g 1) n) n 0 0 0 c (.inr (p, m, c1)) → P (some (oI (-1000 - p)), g1)) (hO : ∀ (g1 : pH) (m : Int) (c c1 : tC), J_ tV152 h0 g1 → tIs (tH (fA g 1) n) n 0 0 0 c (.inr (n, m, c1)) → cF g1 152 1 = m → fA g1 153 = c1 → 1 ≤ m ∧ m ≤ 60 → P (some (oI m), g1)) {lv : List (Nat × pv)} (l0 : px_lg lv 0 = some (pvR 152)) (l1 : px_lg lv 1 = some (pvR 1)) (l2 : px_lg lv 2 = some (oI n)) : t_X d 90 0 lv [] g P := by
  have hG := hJ.1
  refine t_0 zrd152_0 rfl (ld_a l0) ?_
  refine t_0 zrd152_1 rfl (ld_a l1) ?_
  refine ts_ra (ks := []) (as := []) zrd152_2 rfl eo_152 ⟨hJ, fun i hi => absurd hi (Nat.not_lt_zero _), fun i hi => absurd hi (Nat.not_lt_zero _)⟩ (vs := []) (cs := []) tV152_b.2.2.1 (by rw [gt_152_2]; exact ⟨by decide, by decide, Or.inr (by decide)⟩) (fun g1 J0 e1 => ?_)
  have J1 := J0.1
  have r1 : g1.2.2.1 152 2 = some 1 := by rw [e1]; exact (pu_rr : pu g.2.2.1 152 2 (some 1) 152 2 = some 1)
  have a1 : fA g1 1 = fA g 1 := by rw [e1]; rfl
  have hS1 : sE tu152k tq152a tU152 g1 g1 [cF g1 152 4, cF g1 152 1, cF g1 152 5, cF g1 152 3] [fA g1 153] := S_0 J1.1
  clear e1 J0
  show t_X d 90 5 lv [] g1 P
  refine t_0 zrd152_5 rfl (ld_a l0) ?_
  refine t_0 zrd152_6 rfl (ld_i l2) ?_
  refine t_0 zrd152_7 rfl (ld_a l1) ?_
  refine t_0 zrd152_8 rfl (pq_ln ez_1 rfl) ?_
  show t_X d 90 9 lv [oI 260, oI (n), pvR 152] g1 P
  refine t_0 zrd152_9 rfl (pq_mi (by omega) (Nat.le_of_ble_eq_true rfl) ⟨by omega, by omega⟩ ⟨by omega, by omega⟩) ?_
  rw [if_neg (show ¬ (260 : Int) < n by omega)]
  show t_X d 90 12 lv [oI (n), pvR 152] g1 P
  refine ts_f (n := 3) rfl rfl (by decide) zrd152_12 rfl eo_152 hS1 wt_tU152_152_3 gy_152_3 (by decide) ⟨by omega, by omega⟩ (fun g21 hS21 => ?_)
  replace hS21 : sE tu152k tq152a tU152 g1 g21 [cF g1 152 4, cF g1 152 1, cF g1 152 5, n] [fA g1 153] := hS21
  show t_X d 90 15 lv [] g21 P
  refine t_0 zrd152_15 rfl (ld_a l0) ?_
  refine t_0 zrd152_16 rfl rfl ?_
  refine ts_f (n := 0) rfl rfl (by decide) zrd152_17 rfl eo_152 hS21 wt_tU152_152_4 gy_152_4 (by decide) ⟨by omega, by omega⟩ (fun g22 hS22 => ?_)
  replace hS22 : sE tu152k tq152a tU152 g1 g22 [0, cF g1 152 1, cF g1 152 5, n] [fA g1 153] := hS22
  show t_X d 90 20 lv [] g22 P
  refine t_0 zrd152_20 rfl (ld_a l0) ?_
  refine t_0 zrd152_21 rfl rfl ?_
  refine ts_f (n := 2) rfl rfl (by decide) zrd152_22 rfl eo_152 hS22 wt_tU152_152_5 gy_152_5 (by decide) ⟨by omega, by omega⟩ (fun g23 hS23 => ?_)
  replace hS23 : sE tu152k tq152a tU152 g1 g23 [0, cF g1 152 1, 0, n] [fA g1 153] := hS23
  show t_X d 90 25 lv [] g23 P
  refine t_0 zrd152_25 rfl (ld_a l0) ?_
  refine t_0 zrd152_26 rfl rfl ?_
  refine ts_f (n := 1) rfl rfl (by decide) zrd152_27 rfl eo_152 hS23 wt_tU152_152_1 gy_152_1 (by decide) ⟨by omega, by omega⟩ (fun g24 hS24 => ?_)
  replace hS24 : sE tu152k tq152a tU152 g1 g24 [0, 0, 0, n] [fA g1 153] := hS24
  show t_X d 90 30 lv [] g24 P
  refine t_0 zrd152_30 rfl (ld_a l0) ?_
  refine t_0 zrd152_31 rfl rfl ?_
  have G6 := (S_J hS24).1
  have M6 := (S_J hS24).2
  have hB : tB152 g24 (fA g 1) n := ⟨S_f hS24 3 (Nat.le_of_ble_eq_true rfl), (M6.1 152 2 tV152_b.2.2.2.2.1).2.2.trans r1, (fA_M M6 tV152_b.2.2.2.2.2.1).trans a1, by omega, by omega, fun j hj => gb_a hG el_1 hj gA_1⟩
  have hS : sE tq152k tq152a tW152 g24 g24 [cF g24 152 4, cF g24 152 1, cF g24 152 5] [fA g24 153] := S_0 G6
  rw [(show cF g24 152 4 = 0 from S_f hS24 0 (Nat.le_of_ble_eq_true rfl)), (show cF g24 152 1 = 0 from S_f hS24 1 (Nat.le_of_ble_eq_true rfl)), (show cF g24 152 5 = 0 from S_f hS24 2 (Nat.le_of_ble_eq_true rfl))] at hS
  have J6 : J_ tV152 h0 g24 := J_up tV152_b.2.1 J1 (S_J hS24)
  generalize hc0 : fA g24 153 = c0 at hS
  refine t_3 zrd152_32 rfl (ar := ([pvR 152, oI 0], [])) (pcal_w (as := [oI 0]) rfl rfl rfl eo_152) ⟨by omega, Nat.le_of_ble_eq_true rfl, Nat.le_of_ble_eq_true rfl, rfl⟩ ?_
  refine tI152_0 hB _ (by omega) _ _ _ _ hS ⟨by omega, by omega⟩ ⟨by omega, by omega⟩ _ (fun g9 f9 q9 m9 c9 hS9 u9 w9 t9 => ?_) (fun g9 q9 m9 c9 hS9 Q9 t9 => ?_) _ rfl rfl
  · replace hS9 : tS152 g24 g9 q9 m9 f9 c9 := hS9
    have y9 := (cm152 hB hS9).2.2.1
    show t_X d 90 35 lv [] g9 P
    refine t_0 zrd152_35 rfl (ld_a l0) ?_
    refine t_0 zrd152_36 rfl (pq_cv eo_152 rfl (show cF g9 152 4 = q9 from S_f hS9 0 (Nat.le_of_ble_eq_true rfl))) ?_
    show t_X d 90 39 lv [oI (q9)] g9 P
    refine t_0 zrd152_39 rfl (ld_a l0) ?_
    refine t_0 zrd152_40 rfl (pq_cv eo_152 rfl (ce152 hB hS9 : cF g9 152 3 = n)) ?_
    show t_X d 90 43 lv [oI (n), oI (q9)] g9 P
    refine tb_ge zrd152_43 (by decide) ⟨by omega, by omega⟩ ⟨by omega, by omega⟩ (fun c25 => ?_) (fun c25 => ?_)
    · show t_X d 90 55 lv [] g9 P
      refine t_0 zrd152_55 rfl (ld_a l0) ?_
      refine t_0 zrd152_56 rfl (pq_cv eo_152 rfl (show cF g9 152 5 = f9 from S_f hS9 2 (Nat.le_of_ble_eq_true rfl))) ?_
      show t_X d 90 59 lv [oI (f9)] g9 P
      refine tz_ne zrd152_59 (by decide) ⟨by omega, by omega⟩ (fun c26 => ?_) (fun c26 => absurd c26 (by omega))
      show t_X d 90 69 lv [] g9 P
      refine t_0 zrd152_69 rfl (ld_a l0) ?_
      refine t_0 zrd152_70 rfl (pq_cv eo_152 rfl (show cF g9 152 5 = f9 from S_f hS9 2 (Nat.le_of_ble_eq_true rfl))) ?_
      show t_X d 90 73 lv [oI (f9)] g9 P
      refine t_5 zrd152_73 rfl rfl ?_
      exact hF _ _ _ (J_up tV152_b.1 J6 (S_J hS9)) ⟨u9, w9⟩ t9
    · show t_X d 90 46 lv [] g9 P
      refine t_0 zrd152_46 rfl (ld_a l0) ?_
      refine t_0 zrd152_47 rfl rfl ?_
      refine t_0 zrd152_48 rfl (ld_a l0) ?_
      refine t_0 zrd152_49 rfl (pq_cv eo_152 rfl (show cF g9 152 4 = q9 from S_f hS9 0 (Nat.le_of_ble_eq_true rfl))) ?_
      show t_X d 90 52 lv [oI (q9), oI 1, pvR 152] g9 P
      refine t_3 zrd152_52 rfl (ar := ([pvR 152, oI 1, oI (q9)], [])) (pcal_w (as := [oI (q9), oI 1]) rfl rfl rfl eo_152) ⟨by omega, Nat.le_of_ble_eq_true rfl, Nat.le_of_ble_eq_true rfl, rfl⟩ ?_
      refine fn152_run hB hS9 (by omega) (by omega) (a := 0) (b := 0) ?_ rfl
      show t_X d 90 55 lv [] g9 P
      refine t_0 zrd152_55 rfl (ld_a l0) ?_
      refine t_0 zrd152_56 rfl (pq_cv eo_152 rfl (show cF g9 152 5 = f9 from S_f hS9 2 (Nat.le_of_ble_eq_true rfl))) ?_
      show t_X d 90 59 lv [oI (f9)] g9 P
      refine tz_ne zrd152_59 (by decide) ⟨by omega, by omega⟩ (fun c28 => ?_) (fun c28 => absurd c28 (by omega))
      show t_X d 90 69 lv [] g9 P
      refine t_0 zrd152_69 rfl (ld_a l0) ?_
      refine t_0 zrd152_70 rfl (pq_cv eo_152 rfl (show cF g9 152 5 = f9 from S_f hS9 2 (Nat.le_of_ble_eq_true rfl))) ?_
      show t_X d 90 73 lv [oI (f9)] g9 P
      refine t_5 zrd152_73 rfl rfl ?_
      exact hF _ _ _ (J_up tV152_b.1 J6 (S_J hS9)) ⟨u9, w9⟩ t9
  · replace hS9 : tS152 g24 g9 q9 m9 0 c9 := hS9
    have R9 := Q9
    unfold tQ at R9
    show t_X d 90 35 lv [] g9 P
    refine t_0 zrd152_35 rfl (ld_a l0) ?_
    refine t_0 zrd152_36 rfl (pq_cv eo_152 rfl (show cF g9 152 4 = q9 from S_f hS9 0 (Nat.le_of_ble_eq_true rfl))) ?_
    show t_X d 90 39 lv [oI (q9)] g9 P
    refine t_0 zrd152_39 rfl (ld_a l0) ?_
    refine t_0 zrd152_40 rfl (pq_cv eo_152 rfl (ce152 hB hS9 : cF g9 152 3 = n)) ?_
    show t_X d 90 43 lv [oI (n), oI (q9)] g9 P
    refine tb_ge zrd152_43 (by decide) ⟨by omega, by omega⟩ ⟨by omega, by omega⟩ (fun c29 => ?_) (fun c29 => ?_)
    · show t_X d 90 55 lv [] g9 P
      refine t_0 zrd152_55 rfl (ld_a l0) ?_
      refine t_0 zrd152_56 rfl (pq_cv eo_152 rfl (show cF g9 152 5 = 0 from S_f hS9 2 (Nat.le_of_ble_eq_true rfl))) ?_
      show t_X d 90 59 lv [oI 0] g9 P
      refine tz_ne zrd152_59 (by decide) ⟨by omega, by omega⟩ (fun c30 => absurd c30 (by omega)) (fun c30 => ?_)
      show t_X d 90 62 lv [] g9 P
      refine t_0 zrd152_62 rfl (ld_a l0) ?_
      refine t_0 zrd152_63 rfl (pq_cv eo_152 rfl (show cF g9 152 1 = m9 from S_f hS9 1 (Nat.le_of_ble_eq_true rfl))) ?_
      show t_X d 90 66 lv [oI (m9)] g9 P
      refine t_1 zrd152_66 rfl (pb_goto (pc := 66) (by decide)) ?_
      show t_X d 90 73 lv [oI (m9)] g9 P
      refine t_5 zrd152_73 rfl rfl ?_
      have e9 : q9 = n := by omega
      rw [e9] at t9
      exact hO _ _ _ _ (J_up tV152_b.1 J6 (S_J hS9)) t9 (S_f hS9 1 (Nat.le_of_ble_eq_true rfl)) (S_a hS9 0 (Nat.le_of_ble_eq_true rfl)) (by omega)
    · show t_X d 90 46 lv [] g9 P
      refine t_0 zrd152_46 rfl (ld_a l0) ?_
      refine t_0 zrd152_47 rfl rfl ?_
      refine t_0 zrd152_48 rfl (ld_a l0) ?_
      refine t_0 zrd152_49 rfl (pq_cv eo_152 rfl (show cF g9 152 4 = q9 from S_f hS9 0 (Nat.le_of_ble_eq_true rfl))) ?_
      show t_X d 90 52 lv [oI (q9), oI 1, pvR 152] g9 P
      refine t_3 zrd152_52 rfl (ar := ([pvR 152, oI 1, oI (q9)], [])) (pcal_w (as := [oI (q9), oI 1]) rfl rfl rfl eo_152) ⟨by omega, Nat.le_of_ble_eq_true rfl, Nat.le_of_ble_eq_true rfl, rfl⟩ ?_
      refine fl152_run hB hS9 ⟨by omega, by omega⟩ ⟨by omega, by omega⟩ (fun g31 hS31 => ?_) rfl rfl rfl
      replace hS31 : tS152 g24 g31 q9 m9 (-1000 * 1 - q9) c9 := hS31
      show t_X d 90 55 lv [] g31 P
      refine t_0 zrd152_55 rfl (ld_a l0) ?_
      refine t_0 zrd152_56 rfl (pq_cv eo_152 rfl (show cF g31 152 5 = -1000 * 1 - q9 from S_f hS31 2 (Nat.le_of_ble_eq_true rfl))) ?_
      show t_X d 90 59 lv [oI (-1000 * 1 - q9)] g31 P
      refine tz_ne zrd152_59 (by decide) ⟨by omega, by omega⟩ (fun c32 => ?_) (fun c32 => absurd c32 (by omega))
      show t_X d 90 69 lv [] g31 P
      refine t_0 zrd152_69 rfl (ld_a l0) ?_
      refine t_0 zrd152_70 rfl (pq_cv eo_152 rfl (show cF g31 152 5 = -1000 * 1 - q9 from S_f hS31 2 (Nat.le_of_ble_eq_true rfl))) ?_
      show t_X d 90 73 lv [oI (-1000 * 1 - q9)] g31 P
      refine t_5 zrd152_73 rfl rfl ?_
      rw [show -1000 * 1 - q9 = -1000 - q9 by omega]
      exact hE _ _ _ _ _ (J_up tV152_b.1 J6 (S_J hS31)) (by omega) (by omega) ⟨by omega, by omega⟩ t9
end
