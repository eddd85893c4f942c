/-! asking the law of a slide in a way: both sides (printed by wip/e2/x15.py) -/
theorem vfe_0 : xe_look (xc 190) 0 = some (.aload_n 0, 1, 0, 0, 0) := by decide +kernel
theorem vfe_1 : xe_look (xc 190) 1 = some (.getfield 104, 3, 12, 48, 1153) := by decide +kernel
theorem vfe_4 : xe_look (xc 190) 4 = some (.iconst 0, 1, 0, 0, 0) := by decide +kernel
theorem vfe_5 : xe_look (xc 190) 5 = some (.iload_n 1, 1, 0, 0, 0) := by decide +kernel
theorem vfe_6 : xe_look (xc 190) 6 = some (.iastore, 1, 0, 0, 0) := by decide +kernel
theorem vfe_7 : xe_look (xc 190) 7 = some (.aload_n 0, 1, 0, 0, 0) := by decide +kernel
theorem vfe_8 : xe_look (xc 190) 8 = some (.getfield 104, 3, 12, 48, 1153) := by decide +kernel
theorem vfe_11 : xe_look (xc 190) 11 = some (.iconst 1, 1, 0, 0, 0) := by decide +kernel
theorem vfe_12 : xe_look (xc 190) 12 = some (.aload_n 0, 1, 0, 0, 0) := by decide +kernel
theorem vfe_13 : xe_look (xc 190) 13 = some (.getfield 16, 3, 12, 4, 1175) := by decide +kernel
theorem vfe_16 : xe_look (xc 190) 16 = some (.iload_n 1, 1, 0, 0, 0) := by decide +kernel
theorem vfe_17 : xe_look (xc 190) 17 = some (.iaload, 1, 0, 0, 0) := by decide +kernel
theorem vfe_18 : xe_look (xc 190) 18 = some (.iastore, 1, 0, 0, 0) := by decide +kernel
theorem vfe_19 : xe_look (xc 190) 19 = some (.aload_n 0, 1, 0, 0, 0) := by decide +kernel
theorem vfe_20 : xe_look (xc 190) 20 = some (.getfield 104, 3, 12, 48, 1153) := by decide +kernel
theorem vfe_23 : xe_look (xc 190) 23 = some (.iconst 2, 1, 0, 0, 0) := by decide +kernel
theorem vfe_24 : xe_look (xc 190) 24 = some (.aload_n 0, 1, 0, 0, 0) := by decide +kernel
theorem vfe_25 : xe_look (xc 190) 25 = some (.getfield 19, 3, 12, 5, 1155) := by decide +kernel
theorem vfe_28 : xe_look (xc 190) 28 = some (.iload_n 1, 1, 0, 0, 0) := by decide +kernel
theorem vfe_29 : xe_look (xc 190) 29 = some (.iaload, 1, 0, 0, 0) := by decide +kernel
theorem vfe_30 : xe_look (xc 190) 30 = some (.iastore, 1, 0, 0, 0) := by decide +kernel
theorem vfe_31 : xe_look (xc 190) 31 = some (.aload_n 0, 1, 0, 0, 0) := by decide +kernel
theorem vfe_32 : xe_look (xc 190) 32 = some (.getfield 104, 3, 12, 48, 1153) := by decide +kernel
theorem vfe_35 : xe_look (xc 190) 35 = some (.iconst 3, 1, 0, 0, 0) := by decide +kernel
theorem vfe_36 : xe_look (xc 190) 36 = some (.aload_n 0, 1, 0, 0, 0) := by decide +kernel
theorem vfe_37 : xe_look (xc 190) 37 = some (.getfield 25, 3, 12, 7, 1167) := by decide +kernel
theorem vfe_40 : xe_look (xc 190) 40 = some (.iload_n 1, 1, 0, 0, 0) := by decide +kernel
theorem vfe_41 : xe_look (xc 190) 41 = some (.iaload, 1, 0, 0, 0) := by decide +kernel
theorem vfe_42 : xe_look (xc 190) 42 = some (.iastore, 1, 0, 0, 0) := by decide +kernel
theorem vfe_43 : xe_look (xc 190) 43 = some (.aload_n 0, 1, 0, 0, 0) := by decide +kernel
theorem vfe_44 : xe_look (xc 190) 44 = some (.getfield 104, 3, 12, 48, 1153) := by decide +kernel
theorem vfe_47 : xe_look (xc 190) 47 = some (.iconst 4, 1, 0, 0, 0) := by decide +kernel
theorem vfe_48 : xe_look (xc 190) 48 = some (.iload_n 2, 1, 0, 0, 0) := by decide +kernel
theorem vfe_49 : xe_look (xc 190) 49 = some (.iconst 4, 1, 0, 0, 0) := by decide +kernel
theorem vfe_50 : xe_look (xc 190) 50 = some (.irem, 1, 0, 0, 0) := by decide +kernel
theorem vfe_51 : xe_look (xc 190) 51 = some (.iastore, 1, 0, 0, 0) := by decide +kernel
theorem vfe_52 : xe_look (xc 190) 52 = some (.aload_n 0, 1, 0, 0, 0) := by decide +kernel
theorem vfe_53 : xe_look (xc 190) 53 = some (.getfield 104, 3, 12, 48, 1153) := by decide +kernel
theorem vfe_56 : xe_look (xc 190) 56 = some (.iconst 5, 1, 0, 0, 0) := by decide +kernel
theorem vfe_57 : xe_look (xc 190) 57 = some (.iload_n 2, 1, 0, 0, 0) := by decide +kernel
theorem vfe_58 : xe_look (xc 190) 58 = some (.iconst 4, 1, 0, 0, 0) := by decide +kernel
theorem vfe_59 : xe_look (xc 190) 59 = some (.idiv, 1, 0, 0, 0) := by decide +kernel
theorem vfe_60 : xe_look (xc 190) 60 = some (.iastore, 1, 0, 0, 0) := by decide +kernel
theorem vfe_61 : xe_look (xc 190) 61 = some (.aload_n 0, 1, 0, 0, 0) := by decide +kernel
theorem vfe_62 : xe_look (xc 190) 62 = some (.getfield 104, 3, 12, 48, 1153) := by decide +kernel
theorem vfe_65 : xe_look (xc 190) 65 = some (.bipush 6, 2, 0, 0, 0) := by decide +kernel
theorem vfe_67 : xe_look (xc 190) 67 = some (.aload_n 0, 1, 0, 0, 0) := by decide +kernel
theorem vfe_68 : xe_look (xc 190) 68 = some (.getfield 372, 3, 12, 49, 1172) := by decide +kernel
theorem vfe_71 : xe_look (xc 190) 71 = some (.iastore, 1, 0, 0, 0) := by decide +kernel
theorem vfe_72 : xe_look (xc 190) 72 = some (.aload_n 0, 1, 0, 0, 0) := by decide +kernel
theorem vfe_73 : xe_look (xc 190) 73 = some (.getfield 104, 3, 12, 48, 1153) := by decide +kernel
theorem vfe_76 : xe_look (xc 190) 76 = some (.bipush 7, 2, 0, 0, 0) := by decide +kernel
theorem vfe_78 : xe_look (xc 190) 78 = some (.aload_n 0, 1, 0, 0, 0) := by decide +kernel
theorem vfe_79 : xe_look (xc 190) 79 = some (.getfield 22, 3, 12, 6, 1176) := by decide +kernel
theorem vfe_82 : xe_look (xc 190) 82 = some (.iload_n 1, 1, 0, 0, 0) := by decide +kernel
theorem vfe_83 : xe_look (xc 190) 83 = some (.iaload, 1, 0, 0, 0) := by decide +kernel
theorem vfe_84 : xe_look (xc 190) 84 = some (.iastore, 1, 0, 0, 0) := by decide +kernel
theorem vfe_85 : xe_look (xc 190) 85 = some (.aload_n 0, 1, 0, 0, 0) := by decide +kernel
theorem vfe_86 : xe_look (xc 190) 86 = some (.getfield 104, 3, 12, 48, 1153) := by decide +kernel
theorem vfe_89 : xe_look (xc 190) 89 = some (.bipush 8, 2, 0, 0, 0) := by decide +kernel
theorem vfe_91 : xe_look (xc 190) 91 = some (.iconst 0, 1, 0, 0, 0) := by decide +kernel
theorem vfe_92 : xe_look (xc 190) 92 = some (.iastore, 1, 0, 0, 0) := by decide +kernel
theorem vfe_93 : xe_look (xc 190) 93 = some (.aload_n 0, 1, 0, 0, 0) := by decide +kernel
theorem vfe_94 : xe_look (xc 190) 94 = some (.getfield 104, 3, 12, 48, 1153) := by decide +kernel
theorem vfe_97 : xe_look (xc 190) 97 = some (.bipush 9, 2, 0, 0, 0) := by decide +kernel
theorem vfe_99 : xe_look (xc 190) 99 = some (.iconst 0, 1, 0, 0, 0) := by decide +kernel
theorem vfe_100 : xe_look (xc 190) 100 = some (.iastore, 1, 0, 0, 0) := by decide +kernel
theorem vfe_101 : xe_look (xc 190) 101 = some (.aload_n 0, 1, 0, 0, 0) := by decide +kernel
theorem vfe_102 : xe_look (xc 190) 102 = some (.getfield 104, 3, 12, 48, 1153) := by decide +kernel
theorem vfe_105 : xe_look (xc 190) 105 = some (.bipush 10, 2, 0, 0, 0) := by decide +kernel
theorem vfe_107 : xe_look (xc 190) 107 = some (.iconst 0, 1, 0, 0, 0) := by decide +kernel
theorem vfe_108 : xe_look (xc 190) 108 = some (.iastore, 1, 0, 0, 0) := by decide +kernel
theorem vfe_109 : xe_look (xc 190) 109 = some (.return_, 1, 0, 0, 0) := by decide +kernel
theorem vog_0 : xe_look (xc 22) 0 = some (.aload_n 0, 1, 0, 0, 0) := by decide +kernel
theorem vog_1 : xe_look (xc 22) 1 = some (.aload_n 1, 1, 0, 0, 0) := by decide +kernel
theorem vog_2 : xe_look (xc 22) 2 = some (.iload_n 2, 1, 0, 0, 0) := by decide +kernel
theorem vog_3 : xe_look (xc 22) 3 = some (.iconst 0, 1, 0, 0, 0) := by decide +kernel
theorem vog_4 : xe_look (xc 22) 4 = some (.invokevirtual 47, 3, 0, 26, 820) := by decide +kernel
theorem vog_7 : xe_look (xc 22) 7 = some (.aload_n 0, 1, 0, 0, 0) := by decide +kernel
theorem vog_8 : xe_look (xc 22) 8 = some (.getfield 12, 3, 2, 0, 821) := by decide +kernel
theorem vog_11 : xe_look (xc 22) 11 = some (.bipush 119, 2, 0, 0, 0) := by decide +kernel
theorem vog_13 : xe_look (xc 22) 13 = some (.bipush 99, 2, 0, 0, 0) := by decide +kernel
theorem vog_15 : xe_look (xc 22) 15 = some (.aload_n 0, 1, 0, 0, 0) := by decide +kernel
theorem vog_16 : xe_look (xc 22) 16 = some (.getfield 21, 3, 2, 2, 822) := by decide +kernel
theorem vog_19 : xe_look (xc 22) 19 = some (.invokevirtual 51, 3, 0, 40, 823) := by decide +kernel
theorem vog_22 : xe_look (xc 22) 22 = some (.ireturn, 1, 0, 0, 0) := by decide +kernel
theorem vqa_0 : xe_look (xc 169) 0 = some (.aload_n 0, 1, 0, 0, 0) := by decide +kernel
theorem vqa_1 : xe_look (xc 169) 1 = some (.iload_n 1, 1, 0, 0, 0) := by decide +kernel
theorem vqa_2 : xe_look (xc 169) 2 = some (.iload_n 2, 1, 0, 0, 0) := by decide +kernel
theorem vqa_3 : xe_look (xc 169) 3 = some (.invokevirtual 375, 3, 0, 190, 1122) := by decide +kernel
theorem vqa_6 : xe_look (xc 169) 6 = some (.aload_n 0, 1, 0, 0, 0) := by decide +kernel
theorem vqa_7 : xe_look (xc 169) 7 = some (.iload_n 3, 1, 0, 0, 0) := by decide +kernel
theorem vqa_8 : xe_look (xc 169) 8 = some (.iload 4, 2, 0, 0, 0) := by decide +kernel
theorem vqa_10 : xe_look (xc 169) 10 = some (.invokevirtual 378, 3, 0, 173, 1123) := by decide +kernel
theorem vqa_13 : xe_look (xc 169) 13 = some (.ireturn, 1, 0, 0, 0) := by decide +kernel
theorem vsf_0 : xe_look (xc 26) 0 = some (.aload_n 0, 1, 0, 0, 0) := by decide +kernel
theorem vsf_1 : xe_look (xc 26) 1 = some (.getfield 21, 3, 2, 2, 822) := by decide +kernel
theorem vsf_4 : xe_look (xc 26) 4 = some (.iconst 0, 1, 0, 0, 0) := by decide +kernel
theorem vsf_5 : xe_look (xc 26) 5 = some (.aload_n 1, 1, 0, 0, 0) := by decide +kernel
theorem vsf_6 : xe_look (xc 26) 6 = some (.getfield 25, 3, 7, 0, 830) := by decide +kernel
theorem vsf_9 : xe_look (xc 26) 9 = some (.iastore, 1, 0, 0, 0) := by decide +kernel
theorem vsf_10 : xe_look (xc 26) 10 = some (.aload_n 0, 1, 0, 0, 0) := by decide +kernel
theorem vsf_11 : xe_look (xc 26) 11 = some (.getfield 21, 3, 2, 2, 822) := by decide +kernel
theorem vsf_14 : xe_look (xc 26) 14 = some (.iconst 1, 1, 0, 0, 0) := by decide +kernel
theorem vsf_15 : xe_look (xc 26) 15 = some (.aload_n 1, 1, 0, 0, 0) := by decide +kernel
theorem vsf_16 : xe_look (xc 26) 16 = some (.getfield 31, 3, 7, 3, 831) := by decide +kernel
theorem vsf_19 : xe_look (xc 26) 19 = some (.iastore, 1, 0, 0, 0) := by decide +kernel
theorem vsf_20 : xe_look (xc 26) 20 = some (.aload_n 0, 1, 0, 0, 0) := by decide +kernel
theorem vsf_21 : xe_look (xc 26) 21 = some (.getfield 21, 3, 2, 2, 822) := by decide +kernel
theorem vsf_24 : xe_look (xc 26) 24 = some (.iconst 2, 1, 0, 0, 0) := by decide +kernel
theorem vsf_25 : xe_look (xc 26) 25 = some (.aload_n 1, 1, 0, 0, 0) := by decide +kernel
theorem vsf_26 : xe_look (xc 26) 26 = some (.getfield 34, 3, 7, 4, 832) := by decide +kernel
theorem vsf_29 : xe_look (xc 26) 29 = some (.iastore, 1, 0, 0, 0) := by decide +kernel
theorem vsf_30 : xe_look (xc 26) 30 = some (.aload_n 0, 1, 0, 0, 0) := by decide +kernel
theorem vsf_31 : xe_look (xc 26) 31 = some (.getfield 21, 3, 2, 2, 822) := by decide +kernel
theorem vsf_34 : xe_look (xc 26) 34 = some (.iconst 3, 1, 0, 0, 0) := by decide +kernel
theorem vsf_35 : xe_look (xc 26) 35 = some (.aload_n 1, 1, 0, 0, 0) := by decide +kernel
theorem vsf_36 : xe_look (xc 26) 36 = some (.getfield 37, 3, 7, 6, 833) := by decide +kernel
theorem vsf_39 : xe_look (xc 26) 39 = some (.iastore, 1, 0, 0, 0) := by decide +kernel
theorem vsf_40 : xe_look (xc 26) 40 = some (.aload_n 0, 1, 0, 0, 0) := by decide +kernel
theorem vsf_41 : xe_look (xc 26) 41 = some (.getfield 21, 3, 2, 2, 822) := by decide +kernel
theorem vsf_44 : xe_look (xc 26) 44 = some (.iconst 4, 1, 0, 0, 0) := by decide +kernel
theorem vsf_45 : xe_look (xc 26) 45 = some (.iload_n 2, 1, 0, 0, 0) := by decide +kernel
theorem vsf_46 : xe_look (xc 26) 46 = some (.iconst 3, 1, 0, 0, 0) := by decide +kernel
theorem vsf_47 : xe_look (xc 26) 47 = some (.iand, 1, 0, 0, 0) := by decide +kernel
theorem vsf_48 : xe_look (xc 26) 48 = some (.iastore, 1, 0, 0, 0) := by decide +kernel
theorem vsf_49 : xe_look (xc 26) 49 = some (.aload_n 0, 1, 0, 0, 0) := by decide +kernel
theorem vsf_50 : xe_look (xc 26) 50 = some (.getfield 21, 3, 2, 2, 822) := by decide +kernel
theorem vsf_53 : xe_look (xc 26) 53 = some (.iconst 5, 1, 0, 0, 0) := by decide +kernel
theorem vsf_54 : xe_look (xc 26) 54 = some (.iload_n 2, 1, 0, 0, 0) := by decide +kernel
theorem vsf_55 : xe_look (xc 26) 55 = some (.iconst 4, 1, 0, 0, 0) := by decide +kernel
theorem vsf_56 : xe_look (xc 26) 56 = some (.if_icmp .lt 7, 3, 0, 0, 0) := by decide +kernel
theorem vsf_59 : xe_look (xc 26) 59 = some (.iconst 1, 1, 0, 0, 0) := by decide +kernel
theorem vsf_60 : xe_look (xc 26) 60 = some (.goto 4, 3, 0, 0, 0) := by decide +kernel
theorem vsf_63 : xe_look (xc 26) 63 = some (.iconst 0, 1, 0, 0, 0) := by decide +kernel
theorem vsf_64 : xe_look (xc 26) 64 = some (.iastore, 1, 0, 0, 0) := by decide +kernel
theorem vsf_65 : xe_look (xc 26) 65 = some (.aload_n 0, 1, 0, 0, 0) := by decide +kernel
theorem vsf_66 : xe_look (xc 26) 66 = some (.getfield 21, 3, 2, 2, 822) := by decide +kernel
theorem vsf_69 : xe_look (xc 26) 69 = some (.bipush 6, 2, 0, 0, 0) := by decide +kernel
theorem vsf_71 : xe_look (xc 26) 71 = some (.iload_n 3, 1, 0, 0, 0) := by decide +kernel
theorem vsf_72 : xe_look (xc 26) 72 = some (.iastore, 1, 0, 0, 0) := by decide +kernel
theorem vsf_73 : xe_look (xc 26) 73 = some (.aload_n 0, 1, 0, 0, 0) := by decide +kernel
theorem vsf_74 : xe_look (xc 26) 74 = some (.getfield 21, 3, 2, 2, 822) := by decide +kernel
theorem vsf_77 : xe_look (xc 26) 77 = some (.bipush 7, 2, 0, 0, 0) := by decide +kernel
theorem vsf_79 : xe_look (xc 26) 79 = some (.aload_n 1, 1, 0, 0, 0) := by decide +kernel
theorem vsf_80 : xe_look (xc 26) 80 = some (.getfield 40, 3, 7, 5, 834) := by decide +kernel
theorem vsf_83 : xe_look (xc 26) 83 = some (.iastore, 1, 0, 0, 0) := by decide +kernel
theorem vsf_84 : xe_look (xc 26) 84 = some (.aload_n 0, 1, 0, 0, 0) := by decide +kernel
theorem vsf_85 : xe_look (xc 26) 85 = some (.iconst 0, 1, 0, 0, 0) := by decide +kernel
theorem vsf_86 : xe_look (xc 26) 86 = some (.iconst 0, 1, 0, 0, 0) := by decide +kernel
theorem vsf_87 : xe_look (xc 26) 87 = some (.iconst 0, 1, 0, 0, 0) := by decide +kernel
theorem vsf_88 : xe_look (xc 26) 88 = some (.invokevirtual 43, 3, 0, 27, 828) := by decide +kernel
theorem vsf_91 : xe_look (xc 26) 91 = some (.return_, 1, 0, 0, 0) := by decide +kernel
theorem vsk_0 : xe_look (xc 27) 0 = some (.aload_n 0, 1, 0, 0, 0) := by decide +kernel
theorem vsk_1 : xe_look (xc 27) 1 = some (.getfield 21, 3, 2, 2, 822) := by decide +kernel
theorem vsk_4 : xe_look (xc 27) 4 = some (.bipush 8, 2, 0, 0, 0) := by decide +kernel
theorem vsk_6 : xe_look (xc 27) 6 = some (.iload_n 1, 1, 0, 0, 0) := by decide +kernel
theorem vsk_7 : xe_look (xc 27) 7 = some (.iastore, 1, 0, 0, 0) := by decide +kernel
theorem vsk_8 : xe_look (xc 27) 8 = some (.aload_n 0, 1, 0, 0, 0) := by decide +kernel
theorem vsk_9 : xe_look (xc 27) 9 = some (.getfield 21, 3, 2, 2, 822) := by decide +kernel
theorem vsk_12 : xe_look (xc 27) 12 = some (.bipush 9, 2, 0, 0, 0) := by decide +kernel
theorem vsk_14 : xe_look (xc 27) 14 = some (.iload_n 2, 1, 0, 0, 0) := by decide +kernel
theorem vsk_15 : xe_look (xc 27) 15 = some (.iastore, 1, 0, 0, 0) := by decide +kernel
theorem vsk_16 : xe_look (xc 27) 16 = some (.aload_n 0, 1, 0, 0, 0) := by decide +kernel
theorem vsk_17 : xe_look (xc 27) 17 = some (.getfield 21, 3, 2, 2, 822) := by decide +kernel
theorem vsk_20 : xe_look (xc 27) 20 = some (.bipush 10, 2, 0, 0, 0) := by decide +kernel
theorem vsk_22 : xe_look (xc 27) 22 = some (.iload_n 3, 1, 0, 0, 0) := by decide +kernel
theorem vsk_23 : xe_look (xc 27) 23 = some (.iastore, 1, 0, 0, 0) := by decide +kernel
theorem vsk_24 : xe_look (xc 27) 24 = some (.return_, 1, 0, 0, 0) := by decide +kernel
theorem vtu_0 : xe_look (xc 29) 0 = some (.aload_n 0, 1, 0, 0, 0) := by decide +kernel
theorem vtu_1 : xe_look (xc 29) 1 = some (.aload_n 1, 1, 0, 0, 0) := by decide +kernel
theorem vtu_2 : xe_look (xc 29) 2 = some (.iload_n 2, 1, 0, 0, 0) := by decide +kernel
theorem vtu_3 : xe_look (xc 29) 3 = some (.iload_n 3, 1, 0, 0, 0) := by decide +kernel
theorem vtu_4 : xe_look (xc 29) 4 = some (.invokevirtual 47, 3, 0, 26, 820) := by decide +kernel
theorem vtu_7 : xe_look (xc 29) 7 = some (.aload_n 0, 1, 0, 0, 0) := by decide +kernel
theorem vtu_8 : xe_look (xc 29) 8 = some (.getfield 12, 3, 2, 0, 821) := by decide +kernel
theorem vtu_11 : xe_look (xc 29) 11 = some (.bipush 116, 2, 0, 0, 0) := by decide +kernel
theorem vtu_13 : xe_look (xc 29) 13 = some (.bipush 99, 2, 0, 0, 0) := by decide +kernel
theorem vtu_15 : xe_look (xc 29) 15 = some (.aload_n 0, 1, 0, 0, 0) := by decide +kernel
theorem vtu_16 : xe_look (xc 29) 16 = some (.getfield 21, 3, 2, 2, 822) := by decide +kernel
theorem vtu_19 : xe_look (xc 29) 19 = some (.invokevirtual 51, 3, 0, 40, 823) := by decide +kernel
theorem vtu_22 : xe_look (xc 29) 22 = some (.ireturn, 1, 0, 0, 0) := by decide +kernel
/-- the facts of a slide in a way, nobody looking -/
def qF (m : Nat) (ki ma ta wo : Int) (w : Nat) : tC := fun j => [(m : Int), ki, ma, ta, (w : Int) % 4, (w : Int) / 4, 0, wo, 0, 0, 0].getD j 0
theorem ite_e {α : Type} {c : Prop} [Decidable c] {a a' b b' : α} (h1 : c → a = a') (h2 : ¬c → b = b') : (if c then a else b) = if c then a' else b' := by
  by_cases h : c
  · rw [if_pos h, if_pos h, h1 h]
  · rw [if_neg h, if_neg h, h2 h]
theorem am_fe {o v f f' : tC} {D : Nat → Nat × Bool} {a e : Nat} (hf : ∀ j : Nat, j < 11 → f j = f' j) (hst : ∀ k, a ≤ k → k < e → wst o v D k e) : ∀ (m k n : Nat) (s : tC), a ≤ k → am o v f e m k n s = am o v f' e m k n s := by
  intro m
  induction m with
  | zero => intro k n s hk; rfl
  | succ m ih =>
    intro k n s hk
    unfold am
    refine ite_e (fun _ => rfl) (fun h0 => ?_)
    have w := hst k hk (by omega)
    unfold wst at w
    refine ite_e (fun h => ih _ _ _ (by omega)) (fun h1 => ?_)
    refine ite_e (fun h => ?_) (fun h2 => ?_)
    · rw [hf _ (by omega)]
      exact ih _ _ _ (by omega)
    refine ite_e (fun h => ih _ _ _ (by omega)) (fun h3 => ?_)
    refine ite_e (fun h => ite_e (fun _ => ih _ _ _ ?_) (fun _ => ih _ _ _ (by omega))) (fun h4 => ?_)
    · rcases w with ⟨w, -⟩ | ⟨w, -⟩ | ⟨-, -, -, -, t, w, w2, -⟩ | ⟨w, w2, -⟩
      · omega
      · omega
      · omega
      · omega
    refine ite_e (fun h => ite_e (fun _ => ih _ _ _ (by omega)) (fun _ => ih _ _ _ ?_)) (fun h5 => ?_)
    · rcases w with ⟨w, -⟩ | ⟨w, -⟩ | ⟨-, -, -, -, t, w, w2, -⟩ | ⟨w, w2, -⟩
      · omega
      · omega
      · omega
      · omega
    exact ite_e (fun _ => rfl) (fun _ => ih _ _ _ (by omega))
theorem aE_e {o v f f' : tC} {a e : Nat} {y : Nat × Bool} (hf : ∀ j : Nat, j < 11 → f j = f' j) (w : wOK o v 16 (0, false) y a e) : aE o v f a e = aE o v f' a e := by
  obtain ⟨h0, D, h1, h2, h3, h4⟩ := w
  exact am_fe hf h4 _ _ _ _ (Nat.le_refl a)
theorem aW_e {k1 c : Int} {o v f f' le st co en : tC} {lt hi : Int} (hf : ∀ j : Nat, j < 11 → f j = f' j) (hW : wCl k1 o v c st co en) : ∀ (m q : Nat), (q : Int) + m ≤ c → aW o v f le st co en lt hi m q = aW o v f' le st co en lt hi m q := by
  intro m
  induction m with
  | zero => intro q h; rfl
  | succ m ih =>
    intro q h
    obtain ⟨a, b, e, h1, h2, h3, h4, w1, w2⟩ := hW.2.2 q (by omega)
    have e1 : aE o v f (co q).toNat (en q).toNat = aE o v f' (co q).toNat (en q).toNat := by
      rw [h2, h3]
      exact aE_e hf w2
    have e2 : aE o v f (st q).toNat (co q).toNat = aE o v f' (st q).toNat (co q).toNat := by
      rw [h1, h2]
      exact aE_e hf w1
    unfold aW
    rw [e1, e2, ih (q + 1) (by omega)]
theorem aV_e {k1 c : Int} {o v f f' le st co en : tC} {lt hi : Int} (hf : ∀ j : Nat, j < 11 → f j = f' j) (hW : wCl k1 o v c st co en) : aV o v f le st co en c lt hi = aV o v f' le st co en c lt hi := aW_e hf hW _ _ (by have := hW.2.1; omega)
theorem aW_b {o v f le st co en : tC} {lt hi : Int} (hh : 0 ≤ hi) : ∀ (m q : Nat), 0 ≤ aW o v f le st co en lt hi m q ∧ aW o v f le st co en lt hi m q ≤ hi := by
  intro m
  induction m with
  | zero => intro q; exact ⟨by show (0 : Int) ≤ 0; omega, hh⟩
  | succ m ih =>
    intro q
    unfold aW
    split
    · unfold aCl
      split
      · exact ⟨by omega, hh⟩
      · split
        · exact ⟨hh, by omega⟩
        · exact ⟨by omega, by omega⟩
    · exact ih _
theorem aV_b {o v f le st co en : tC} {c lt hi : Int} (hh : 0 ≤ hi) : 0 ≤ aV o v f le st co en c lt hi ∧ aV o v f le st co en c lt hi ≤ hi := aW_b hh _ _
/-- the law in use, as the class has it -/
def rLc (g : pH) (K : Nat) (k1 c : Int) (o v le st co en : tC) : Prop := (wCl k1 o v c st co en ∧ k1 ≤ 240 ∧ c ≤ 16) ∧ (cF g K 0 = c ∧ fA g (K + 1) = o ∧ fA g (K + 2) = v ∧ fA g (K + 3) = le ∧ fA g (K + 4) = st ∧ fA g (K + 5) = co ∧ fA g (K + 6) = en)
/-- as the reference has it -/
def rLm (g : pH) (k1 c : Int) (o v le st co en : tC) : Prop := (wCl k1 o v c st co en ∧ k1 ≤ 240 ∧ c ≤ 16) ∧ cF g 196 35 = c ∧ (∀ j : Nat, (j : Int) < k1 → fA g 222 j = 1048576 * o j + v j) ∧ ∀ j : Nat, (j : Int) < c → fA g 223 j = le j ∧ fA g 224 j = st j ∧ fA g 225 j = co j ∧ fA g 226 j = en j
/-- a slide's data: kind, maker, day, worth -/
def sdC (g : pH) (m : Nat) (ki ma ta wo : Int) : Prop := cF g (4 + 2 * m) 3 = ki ∧ cF g (4 + 2 * m) 4 = ma ∧ cF g (4 + 2 * m) 6 = ta ∧ cF g (4 + 2 * m) 5 = wo
def sdM (g : pH) (m : Nat) (ki ma ta wo : Int) : Prop := (fA g 199 m = ki ∧ fA g 200 m = ma ∧ fA g 202 m = ta ∧ fA g 201 m = wo) ∧ cF g 196 49 = 0
theorem sd_b {g : pH} {m : Nat} {ki ma ta wo : Int} (h : sdC g m ki ma ta wo) : i32R ki ∧ i32R ma ∧ i32R ta ∧ i32R wo := by
  obtain ⟨h1, h2, h3, h4⟩ := h
  exact ⟨by rw [← h1]; exact i32_b _, by rw [← h2]; exact i32_b _, by rw [← h3]; exact i32_b _, by rw [← h4]; exact i32_b _⟩
theorem sdm_b {g : pH} {m : Nat} {ki ma ta wo : Int} (h : sdM g m ki ma ta wo) : i32R ki ∧ i32R ma ∧ i32R ta ∧ i32R wo := by
  obtain ⟨⟨h1, h2, h3, h4⟩, -⟩ := h
  exact ⟨by rw [← h1]; exact i32_b _, by rw [← h2]; exact i32_b _, by rw [← h3]; exact i32_b _, by rw [← h4]; exact i32_b _⟩
theorem pq_w3 {d x y w : Nat} (hw : w < 8) {lv : List (Nat × pv)} {h : pH} {r : List pv} : px_push eL d none .iand x y lv (oI 3 :: oI (w : Int) :: r) h = some (oI ((w : Int) % 4) :: r) := by
  rcases (show w = 0 ∨ w = 1 ∨ w = 2 ∨ w = 3 ∨ w = 4 ∨ w = 5 ∨ w = 6 ∨ w = 7 by omega) with rfl | rfl | rfl | rfl | rfl | rfl | rfl | rfl <;> rfl
def vWf : Nat := 2 ^ cn 173
def vWg : Nat := 2 ^ cn 228
abbrev vF (g0 g : pH) (p : tC) : Prop := sE [] [173] vWf g0 g [] [p]
abbrev vG (g0 g : pH) (p : tC) : Prop := sE [] [228] vWg g0 g [] [p]
theorem vf_n : (∀ m, m < 32 → vWf.testBit (cn (4 + 2 * m) + 0) = false ∧ vWf.testBit (cn (4 + 2 * m) + 3) = false ∧ vWf.testBit (cn (4 + 2 * m) + 4) = false ∧ vWf.testBit (cn (4 + 2 * m) + 5) = false ∧ vWf.testBit (cn (4 + 2 * m) + 6) = false) ∧ (∀ m, m < 32 → eG (cn (4 + 2 * m) + 0) = ((m : Int), (m : Int), [])) := by decide +kernel
theorem vf_0 {g : pH} {m : Nat} (hm : m < 32) (hG : g_I eG g) : cF g (4 + 2 * m) 0 = m := by
  have := cb_i hG (el_s4 hm) (y := 0) (Nat.le_of_ble_eq_true rfl) rfl (vf_n.2 m hm)
  omega
theorem pq_iw {k n d x y m : Nat} {e : Int} {h : pH} {lv : List (Nat × pv)} {r : List pv} (hk : eL[k]? = some (1, n)) (hn : Nat.ble n 10000 = true) (he : 0 ≤ (m : Int) ∧ (m : Int) < n) (hc : fA h k m = e) : px_push eL d none .iaload x y lv (oI (m : Int) :: pvR k :: r) h = some (oI e :: r) := by
  rw [← hc]
  exact pq_iv hk hn he rfl
def cW (K : Nat) : Nat := vWf + rW K
def mW9 : Nat := vWg + qW
theorem cW_b {K : Nat} (hK : lK K) : (vWf &&& cW K = vWf ∧ rW K &&& cW K = rW K) ∧ (vWf.testBit (cn K + 0) = false ∧ vWf.testBit (cn (K + 1)) = false ∧ vWf.testBit (cn (K + 2)) = false ∧ vWf.testBit (cn (K + 3)) = false ∧ vWf.testBit (cn (K + 4)) = false ∧ vWf.testBit (cn (K + 5)) = false ∧ vWf.testBit (cn (K + 6)) = false) ∧ vWf.testBit (cn 164 + 0) = false := by rcases hK with rfl | rfl <;> decide +kernel
theorem mW_b : (vWg &&& mW9 = vWg ∧ qW &&& mW9 = qW) ∧ vWg.testBit (cn 196 + 35) = false ∧ vWg.testBit (cn 222) = false ∧ vWg.testBit (cn 223) = false ∧ vWg.testBit (cn 224) = false ∧ vWg.testBit (cn 225) = false ∧ vWg.testBit (cn 226) = false := by decide +kernel
theorem rLc_f {K W : Nat} {g g1 : pH} {k1 c : Int} {o v le st co en : tC} (hM : f_M W g g1) (hW : W.testBit (cn K + 0) = false ∧ W.testBit (cn (K + 1)) = false ∧ W.testBit (cn (K + 2)) = false ∧ W.testBit (cn (K + 3)) = false ∧ W.testBit (cn (K + 4)) = false ∧ W.testBit (cn (K + 5)) = false ∧ W.testBit (cn (K + 6)) = false) (h : rLc g K k1 c o v le st co en) : rLc g1 K k1 c o v le st co en := by
  obtain ⟨w0, w1, w2, w3, w4, w5, w6⟩ := hW
  obtain ⟨h0, b0, b1, b2, b3, b4, b5, b6⟩ := h
  exact ⟨h0, (cF_M hM w0).trans b0, (fA_M hM w1).trans b1, (fA_M hM w2).trans b2, (fA_M hM w3).trans b3, (fA_M hM w4).trans b4, (fA_M hM w5).trans b5, (fA_M hM w6).trans b6⟩
theorem rLm_f {W : Nat} {g g1 : pH} {k1 c : Int} {o v le st co en : tC} (hM : f_M W g g1) (hW : W.testBit (cn 196 + 35) = false ∧ W.testBit (cn 222) = false ∧ W.testBit (cn 223) = false ∧ W.testBit (cn 224) = false ∧ W.testBit (cn 225) = false ∧ W.testBit (cn 226) = false) (h : rLm g k1 c o v le st co en) : rLm g1 k1 c o v le st co en := by
  obtain ⟨w0, w1, w2, w3, w4, w5⟩ := hW
  obtain ⟨h0, h1, h2, h3⟩ := h
  refine ⟨h0, (cF_M hM w0).trans h1, fun j hj => ?_, fun j hj => ?_⟩
  · rw [fA_M hM w1]
    exact h2 j hj
  · rw [fA_M hM w2, fA_M hM w3, fA_M hM w4, fA_M hM w5]
    exact h3 j hj
theorem yaeo_164 : eL[164]? = some (0, 2) := by decide +kernel
theorem yaeo_196 : eL[196]? = some (0, 12) := by decide +kernel
theorem yagu_173 : eG (cn 173) = ((-2147483648), 2147483647, []) := by decide +kernel
theorem yagu_228 : eG (cn 228) = ((-2147483648), 2147483647, []) := by decide +kernel
theorem wn_vWg_196_49 : vWg.testBit (cn 196 + 49) = false := by decide +kernel
theorem wm_vWg_199 : vWg.testBit (cn 199) = false := by decide +kernel
theorem wm_vWg_200 : vWg.testBit (cn 200) = false := by decide +kernel
theorem wm_vWg_201 : vWg.testBit (cn 201) = false := by decide +kernel
theorem wm_vWg_202 : vWg.testBit (cn 202) = false := by decide +kernel
theorem yach_164_2 : (eG (cn 164 + 2)).2.2 = [174] := by decide +kernel
theorem yacq_164_2 {d i : Nat} {lv : List (Nat × pv)} {r : List pv} {g : pH} (hG : g_I eG g) : px_push eL d none (.getfield i) 2 2 lv (pvR 164 :: r) g = some (pvR 173 :: r) := pget yaeo_164 (gI_r (r := 173) hG yaeo_164 (Nat.le_of_ble_eq_true rfl) (y := 2) rfl yach_164_2)
theorem yach_196_4 : (eG (cn 196 + 4)).2.2 = [200] := by decide +kernel
theorem yacq_196_4 {d i : Nat} {lv : List (Nat × pv)} {r : List pv} {g : pH} (hG : g_I eG g) : px_push eL d none (.getfield i) 12 4 lv (pvR 196 :: r) g = some (pvR 199 :: r) := pget yaeo_196 (gI_r (r := 199) hG yaeo_196 (Nat.le_of_ble_eq_true rfl) (y := 4) rfl yach_196_4)
theorem yach_196_48 : (eG (cn 196 + 48)).2.2 = [229] := by decide +kernel
theorem yacq_196_48 {d i : Nat} {lv : List (Nat × pv)} {r : List pv} {g : pH} (hG : g_I eG g) : px_push eL d none (.getfield i) 12 48 lv (pvR 196 :: r) g = some (pvR 228 :: r) := pget yaeo_196 (gI_r (r := 228) hG yaeo_196 (Nat.le_of_ble_eq_true rfl) (y := 48) rfl yach_196_48)
theorem yach_196_5 : (eG (cn 196 + 5)).2.2 = [201] := by decide +kernel
theorem yacq_196_5 {d i : Nat} {lv : List (Nat × pv)} {r : List pv} {g : pH} (hG : g_I eG g) : px_push eL d none (.getfield i) 12 5 lv (pvR 196 :: r) g = some (pvR 200 :: r) := pget yaeo_196 (gI_r (r := 200) hG yaeo_196 (Nat.le_of_ble_eq_true rfl) (y := 5) rfl yach_196_5)
theorem yach_196_6 : (eG (cn 196 + 6)).2.2 = [202] := by decide +kernel
theorem yacq_196_6 {d i : Nat} {lv : List (Nat × pv)} {r : List pv} {g : pH} (hG : g_I eG g) : px_push eL d none (.getfield i) 12 6 lv (pvR 196 :: r) g = some (pvR 201 :: r) := pget yaeo_196 (gI_r (r := 201) hG yaeo_196 (Nat.le_of_ble_eq_true rfl) (y := 6) rfl yach_196_6)
theorem yach_196_7 : (eG (cn 196 + 7)).2.2 = [203] := by decide +kernel
theorem yacq_196_7 {d i : Nat} {lv : List (Nat × pv)} {r : List pv} {g : pH} (hG : g_I eG g) : px_push eL d none (.getfield i) 12 7 lv (pvR 196 :: r) g = some (pvR 202 :: r) := pget yaeo_196 (gI_r (r := 202) hG yaeo_196 (Nat.le_of_ble_eq_true rfl) (y := 7) rfl yach_196_7)
theorem yaez_173 : eL[173]? = some (1, 11) := by decide +kernel
theorem yaez_199 : eL[199]? = some (1, 32) := by decide +kernel
theorem yaez_200 : eL[200]? = some (1, 32) := by decide +kernel
theorem yaez_201 : eL[201]? = some (1, 32) := by decide +kernel
theorem yaez_202 : eL[202]? = some (1, 32) := by decide +kernel
theorem yaez_228 : eL[228]? = some (1, 11) := by decide +kernel
theorem wu_vWf_173 : vWf.testBit (cn 173) = true := by decide +kernel
theorem wu_vWg_228 : vWg.testBit (cn 228) = true := by decide +kernel
theorem vsk_run {d : Nat} {g0 g : pH} {p : tC} (hS : vF g0 g p) {P : Option pv × pH → Prop} (hP : ∀ g1 : pH, vF g0 g1 (updI (updI (updI p 8 0) 9 0) 10 0) → P (none, g1)) {lv : List (Nat × pv)} (l0 : px_lg lv 0 = some (pvR 164)) (l1 : px_lg lv 1 = some (oI 0)) (l2 : px_lg lv 2 = some (oI 0)) (l3 : px_lg lv 3 = some (oI 0)) : t_X d 27 0 lv [] g P := by
  refine t_0 vsk_0 rfl (ld_a l0) ?_
  refine t_0 vsk_1 rfl (yacq_164_2 (S_J hS).1) ?_
  show t_X d 27 4 lv [pvR 173] g P
  refine t_0 vsk_4 rfl (pq_b (by decide)) ?_
  refine t_0 vsk_6 rfl (ld_i l1) ?_
  refine ts_a (n := 0) rfl rfl (by decide) vsk_7 hS yaez_173 rfl wu_vWf_173 yagu_173 (by decide) ⟨by omega, by omega⟩ ⟨by omega, by omega⟩ (fun g1 hS1 => ?_)
  replace hS1 : vF g0 g1 (updI p 8 0) := hS1
  show t_X d 27 8 lv [] g1 P
  refine t_0 vsk_8 rfl (ld_a l0) ?_
  refine t_0 vsk_9 rfl (yacq_164_2 (S_J hS1).1) ?_
  show t_X d 27 12 lv [pvR 173] g1 P
  refine t_0 vsk_12 rfl (pq_b (by decide)) ?_
  refine t_0 vsk_14 rfl (ld_i l2) ?_
  refine ts_a (n := 0) rfl rfl (by decide) vsk_15 hS1 yaez_173 rfl wu_vWf_173 yagu_173 (by decide) ⟨by omega, by omega⟩ ⟨by omega, by omega⟩ (fun g2 hS2 => ?_)
  replace hS2 : vF g0 g2 (updI (updI p 8 0) 9 0) := hS2
  show t_X d 27 16 lv [] g2 P
  refine t_0 vsk_16 rfl (ld_a l0) ?_
  refine t_0 vsk_17 rfl (yacq_164_2 (S_J hS2).1) ?_
  show t_X d 27 20 lv [pvR 173] g2 P
  refine t_0 vsk_20 rfl (pq_b (by decide)) ?_
  refine t_0 vsk_22 rfl (ld_i l3) ?_
  refine ts_a (n := 0) rfl rfl (by decide) vsk_23 hS2 yaez_173 rfl wu_vWf_173 yagu_173 (by decide) ⟨by omega, by omega⟩ ⟨by omega, by omega⟩ (fun g3 hS3 => ?_)
  replace hS3 : vF g0 g3 (updI (updI (updI p 8 0) 9 0) 10 0) := hS3
  show t_X d 27 24 lv [] g3 P
  refine t_5 vsk_24 rfl rfl ?_
  exact hP _ hS3
set_option maxHeartbeats 2000000 in
theorem vsf_run {m : Nat} (hm : m < 32) {ki ma ta wo : Int} {w : Nat} (hw : w < 8) {d : Nat} (hd : 1 ≤ d) {g0 : pH} (hG : g_I eG g0) (hs : sdC g0 m ki ma ta wo) {P : Option pv × pH → Prop} (hP : ∀ g1 : pH, J_ vWf g0 g1 → (∀ j : Nat, j < 11 → fA g1 173 j = qF m ki ma ta wo w j) → P (none, g1)) {lv : List (Nat × pv)} (l0 : px_lg lv 0 = some (pvR 164)) (l1 : px_lg lv 1 = some (pvR (4 + 2 * m))) (l2 : px_lg lv 2 = some (oI (w : Int))) (l3 : px_lg lv 3 = some (oI 0)) : t_X d 26 0 lv [] g0 P := by
  obtain ⟨b1, b2, b3, b4⟩ := sd_b hs
  unfold i32R at b1 b2 b3 b4
  have hS : vF g0 g0 (fA g0 173) := S_0 hG
  refine t_0 vsf_0 rfl (ld_a l0) ?_
  refine t_0 vsf_1 rfl (yacq_164_2 (S_J hS).1) ?_
  show t_X d 26 4 lv [pvR 173] g0 P
  refine t_0 vsf_4 rfl rfl ?_
  refine t_0 vsf_5 rfl (ld_a l1) ?_
  refine t_0 vsf_6 rfl (pq_cv (el_s4 hm) rfl (vf_0 hm (S_J hS).1 : cF g0 (4 + 2 * m) 0 = (m : Int))) ?_
  show t_X d 26 9 lv [oI ((m : Int)), oI 0, pvR 173] g0 P
  refine ts_a (n := 0) rfl rfl (by decide) vsf_9 hS yaez_173 rfl wu_vWf_173 yagu_173 (by decide) ⟨by omega, by omega⟩ ⟨by omega, by omega⟩ (fun g1 hS1 => ?_)
  replace hS1 : vF g0 g1 (updI (fA g0 173) 0 (m : Int)) := hS1
  show t_X d 26 10 lv [] g1 P
  refine t_0 vsf_10 rfl (ld_a l0) ?_
  refine t_0 vsf_11 rfl (yacq_164_2 (S_J hS1).1) ?_
  show t_X d 26 14 lv [pvR 173] g1 P
  refine t_0 vsf_14 rfl rfl ?_
  refine t_0 vsf_15 rfl (ld_a l1) ?_
  refine t_0 vsf_16 rfl (pq_cv (el_s4 hm) rfl ((cF_M (S_J hS1).2 (vf_n.1 m hm).2.1).trans hs.1 : cF g1 (4 + 2 * m) 3 = ki)) ?_
  show t_X d 26 19 lv [oI (ki), oI 1, pvR 173] g1 P
  refine ts_a (n := 0) rfl rfl (by decide) vsf_19 hS1 yaez_173 rfl wu_vWf_173 yagu_173 (by decide) ⟨by omega, by omega⟩ ⟨by omega, by omega⟩ (fun g2 hS2 => ?_)
  replace hS2 : vF g0 g2 (updI (updI (fA g0 173) 0 (m : Int)) 1 ki) := hS2
  show t_X d 26 20 lv [] g2 P
  refine t_0 vsf_20 rfl (ld_a l0) ?_
  refine t_0 vsf_21 rfl (yacq_164_2 (S_J hS2).1) ?_
  show t_X d 26 24 lv [pvR 173] g2 P
  refine t_0 vsf_24 rfl rfl ?_
  refine t_0 vsf_25 rfl (ld_a l1) ?_
  refine t_0 vsf_26 rfl (pq_cv (el_s4 hm) rfl ((cF_M (S_J hS2).2 (vf_n.1 m hm).2.2.1).trans hs.2.1 : cF g2 (4 + 2 * m) 4 = ma)) ?_
  show t_X d 26 29 lv [oI (ma), oI 2, pvR 173] g2 P
  refine ts_a (n := 0) rfl rfl (by decide) vsf_29 hS2 yaez_173 rfl wu_vWf_173 yagu_173 (by decide) ⟨by omega, by omega⟩ ⟨by omega, by omega⟩ (fun g3 hS3 => ?_)
  replace hS3 : vF g0 g3 (updI (updI (updI (fA g0 173) 0 (m : Int)) 1 ki) 2 ma) := hS3
  show t_X d 26 30 lv [] g3 P
  refine t_0 vsf_30 rfl (ld_a l0) ?_
  refine t_0 vsf_31 rfl (yacq_164_2 (S_J hS3).1) ?_
  show t_X d 26 34 lv [pvR 173] g3 P
  refine t_0 vsf_34 rfl rfl ?_
  refine t_0 vsf_35 rfl (ld_a l1) ?_
  refine t_0 vsf_36 rfl (pq_cv (el_s4 hm) rfl ((cF_M (S_J hS3).2 (vf_n.1 m hm).2.2.2.2).trans hs.2.2.1 : cF g3 (4 + 2 * m) 6 = ta)) ?_
  show t_X d 26 39 lv [oI (ta), oI 3, pvR 173] g3 P
  refine ts_a (n := 0) rfl rfl (by decide) vsf_39 hS3 yaez_173 rfl wu_vWf_173 yagu_173 (by decide) ⟨by omega, by omega⟩ ⟨by omega, by omega⟩ (fun g4 hS4 => ?_)
  replace hS4 : vF g0 g4 (updI (updI (updI (updI (fA g0 173) 0 (m : Int)) 1 ki) 2 ma) 3 ta) := hS4
  show t_X d 26 40 lv [] g4 P
  refine t_0 vsf_40 rfl (ld_a l0) ?_
  refine t_0 vsf_41 rfl (yacq_164_2 (S_J hS4).1) ?_
  show t_X d 26 44 lv [pvR 173] g4 P
  refine t_0 vsf_44 rfl rfl ?_
  refine t_0 vsf_45 rfl (ld_i l2) ?_
  refine t_0 vsf_46 rfl rfl ?_
  refine t_0 vsf_47 rfl (pq_w3 hw) ?_
  refine ts_a (n := 0) rfl rfl (by decide) vsf_48 hS4 yaez_173 rfl wu_vWf_173 yagu_173 (by decide) ⟨by omega, by omega⟩ ⟨by omega, by omega⟩ (fun g5 hS5 => ?_)
  replace hS5 : vF g0 g5 (updI (updI (updI (updI (updI (fA g0 173) 0 (m : Int)) 1 ki) 2 ma) 3 ta) 4 ((w : Int) % 4)) := hS5
  show t_X d 26 49 lv [] g5 P
  refine t_0 vsf_49 rfl (ld_a l0) ?_
  refine t_0 vsf_50 rfl (yacq_164_2 (S_J hS5).1) ?_
  show t_X d 26 53 lv [pvR 173] g5 P
  refine t_0 vsf_53 rfl rfl ?_
  refine t_0 vsf_54 rfl (ld_i l2) ?_
  refine t_0 vsf_55 rfl rfl ?_
  refine tb_lt vsf_56 (by decide) ⟨by omega, by omega⟩ ⟨by omega, by omega⟩ (fun c6 => ?_) (fun c6 => ?_)
  · show t_X d 26 63 lv [oI 5, pvR 173] g5 P
    refine t_0 vsf_63 rfl rfl ?_
    refine ts_a (n := 0) rfl rfl (by decide) vsf_64 hS5 yaez_173 rfl wu_vWf_173 yagu_173 (by decide) ⟨by omega, by omega⟩ ⟨by omega, by omega⟩ (fun g7 hS7 => ?_)
    replace hS7 : vF g0 g7 (updI (updI (updI (updI (updI (updI (fA g0 173) 0 (m : Int)) 1 ki) 2 ma) 3 ta) 4 ((w : Int) % 4)) 5 0) := hS7
    show t_X d 26 65 lv [] g7 P
    refine t_0 vsf_65 rfl (ld_a l0) ?_
    refine t_0 vsf_66 rfl (yacq_164_2 (S_J hS7).1) ?_
    show t_X d 26 69 lv [pvR 173] g7 P
    refine t_0 vsf_69 rfl (pq_b (by decide)) ?_
    refine t_0 vsf_71 rfl (ld_i l3) ?_
    refine ts_a (n := 0) rfl rfl (by decide) vsf_72 hS7 yaez_173 rfl wu_vWf_173 yagu_173 (by decide) ⟨by omega, by omega⟩ ⟨by omega, by omega⟩ (fun g8 hS8 => ?_)
    replace hS8 : vF g0 g8 (updI (updI (updI (updI (updI (updI (updI (fA g0 173) 0 (m : Int)) 1 ki) 2 ma) 3 ta) 4 ((w : Int) % 4)) 5 0) 6 0) := hS8
    show t_X d 26 73 lv [] g8 P
    refine t_0 vsf_73 rfl (ld_a l0) ?_
    refine t_0 vsf_74 rfl (yacq_164_2 (S_J hS8).1) ?_
    show t_X d 26 77 lv [pvR 173] g8 P
    refine t_0 vsf_77 rfl (pq_b (by decide)) ?_
    refine t_0 vsf_79 rfl (ld_a l1) ?_
    refine t_0 vsf_80 rfl (pq_cv (el_s4 hm) rfl ((cF_M (S_J hS8).2 (vf_n.1 m hm).2.2.2.1).trans hs.2.2.2 : cF g8 (4 + 2 * m) 5 = wo)) ?_
    show t_X d 26 83 lv [oI (wo), oI 7, pvR 173] g8 P
    refine ts_a (n := 0) rfl rfl (by decide) vsf_83 hS8 yaez_173 rfl wu_vWf_173 yagu_173 (by decide) ⟨by omega, by omega⟩ ⟨by omega, by omega⟩ (fun g9 hS9 => ?_)
    replace hS9 : vF g0 g9 (updI (updI (updI (updI (updI (updI (updI (updI (fA g0 173) 0 (m : Int)) 1 ki) 2 ma) 3 ta) 4 ((w : Int) % 4)) 5 0) 6 0) 7 wo) := hS9
    show t_X d 26 84 lv [] g9 P
    refine t_0 vsf_84 rfl (ld_a l0) ?_
    refine t_0 vsf_85 rfl rfl ?_
    refine t_0 vsf_86 rfl rfl ?_
    refine t_0 vsf_87 rfl rfl ?_
    refine t_3 vsf_88 rfl (ar := ([pvR 164, oI 0, oI 0, oI 0], [])) (pcal_w (as := [oI 0, oI 0, oI 0]) rfl rfl rfl yaeo_164) ⟨by omega, Nat.le_of_ble_eq_true rfl, Nat.le_of_ble_eq_true rfl, rfl⟩ ?_
    refine vsk_run hS9 (fun g10 hS10 => ?_) rfl rfl rfl rfl
    replace hS10 : vF g0 g10 (updI (updI (updI (updI (updI (updI (updI (updI (updI (updI (updI (fA g0 173) 0 (m : Int)) 1 ki) 2 ma) 3 ta) 4 ((w : Int) % 4)) 5 0) 6 0) 7 wo) 8 0) 9 0) 10 0) := hS10
    show t_X d 26 91 lv [] g10 P
    refine t_5 vsf_91 rfl rfl ?_
    refine hP _ (S_J hS10) (fun j hj => ?_)
    rw [show fA g10 173 = updI (updI (updI (updI (updI (updI (updI (updI (updI (updI (updI (fA g0 173) 0 (m : Int)) 1 ki) 2 ma) 3 ta) 4 ((w : Int) % 4)) 5 0) 6 0) 7 wo) 8 0) 9 0) 10 0 from S_a hS10 0 (Nat.le_of_ble_eq_true rfl)]
    rcases (show j = 0 ∨ j = 1 ∨ j = 2 ∨ j = 3 ∨ j = 4 ∨ j = 5 ∨ j = 6 ∨ j = 7 ∨ j = 8 ∨ j = 9 ∨ j = 10 by omega) with rfl | rfl | rfl | rfl | rfl | rfl | rfl | rfl | rfl | rfl | rfl
    · rfl
    · rfl
    · rfl
    · rfl
    · rfl
    · show (0 : Int) = (w : Int) / 4; omega
    · rfl
    · rfl
    · rfl
    · rfl
    · rfl
  · show t_X d 26 59 lv [oI 5, pvR 173] g5 P
    refine t_0 vsf_59 rfl rfl ?_
    refine t_1 vsf_60 rfl (pb_goto (pc := 60) (by decide)) ?_
    show t_X d 26 64 lv [oI 1, oI 5, pvR 173] g5 P
    refine ts_a (n := 0) rfl rfl (by decide) vsf_64 hS5 yaez_173 rfl wu_vWf_173 yagu_173 (by decide) ⟨by omega, by omega⟩ ⟨by omega, by omega⟩ (fun g11 hS11 => ?_)
    replace hS11 : vF g0 g11 (updI (updI (updI (updI (updI (updI (fA g0 173) 0 (m : Int)) 1 ki) 2 ma) 3 ta) 4 ((w : Int) % 4)) 5 1) := hS11
    show t_X d 26 65 lv [] g11 P
    refine t_0 vsf_65 rfl (ld_a l0) ?_
    refine t_0 vsf_66 rfl (yacq_164_2 (S_J hS11).1) ?_
    show t_X d 26 69 lv [pvR 173] g11 P
    refine t_0 vsf_69 rfl (pq_b (by decide)) ?_
    refine t_0 vsf_71 rfl (ld_i l3) ?_
    refine ts_a (n := 0) rfl rfl (by decide) vsf_72 hS11 yaez_173 rfl wu_vWf_173 yagu_173 (by decide) ⟨by omega, by omega⟩ ⟨by omega, by omega⟩ (fun g12 hS12 => ?_)
    replace hS12 : vF g0 g12 (updI (updI (updI (updI (updI (updI (updI (fA g0 173) 0 (m : Int)) 1 ki) 2 ma) 3 ta) 4 ((w : Int) % 4)) 5 1) 6 0) := hS12
    show t_X d 26 73 lv [] g12 P
    refine t_0 vsf_73 rfl (ld_a l0) ?_
    refine t_0 vsf_74 rfl (yacq_164_2 (S_J hS12).1) ?_
    show t_X d 26 77 lv [pvR 173] g12 P
    refine t_0 vsf_77 rfl (pq_b (by decide)) ?_
    refine t_0 vsf_79 rfl (ld_a l1) ?_
    refine t_0 vsf_80 rfl (pq_cv (el_s4 hm) rfl ((cF_M (S_J hS12).2 (vf_n.1 m hm).2.2.2.1).trans hs.2.2.2 : cF g12 (4 + 2 * m) 5 = wo)) ?_
    show t_X d 26 83 lv [oI (wo), oI 7, pvR 173] g12 P
    refine ts_a (n := 0) rfl rfl (by decide) vsf_83 hS12 yaez_173 rfl wu_vWf_173 yagu_173 (by decide) ⟨by omega, by omega⟩ ⟨by omega, by omega⟩ (fun g13 hS13 => ?_)
    replace hS13 : vF g0 g13 (updI (updI (updI (updI (updI (updI (updI (updI (fA g0 173) 0 (m : Int)) 1 ki) 2 ma) 3 ta) 4 ((w : Int) % 4)) 5 1) 6 0) 7 wo) := hS13
    show t_X d 26 84 lv [] g13 P
    refine t_0 vsf_84 rfl (ld_a l0) ?_
    refine t_0 vsf_85 rfl rfl ?_
    refine t_0 vsf_86 rfl rfl ?_
    refine t_0 vsf_87 rfl rfl ?_
    refine t_3 vsf_88 rfl (ar := ([pvR 164, oI 0, oI 0, oI 0], [])) (pcal_w (as := [oI 0, oI 0, oI 0]) rfl rfl rfl yaeo_164) ⟨by omega, Nat.le_of_ble_eq_true rfl, Nat.le_of_ble_eq_true rfl, rfl⟩ ?_
    refine vsk_run hS13 (fun g14 hS14 => ?_) rfl rfl rfl rfl
    replace hS14 : vF g0 g14 (updI (updI (updI (updI (updI (updI (updI (updI (updI (updI (updI (fA g0 173) 0 (m : Int)) 1 ki) 2 ma) 3 ta) 4 ((w : Int) % 4)) 5 1) 6 0) 7 wo) 8 0) 9 0) 10 0) := hS14
    show t_X d 26 91 lv [] g14 P
    refine t_5 vsf_91 rfl rfl ?_
    refine hP _ (S_J hS14) (fun j hj => ?_)
    rw [show fA g14 173 = updI (updI (updI (updI (updI (updI (updI (updI (updI (updI (updI (fA g0 173) 0 (m : Int)) 1 ki) 2 ma) 3 ta) 4 ((w : Int) % 4)) 5 1) 6 0) 7 wo) 8 0) 9 0) 10 0 from S_a hS14 0 (Nat.le_of_ble_eq_true rfl)]
    rcases (show j = 0 ∨ j = 1 ∨ j = 2 ∨ j = 3 ∨ j = 4 ∨ j = 5 ∨ j = 6 ∨ j = 7 ∨ j = 8 ∨ j = 9 ∨ j = 10 by omega) with rfl | rfl | rfl | rfl | rfl | rfl | rfl | rfl | rfl | rfl | rfl
    · rfl
    · rfl
    · rfl
    · rfl
    · rfl
    · show (1 : Int) = (w : Int) / 4; omega
    · rfl
    · rfl
    · rfl
    · rfl
    · rfl
set_option maxHeartbeats 2000000 in
theorem vfe_run {m : Nat} (hm : m < 32) {ki ma ta wo : Int} {w : Nat} (hw : w < 8) {d : Nat} {g0 : pH} (hG : g_I eG g0) (hs : sdM g0 m ki ma ta wo) {P : Option pv × pH → Prop} (hP : ∀ g1 : pH, J_ vWg g0 g1 → (∀ j : Nat, j < 11 → fA g1 228 j = qF m ki ma ta wo w j) → P (none, g1)) {lv : List (Nat × pv)} (l0 : px_lg lv 0 = some (pvR 196)) (l1 : px_lg lv 1 = some (oI (m : Int))) (l2 : px_lg lv 2 = some (oI (w : Int))) : t_X d 190 0 lv [] g0 P := by
  obtain ⟨b1, b2, b3, b4⟩ := sdm_b hs
  unfold i32R at b1 b2 b3 b4
  have hS : vG g0 g0 (fA g0 228) := S_0 hG
  refine t_0 vfe_0 rfl (ld_a l0) ?_
  refine t_0 vfe_1 rfl (yacq_196_48 (S_J hS).1) ?_
  show t_X d 190 4 lv [pvR 228] g0 P
  refine t_0 vfe_4 rfl rfl ?_
  refine t_0 vfe_5 rfl (ld_i l1) ?_
  refine ts_a (n := 0) rfl rfl (by decide) vfe_6 hS yaez_228 rfl wu_vWg_228 yagu_228 (by decide) ⟨by omega, by omega⟩ ⟨by omega, by omega⟩ (fun g1 hS1 => ?_)
  replace hS1 : vG g0 g1 (updI (fA g0 228) 0 (m : Int)) := hS1
  show t_X d 190 7 lv [] g1 P
  refine t_0 vfe_7 rfl (ld_a l0) ?_
  refine t_0 vfe_8 rfl (yacq_196_48 (S_J hS1).1) ?_
  show t_X d 190 11 lv [pvR 228] g1 P
  refine t_0 vfe_11 rfl rfl ?_
  refine t_0 vfe_12 rfl (ld_a l0) ?_
  refine t_0 vfe_13 rfl (yacq_196_4 (S_J hS1).1) ?_
  show t_X d 190 16 lv [pvR 199, oI 1, pvR 228] g1 P
  refine t_0 vfe_16 rfl (ld_i l1) ?_
  refine t_0 vfe_17 rfl (pq_iw yaez_199 rfl ⟨by omega, by omega⟩ ((congrFun (fA_M (S_J hS1).2 wm_vWg_199) m).trans hs.1.1)) ?_
  show t_X d 190 18 lv [oI (ki), oI 1, pvR 228] g1 P
  refine ts_a (n := 0) rfl rfl (by decide) vfe_18 hS1 yaez_228 rfl wu_vWg_228 yagu_228 (by decide) ⟨by omega, by omega⟩ ⟨by omega, by omega⟩ (fun g2 hS2 => ?_)
  replace hS2 : vG g0 g2 (updI (updI (fA g0 228) 0 (m : Int)) 1 ki) := hS2
  show t_X d 190 19 lv [] g2 P
  refine t_0 vfe_19 rfl (ld_a l0) ?_
  refine t_0 vfe_20 rfl (yacq_196_48 (S_J hS2).1) ?_
  show t_X d 190 23 lv [pvR 228] g2 P
  refine t_0 vfe_23 rfl rfl ?_
  refine t_0 vfe_24 rfl (ld_a l0) ?_
  refine t_0 vfe_25 rfl (yacq_196_5 (S_J hS2).1) ?_
  show t_X d 190 28 lv [pvR 200, oI 2, pvR 228] g2 P
  refine t_0 vfe_28 rfl (ld_i l1) ?_
  refine t_0 vfe_29 rfl (pq_iw yaez_200 rfl ⟨by omega, by omega⟩ ((congrFun (fA_M (S_J hS2).2 wm_vWg_200) m).trans hs.1.2.1)) ?_
  show t_X d 190 30 lv [oI (ma), oI 2, pvR 228] g2 P
  refine ts_a (n := 0) rfl rfl (by decide) vfe_30 hS2 yaez_228 rfl wu_vWg_228 yagu_228 (by decide) ⟨by omega, by omega⟩ ⟨by omega, by omega⟩ (fun g3 hS3 => ?_)
  replace hS3 : vG g0 g3 (updI (updI (updI (fA g0 228) 0 (m : Int)) 1 ki) 2 ma) := hS3
  show t_X d 190 31 lv [] g3 P
  refine t_0 vfe_31 rfl (ld_a l0) ?_
  refine t_0 vfe_32 rfl (yacq_196_48 (S_J hS3).1) ?_
  show t_X d 190 35 lv [pvR 228] g3 P
  refine t_0 vfe_35 rfl rfl ?_
  refine t_0 vfe_36 rfl (ld_a l0) ?_
  refine t_0 vfe_37 rfl (yacq_196_7 (S_J hS3).1) ?_
  show t_X d 190 40 lv [pvR 202, oI 3, pvR 228] g3 P
  refine t_0 vfe_40 rfl (ld_i l1) ?_
  refine t_0 vfe_41 rfl (pq_iw yaez_202 rfl ⟨by omega, by omega⟩ ((congrFun (fA_M (S_J hS3).2 wm_vWg_202) m).trans hs.1.2.2.1)) ?_
  show t_X d 190 42 lv [oI (ta), oI 3, pvR 228] g3 P
  refine ts_a (n := 0) rfl rfl (by decide) vfe_42 hS3 yaez_228 rfl wu_vWg_228 yagu_228 (by decide) ⟨by omega, by omega⟩ ⟨by omega, by omega⟩ (fun g4 hS4 => ?_)
  replace hS4 : vG g0 g4 (updI (updI (updI (updI (fA g0 228) 0 (m : Int)) 1 ki) 2 ma) 3 ta) := hS4
  show t_X d 190 43 lv [] g4 P
  refine t_0 vfe_43 rfl (ld_a l0) ?_
  refine t_0 vfe_44 rfl (yacq_196_48 (S_J hS4).1) ?_
  show t_X d 190 47 lv [pvR 228] g4 P
  refine t_0 vfe_47 rfl rfl ?_
  refine t_0 vfe_48 rfl (ld_i l2) ?_
  refine t_0 vfe_49 rfl rfl ?_
  refine t_0 vfe_50 rfl (pq_rem ⟨by omega, by omega⟩ ⟨by omega, by omega⟩) ?_
  refine ts_a (n := 0) rfl rfl (by decide) vfe_51 hS4 yaez_228 rfl wu_vWg_228 yagu_228 (by decide) ⟨by omega, by omega⟩ ⟨by omega, by omega⟩ (fun g5 hS5 => ?_)
  replace hS5 : vG g0 g5 (updI (updI (updI (updI (updI (fA g0 228) 0 (m : Int)) 1 ki) 2 ma) 3 ta) 4 ((w : Int) % 4)) := hS5
  show t_X d 190 52 lv [] g5 P
  refine t_0 vfe_52 rfl (ld_a l0) ?_
  refine t_0 vfe_53 rfl (yacq_196_48 (S_J hS5).1) ?_
  show t_X d 190 56 lv [pvR 228] g5 P
  refine t_0 vfe_56 rfl rfl ?_
  refine t_0 vfe_57 rfl (ld_i l2) ?_
  refine t_0 vfe_58 rfl rfl ?_
  refine t_0 vfe_59 rfl (pq_div ⟨by omega, by omega⟩ ⟨by omega, by omega⟩) ?_
  refine ts_a (n := 0) rfl rfl (by decide) vfe_60 hS5 yaez_228 rfl wu_vWg_228 yagu_228 (by decide) ⟨by omega, by omega⟩ ⟨by omega, by omega⟩ (fun g6 hS6 => ?_)
  replace hS6 : vG g0 g6 (updI (updI (updI (updI (updI (updI (fA g0 228) 0 (m : Int)) 1 ki) 2 ma) 3 ta) 4 ((w : Int) % 4)) 5 ((w : Int) / 4)) := hS6
  show t_X d 190 61 lv [] g6 P
  refine t_0 vfe_61 rfl (ld_a l0) ?_
  refine t_0 vfe_62 rfl (yacq_196_48 (S_J hS6).1) ?_
  show t_X d 190 65 lv [pvR 228] g6 P
  refine t_0 vfe_65 rfl (pq_b (by decide)) ?_
  refine t_0 vfe_67 rfl (ld_a l0) ?_
  refine t_0 vfe_68 rfl (pq_cv yaeo_196 rfl ((cF_M (S_J hS6).2 wn_vWg_196_49).trans hs.2 : cF g6 196 49 = 0)) ?_
  show t_X d 190 71 lv [oI 0, oI 6, pvR 228] g6 P
  refine ts_a (n := 0) rfl rfl (by decide) vfe_71 hS6 yaez_228 rfl wu_vWg_228 yagu_228 (by decide) ⟨by omega, by omega⟩ ⟨by omega, by omega⟩ (fun g7 hS7 => ?_)
  replace hS7 : vG g0 g7 (updI (updI (updI (updI (updI (updI (updI (fA g0 228) 0 (m : Int)) 1 ki) 2 ma) 3 ta) 4 ((w : Int) % 4)) 5 ((w : Int) / 4)) 6 0) := hS7
  show t_X d 190 72 lv [] g7 P
  refine t_0 vfe_72 rfl (ld_a l0) ?_
  refine t_0 vfe_73 rfl (yacq_196_48 (S_J hS7).1) ?_
  show t_X d 190 76 lv [pvR 228] g7 P
  refine t_0 vfe_76 rfl (pq_b (by decide)) ?_
  refine t_0 vfe_78 rfl (ld_a l0) ?_
  refine t_0 vfe_79 rfl (yacq_196_6 (S_J hS7).1) ?_
  show t_X d 190 82 lv [pvR 201, oI 7, pvR 228] g7 P
  refine t_0 vfe_82 rfl (ld_i l1) ?_
  refine t_0 vfe_83 rfl (pq_iw yaez_201 rfl ⟨by omega, by omega⟩ ((congrFun (fA_M (S_J hS7).2 wm_vWg_201) m).trans hs.1.2.2.2)) ?_
  show t_X d 190 84 lv [oI (wo), oI 7, pvR 228] g7 P
  refine ts_a (n := 0) rfl rfl (by decide) vfe_84 hS7 yaez_228 rfl wu_vWg_228 yagu_228 (by decide) ⟨by omega, by omega⟩ ⟨by omega, by omega⟩ (fun g8 hS8 => ?_)
  replace hS8 : vG g0 g8 (updI (updI (updI (updI (updI (updI (updI (updI (fA g0 228) 0 (m : Int)) 1 ki) 2 ma) 3 ta) 4 ((w : Int) % 4)) 5 ((w : Int) / 4)) 6 0) 7 wo) := hS8
  show t_X d 190 85 lv [] g8 P
  refine t_0 vfe_85 rfl (ld_a l0) ?_
  refine t_0 vfe_86 rfl (yacq_196_48 (S_J hS8).1) ?_
  show t_X d 190 89 lv [pvR 228] g8 P
  refine t_0 vfe_89 rfl (pq_b (by decide)) ?_
  refine t_0 vfe_91 rfl rfl ?_
  refine ts_a (n := 0) rfl rfl (by decide) vfe_92 hS8 yaez_228 rfl wu_vWg_228 yagu_228 (by decide) ⟨by omega, by omega⟩ ⟨by omega, by omega⟩ (fun g9 hS9 => ?_)
  replace hS9 : vG g0 g9 (updI (updI (updI (updI (updI (updI (updI (updI (updI (fA g0 228) 0 (m : Int)) 1 ki) 2 ma) 3 ta) 4 ((w : Int) % 4)) 5 ((w : Int) / 4)) 6 0) 7 wo) 8 0) := hS9
  show t_X d 190 93 lv [] g9 P
  refine t_0 vfe_93 rfl (ld_a l0) ?_
  refine t_0 vfe_94 rfl (yacq_196_48 (S_J hS9).1) ?_
  show t_X d 190 97 lv [pvR 228] g9 P
  refine t_0 vfe_97 rfl (pq_b (by decide)) ?_
  refine t_0 vfe_99 rfl rfl ?_
  refine ts_a (n := 0) rfl rfl (by decide) vfe_100 hS9 yaez_228 rfl wu_vWg_228 yagu_228 (by decide) ⟨by omega, by omega⟩ ⟨by omega, by omega⟩ (fun g10 hS10 => ?_)
  replace hS10 : vG g0 g10 (updI (updI (updI (updI (updI (updI (updI (updI (updI (updI (fA g0 228) 0 (m : Int)) 1 ki) 2 ma) 3 ta) 4 ((w : Int) % 4)) 5 ((w : Int) / 4)) 6 0) 7 wo) 8 0) 9 0) := hS10
  show t_X d 190 101 lv [] g10 P
  refine t_0 vfe_101 rfl (ld_a l0) ?_
  refine t_0 vfe_102 rfl (yacq_196_48 (S_J hS10).1) ?_
  show t_X d 190 105 lv [pvR 228] g10 P
  refine t_0 vfe_105 rfl (pq_b (by decide)) ?_
  refine t_0 vfe_107 rfl rfl ?_
  refine ts_a (n := 0) rfl rfl (by decide) vfe_108 hS10 yaez_228 rfl wu_vWg_228 yagu_228 (by decide) ⟨by omega, by omega⟩ ⟨by omega, by omega⟩ (fun g11 hS11 => ?_)
  replace hS11 : vG g0 g11 (updI (updI (updI (updI (updI (updI (updI (updI (updI (updI (updI (fA g0 228) 0 (m : Int)) 1 ki) 2 ma) 3 ta) 4 ((w : Int) % 4)) 5 ((w : Int) / 4)) 6 0) 7 wo) 8 0) 9 0) 10 0) := hS11
  show t_X d 190 109 lv [] g11 P
  refine t_5 vfe_109 rfl rfl ?_
  refine hP _ (S_J hS11) (fun j hj => ?_)
  rw [show fA g11 228 = updI (updI (updI (updI (updI (updI (updI (updI (updI (updI (updI (fA g0 228) 0 (m : Int)) 1 ki) 2 ma) 3 ta) 4 ((w : Int) % 4)) 5 ((w : Int) / 4)) 6 0) 7 wo) 8 0) 9 0) 10 0 from S_a hS11 0 (Nat.le_of_ble_eq_true rfl)]
  rcases (show j = 0 ∨ j = 1 ∨ j = 2 ∨ j = 3 ∨ j = 4 ∨ j = 5 ∨ j = 6 ∨ j = 7 ∨ j = 8 ∨ j = 9 ∨ j = 10 by omega) with rfl | rfl | rfl | rfl | rfl | rfl | rfl | rfl | rfl | rfl | rfl
  · rfl
  · rfl
  · rfl
  · rfl
  · rfl
  · rfl
  · rfl
  · rfl
  · rfl
  · rfl
  · rfl
theorem vog_run {K : Nat} (hK : lK K) {m : Nat} (hm : m < 32) {ki ma ta wo : Int} {w : Nat} (hw : w < 8) {d : Nat} (hd : 5 ≤ d) {g0 : pH} (hG : g_I eG g0) (hs : sdC g0 m ki ma ta wo) {k1 c : Int} {o v le st co en : tC} (r0 : g0.2.2.1 164 0 = some K) (hL : rLc g0 K k1 c o v le st co en) {P : Option pv × pH → Prop} (hP : ∀ g1 : pH, J_ (cW K) g0 g1 → P (some (oI (aV o v (qF m ki ma ta wo w) le st co en c 119 99)), g1)) {lv : List (Nat × pv)} (l0 : px_lg lv 0 = some (pvR 164)) (l1 : px_lg lv 1 = some (pvR (4 + 2 * m))) (l2 : px_lg lv 2 = some (oI (w : Int))) : t_X d 22 0 lv [] g0 P := by
  refine t_0 vog_0 rfl (ld_a l0) ?_
  refine t_0 vog_1 rfl (ld_a l1) ?_
  refine t_0 vog_2 rfl (ld_i l2) ?_
  refine t_0 vog_3 rfl rfl ?_
  refine t_3 vog_4 rfl (ar := ([pvR 164, pvR (4 + 2 * m), oI ((w : Int)), oI 0], [])) (pcal_w (as := [oI 0, oI ((w : Int)), pvR (4 + 2 * m)]) rfl rfl rfl yaeo_164) ⟨by omega, Nat.le_of_ble_eq_true rfl, Nat.le_of_ble_eq_true rfl, rfl⟩ ?_
  refine vsf_run hm hw (by omega) hG hs (fun g1 J1 hf => ?_) rfl rfl rfl rfl
  have r1 : g1.2.2.1 164 0 = some K := ((J1.2.1 164 0 (cW_b hK).2.2).2.2).trans r0
  have L1 := rLc_f J1.2 (cW_b hK).2.1 hL
  obtain ⟨⟨a1, a2, a3⟩, b0, b1, b2, b3, b4, b5, b6⟩ := L1
  show t_X d 22 7 lv [] g1 P
  refine t_0 vog_7 rfl (ld_a l0) ?_
  refine t_0 vog_8 rfl (pq_ro yaeo_164 rfl r1) ?_
  show t_X d 22 11 lv [pvR K] g1 P
  refine t_0 vog_11 rfl (pq_b (by decide)) ?_
  refine t_0 vog_13 rfl (pq_b (by decide)) ?_
  refine t_0 vog_15 rfl (ld_a l0) ?_
  refine t_0 vog_16 rfl (yacq_164_2 J1.1) ?_
  show t_X d 22 19 lv [pvR 173, oI 99, oI 119, pvR K] g1 P
  refine t_3 vog_19 rfl (ar := ([pvR K, oI 119, oI 99, pvR 173], [])) (pcal_w (as := [pvR 173, oI 99, oI 119]) rfl rfl rfl (lk_e hK)) ⟨by omega, Nat.le_of_ble_eq_true rfl, Nat.le_of_ble_eq_true rfl, rfl⟩ ?_
  refine rvo_run hK (by omega) b0 b1 b2 b3 b4 b5 b6 rfl (fun j => i32_b _) a1 a2 a3 (by decide) (by decide) (rE_J (J_rf J1.1)) (fun g2 J2 => ?_) rfl rfl rfl rfl
  show t_X d 22 22 lv [oI (aV o v (fA g1 173) le st co en c 119 99)] g2 P
  refine t_5 vog_22 rfl rfl ?_
  have h9 := hP g2 (J_up (cW_b hK).1.2 (J_up (cW_b hK).1.1 (J_rf hG) J1) J2)
  rw [← aV_e (f := fA g1 173) hf a1] at h9
  exact h9
theorem vtu_run {K : Nat} (hK : lK K) {m : Nat} (hm : m < 32) {ki ma ta wo : Int} {w : Nat} (hw : w < 8) {d : Nat} (hd : 5 ≤ d) {g0 : pH} (hG : g_I eG g0) (hs : sdC g0 m ki ma ta wo) {k1 c : Int} {o v le st co en : tC} (r0 : g0.2.2.1 164 0 = some K) (hL : rLc g0 K k1 c o v le st co en) {P : Option pv × pH → Prop} (hP : ∀ g1 : pH, J_ (cW K) g0 g1 → P (some (oI (aV o v (qF m ki ma ta wo w) le st co en c 116 99)), g1)) {lv : List (Nat × pv)} (l0 : px_lg lv 0 = some (pvR 164)) (l1 : px_lg lv 1 = some (pvR (4 + 2 * m))) (l2 : px_lg lv 2 = some (oI (w : Int))) (l3 : px_lg lv 3 = some (oI 0)) : t_X d 29 0 lv [] g0 P := by
  refine t_0 vtu_0 rfl (ld_a l0) ?_
  refine t_0 vtu_1 rfl (ld_a l1) ?_
  refine t_0 vtu_2 rfl (ld_i l2) ?_
  refine t_0 vtu_3 rfl (ld_i l3) ?_
  refine t_3 vtu_4 rfl (ar := ([pvR 164, pvR (4 + 2 * m), oI ((w : Int)), oI 0], [])) (pcal_w (as := [oI 0, oI ((w : Int)), pvR (4 + 2 * m)]) rfl rfl rfl yaeo_164) ⟨by omega, Nat.le_of_ble_eq_true rfl, Nat.le_of_ble_eq_true rfl, rfl⟩ ?_
  refine vsf_run hm hw (by omega) hG hs (fun g1 J1 hf => ?_) rfl rfl rfl rfl
  have r1 : g1.2.2.1 164 0 = some K := ((J1.2.1 164 0 (cW_b hK).2.2).2.2).trans r0
  have L1 := rLc_f J1.2 (cW_b hK).2.1 hL
  obtain ⟨⟨a1, a2, a3⟩, b0, b1, b2, b3, b4, b5, b6⟩ := L1
  show t_X d 29 7 lv [] g1 P
  refine t_0 vtu_7 rfl (ld_a l0) ?_
  refine t_0 vtu_8 rfl (pq_ro yaeo_164 rfl r1) ?_
  show t_X d 29 11 lv [pvR K] g1 P
  refine t_0 vtu_11 rfl (pq_b (by decide)) ?_
  refine t_0 vtu_13 rfl (pq_b (by decide)) ?_
  refine t_0 vtu_15 rfl (ld_a l0) ?_
  refine t_0 vtu_16 rfl (yacq_164_2 J1.1) ?_
  show t_X d 29 19 lv [pvR 173, oI 99, oI 116, pvR K] g1 P
  refine t_3 vtu_19 rfl (ar := ([pvR K, oI 116, oI 99, pvR 173], [])) (pcal_w (as := [pvR 173, oI 99, oI 116]) rfl rfl rfl (lk_e hK)) ⟨by omega, Nat.le_of_ble_eq_true rfl, Nat.le_of_ble_eq_true rfl, rfl⟩ ?_
  refine rvo_run hK (by omega) b0 b1 b2 b3 b4 b5 b6 rfl (fun j => i32_b _) a1 a2 a3 (by decide) (by decide) (rE_J (J_rf J1.1)) (fun g2 J2 => ?_) rfl rfl rfl rfl
  show t_X d 29 22 lv [oI (aV o v (fA g1 173) le st co en c 116 99)] g2 P
  refine t_5 vtu_22 rfl rfl ?_
  have h9 := hP g2 (J_up (cW_b hK).1.2 (J_up (cW_b hK).1.1 (J_rf hG) J1) J2)
  rw [← aV_e (f := fA g1 173) hf a1] at h9
  exact h9
theorem vqa_run {m : Nat} (hm : m < 32) {ki ma ta wo : Int} {w : Nat} (hw : w < 8) {d : Nat} (hd : 4 ≤ d) {g0 : pH} (hG : g_I eG g0) (hs : sdM g0 m ki ma ta wo) {k1 c : Int} {o v le st co en : tC} (hL : rLm g0 k1 c o v le st co en) {lt hi : Int} (hlt : 0 ≤ lt ∧ lt ≤ 200) (hhi : 0 ≤ hi ∧ hi ≤ 9999) {P : Option pv × pH → Prop} (hP : ∀ g1 : pH, J_ mW9 g0 g1 → P (some (oI (aV o v (qF m ki ma ta wo w) le st co en c lt hi)), g1)) {lv : List (Nat × pv)} (l0 : px_lg lv 0 = some (pvR 196)) (l1 : px_lg lv 1 = some (oI (m : Int))) (l2 : px_lg lv 2 = some (oI (w : Int))) (l3 : px_lg lv 3 = some (oI lt)) (l4 : px_lg lv 4 = some (oI hi)) : t_X d 169 0 lv [] g0 P := by
  refine t_0 vqa_0 rfl (ld_a l0) ?_
  refine t_0 vqa_1 rfl (ld_i l1) ?_
  refine t_0 vqa_2 rfl (ld_i l2) ?_
  refine t_3 vqa_3 rfl (ar := ([pvR 196, oI ((m : Int)), oI ((w : Int))], [])) (pcal_w (as := [oI ((w : Int)), oI ((m : Int))]) rfl rfl rfl yaeo_196) ⟨by omega, Nat.le_of_ble_eq_true rfl, Nat.le_of_ble_eq_true rfl, rfl⟩ ?_
  refine vfe_run hm hw hG hs (fun g1 J1 hf => ?_) rfl rfl rfl
  obtain ⟨⟨a1, a2, a3⟩, b0, b1, b2⟩ := rLm_f J1.2 mW_b.2 hL
  show t_X d 169 6 lv [] g1 P
  refine t_0 vqa_6 rfl (ld_a l0) ?_
  refine t_0 vqa_7 rfl (ld_i l3) ?_
  refine t_0 vqa_8 rfl (ld_i l4) ?_
  refine t_3 vqa_10 rfl (ar := ([pvR 196, oI (lt), oI (hi)], [])) (pcal_w (as := [oI (hi), oI (lt)]) rfl rfl rfl yaeo_196) ⟨by omega, Nat.le_of_ble_eq_true rfl, Nat.le_of_ble_eq_true rfl, rfl⟩ ?_
  refine nbl_run (by omega) b0 b1 b2 rfl (fun j => i32_b _) a1 a2 a3 hlt hhi (qE_J (J_rf J1.1)) (fun g2 J2 => ?_) rfl rfl rfl
  show t_X d 169 13 lv [oI (aV o v (fA g1 228) le st co en c lt hi)] g2 P
  refine t_5 vqa_13 rfl rfl ?_
  have h9 := hP g2 (J_up mW_b.1.2 (J_up mW_b.1.1 (J_rf hG) J1) J2)
  rw [← aV_e (f := fA g1 228) hf a1] at h9
  exact h9
