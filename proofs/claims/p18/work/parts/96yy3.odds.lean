/-! odds: both sides, the pair (printed by wip/e2/x17.py) -/
theorem vlh_0 : xe_look (xc 214) 0 = some (.iconst 0, 1, 0, 0, 0) := by decide +kernel
theorem vlh_1 : xe_look (xc 214) 1 = some (.istore_n 2, 1, 0, 0, 0) := by decide +kernel
theorem vlh_2 : xe_look (xc 214) 2 = some (.iconst 0, 1, 0, 0, 0) := by decide +kernel
theorem vlh_3 : xe_look (xc 214) 3 = some (.istore_n 3, 1, 0, 0, 0) := by decide +kernel
theorem vlh_4 : xe_look (xc 214) 4 = some (.iload_n 3, 1, 0, 0, 0) := by decide +kernel
theorem vlh_5 : xe_look (xc 214) 5 = some (.bipush 8, 2, 0, 0, 0) := by decide +kernel
theorem vlh_7 : xe_look (xc 214) 7 = some (.if_icmp .ge 34, 3, 0, 0, 0) := by decide +kernel
theorem vlh_10 : xe_look (xc 214) 10 = some (.aload_n 0, 1, 0, 0, 0) := by decide +kernel
theorem vlh_11 : xe_look (xc 214) 11 = some (.getfield 107, 3, 12, 55, 1187) := by decide +kernel
theorem vlh_14 : xe_look (xc 214) 14 = some (.iload_n 3, 1, 0, 0, 0) := by decide +kernel
theorem vlh_15 : xe_look (xc 214) 15 = some (.aload_n 0, 1, 0, 0, 0) := by decide +kernel
theorem vlh_16 : xe_look (xc 214) 16 = some (.iload_n 1, 1, 0, 0, 0) := by decide +kernel
theorem vlh_17 : xe_look (xc 214) 17 = some (.iload_n 3, 1, 0, 0, 0) := by decide +kernel
theorem vlh_18 : xe_look (xc 214) 18 = some (.bipush 119, 2, 0, 0, 0) := by decide +kernel
theorem vlh_20 : xe_look (xc 214) 20 = some (.bipush 99, 2, 0, 0, 0) := by decide +kernel
theorem vlh_22 : xe_look (xc 214) 22 = some (.invokevirtual 391, 3, 0, 169, 1234) := by decide +kernel
theorem vlh_25 : xe_look (xc 214) 25 = some (.iastore, 1, 0, 0, 0) := by decide +kernel
theorem vlh_26 : xe_look (xc 214) 26 = some (.iload_n 2, 1, 0, 0, 0) := by decide +kernel
theorem vlh_27 : xe_look (xc 214) 27 = some (.aload_n 0, 1, 0, 0, 0) := by decide +kernel
theorem vlh_28 : xe_look (xc 214) 28 = some (.getfield 107, 3, 12, 55, 1187) := by decide +kernel
theorem vlh_31 : xe_look (xc 214) 31 = some (.iload_n 3, 1, 0, 0, 0) := by decide +kernel
theorem vlh_32 : xe_look (xc 214) 32 = some (.iaload, 1, 0, 0, 0) := by decide +kernel
theorem vlh_33 : xe_look (xc 214) 33 = some (.iadd, 1, 0, 0, 0) := by decide +kernel
theorem vlh_34 : xe_look (xc 214) 34 = some (.istore_n 2, 1, 0, 0, 0) := by decide +kernel
theorem vlh_35 : xe_look (xc 214) 35 = some (.iinc 3 1, 3, 0, 0, 0) := by decide +kernel
theorem vlh_38 : xe_look (xc 214) 38 = some (.goto (-34), 3, 0, 0, 0) := by decide +kernel
theorem vlh_41 : xe_look (xc 214) 41 = some (.iload_n 2, 1, 0, 0, 0) := by decide +kernel
theorem vlh_42 : xe_look (xc 214) 42 = some (.ireturn, 1, 0, 0, 0) := by decide +kernel
theorem vod_0 : xe_look (xc 137) 0 = some (.aload_n 0, 1, 0, 0, 0) := by decide +kernel
theorem vod_1 : xe_look (xc 137) 1 = some (.getfield 16, 3, 11, 2, 983) := by decide +kernel
theorem vod_4 : xe_look (xc 137) 4 = some (.iload_n 1, 1, 0, 0, 0) := by decide +kernel
theorem vod_5 : xe_look (xc 137) 5 = some (.invokevirtual 107, 3, 0, 84, 984) := by decide +kernel
theorem vod_8 : xe_look (xc 137) 8 = some (.astore 5, 2, 0, 0, 0) := by decide +kernel
theorem vod_10 : xe_look (xc 137) 10 = some (.aload 5, 2, 0, 0, 0) := by decide +kernel
theorem vod_12 : xe_look (xc 137) 12 = some (.ifnull 20, 3, 0, 0, 0) := by decide +kernel
theorem vod_15 : xe_look (xc 137) 15 = some (.iload_n 2, 1, 0, 0, 0) := by decide +kernel
theorem vod_16 : xe_look (xc 137) 16 = some (.invokestatic 111, 3, 0, 125, 1075) := by decide +kernel
theorem vod_19 : xe_look (xc 137) 19 = some (.ifCond .eq 13, 3, 0, 0, 0) := by decide +kernel
theorem vod_22 : xe_look (xc 137) 22 = some (.iload 4, 2, 0, 0, 0) := by decide +kernel
theorem vod_24 : xe_look (xc 137) 24 = some (.iconst 0, 1, 0, 0, 0) := by decide +kernel
theorem vod_25 : xe_look (xc 137) 25 = some (.iconst 1, 1, 0, 0, 0) := by decide +kernel
theorem vod_26 : xe_look (xc 137) 26 = some (.invokestatic 89, 3, 0, 124, 994) := by decide +kernel
theorem vod_29 : xe_look (xc 137) 29 = some (.ifCond .ne 5, 3, 0, 0, 0) := by decide +kernel
theorem vod_32 : xe_look (xc 137) 32 = some (.iconst (-1), 1, 0, 0, 0) := by decide +kernel
theorem vod_33 : xe_look (xc 137) 33 = some (.ireturn, 1, 0, 0, 0) := by decide +kernel
theorem vod_34 : xe_look (xc 137) 34 = some (.iload_n 3, 1, 0, 0, 0) := by decide +kernel
theorem vod_35 : xe_look (xc 137) 35 = some (.iconst 0, 1, 0, 0, 0) := by decide +kernel
theorem vod_36 : xe_look (xc 137) 36 = some (.bipush 8, 2, 0, 0, 0) := by decide +kernel
theorem vod_38 : xe_look (xc 137) 38 = some (.invokestatic 89, 3, 0, 124, 994) := by decide +kernel
theorem vod_41 : xe_look (xc 137) 41 = some (.ifCond .eq 13, 3, 0, 0, 0) := by decide +kernel
theorem vod_44 : xe_look (xc 137) 44 = some (.iconst 3, 1, 0, 0, 0) := by decide +kernel
theorem vod_45 : xe_look (xc 137) 45 = some (.iload_n 3, 1, 0, 0, 0) := by decide +kernel
theorem vod_46 : xe_look (xc 137) 46 = some (.imul, 1, 0, 0, 0) := by decide +kernel
theorem vod_47 : xe_look (xc 137) 47 = some (.aload_n 0, 1, 0, 0, 0) := by decide +kernel
theorem vod_48 : xe_look (xc 137) 48 = some (.getfield 81, 3, 11, 1, 981) := by decide +kernel
theorem vod_51 : xe_look (xc 137) 51 = some (.if_icmp .le 5, 3, 0, 0, 0) := by decide +kernel
theorem vod_54 : xe_look (xc 137) 54 = some (.iconst (-1), 1, 0, 0, 0) := by decide +kernel
theorem vod_55 : xe_look (xc 137) 55 = some (.ireturn, 1, 0, 0, 0) := by decide +kernel
theorem vod_56 : xe_look (xc 137) 56 = some (.aload_n 0, 1, 0, 0, 0) := by decide +kernel
theorem vod_57 : xe_look (xc 137) 57 = some (.iconst 0, 1, 0, 0, 0) := by decide +kernel
theorem vod_58 : xe_look (xc 137) 58 = some (.putfield 81, 3, 11, 1, 981) := by decide +kernel
theorem vod_61 : xe_look (xc 137) 61 = some (.iconst 0, 1, 0, 0, 0) := by decide +kernel
theorem vod_62 : xe_look (xc 137) 62 = some (.istore 6, 2, 0, 0, 0) := by decide +kernel
theorem vod_64 : xe_look (xc 137) 64 = some (.iconst 0, 1, 0, 0, 0) := by decide +kernel
theorem vod_65 : xe_look (xc 137) 65 = some (.istore 7, 2, 0, 0, 0) := by decide +kernel
theorem vod_67 : xe_look (xc 137) 67 = some (.iconst 0, 1, 0, 0, 0) := by decide +kernel
theorem vod_68 : xe_look (xc 137) 68 = some (.istore 8, 2, 0, 0, 0) := by decide +kernel
theorem vod_70 : xe_look (xc 137) 70 = some (.iload 8, 2, 0, 0, 0) := by decide +kernel
theorem vod_72 : xe_look (xc 137) 72 = some (.bipush 8, 2, 0, 0, 0) := by decide +kernel
theorem vod_74 : xe_look (xc 137) 74 = some (.if_icmp .ge 56, 3, 0, 0, 0) := by decide +kernel
theorem vod_77 : xe_look (xc 137) 77 = some (.aload_n 0, 1, 0, 0, 0) := by decide +kernel
theorem vod_78 : xe_look (xc 137) 78 = some (.aload 5, 2, 0, 0, 0) := by decide +kernel
theorem vod_80 : xe_look (xc 137) 80 = some (.iload 8, 2, 0, 0, 0) := by decide +kernel
theorem vod_82 : xe_look (xc 137) 82 = some (.iload_n 3, 1, 0, 0, 0) := by decide +kernel
theorem vod_83 : xe_look (xc 137) 83 = some (.invokevirtual 241, 3, 0, 153, 1076) := by decide +kernel
theorem vod_86 : xe_look (xc 137) 86 = some (.ifCond .eq 38, 3, 0, 0, 0) := by decide +kernel
theorem vod_89 : xe_look (xc 137) 89 = some (.aload_n 0, 1, 0, 0, 0) := by decide +kernel
theorem vod_90 : xe_look (xc 137) 90 = some (.getfield 36, 3, 11, 8, 1003) := by decide +kernel
theorem vod_93 : xe_look (xc 137) 93 = some (.aload 5, 2, 0, 0, 0) := by decide +kernel
theorem vod_95 : xe_look (xc 137) 95 = some (.iload 8, 2, 0, 0, 0) := by decide +kernel
theorem vod_97 : xe_look (xc 137) 97 = some (.invokevirtual 245, 3, 0, 22, 1077) := by decide +kernel
theorem vod_100 : xe_look (xc 137) 100 = some (.istore 9, 2, 0, 0, 0) := by decide +kernel
theorem vod_102 : xe_look (xc 137) 102 = some (.iload 6, 2, 0, 0, 0) := by decide +kernel
theorem vod_104 : xe_look (xc 137) 104 = some (.iload 9, 2, 0, 0, 0) := by decide +kernel
theorem vod_106 : xe_look (xc 137) 106 = some (.iadd, 1, 0, 0, 0) := by decide +kernel
theorem vod_107 : xe_look (xc 137) 107 = some (.istore 6, 2, 0, 0, 0) := by decide +kernel
theorem vod_109 : xe_look (xc 137) 109 = some (.iload 8, 2, 0, 0, 0) := by decide +kernel
theorem vod_111 : xe_look (xc 137) 111 = some (.iload_n 2, 1, 0, 0, 0) := by decide +kernel
theorem vod_112 : xe_look (xc 137) 112 = some (.if_icmp .ne 8, 3, 0, 0, 0) := by decide +kernel
theorem vod_115 : xe_look (xc 137) 115 = some (.iload 9, 2, 0, 0, 0) := by decide +kernel
theorem vod_117 : xe_look (xc 137) 117 = some (.goto 5, 3, 0, 0, 0) := by decide +kernel
theorem vod_120 : xe_look (xc 137) 120 = some (.iload 7, 2, 0, 0, 0) := by decide +kernel
theorem vod_122 : xe_look (xc 137) 122 = some (.istore 7, 2, 0, 0, 0) := by decide +kernel
theorem vod_124 : xe_look (xc 137) 124 = some (.iinc 8 1, 3, 0, 0, 0) := by decide +kernel
theorem vod_127 : xe_look (xc 137) 127 = some (.goto (-57), 3, 0, 0, 0) := by decide +kernel
theorem vod_130 : xe_look (xc 137) 130 = some (.iload 6, 2, 0, 0, 0) := by decide +kernel
theorem vod_132 : xe_look (xc 137) 132 = some (.ifCond .ne 8, 3, 0, 0, 0) := by decide +kernel
theorem vod_135 : xe_look (xc 137) 135 = some (.bipush (-2), 2, 0, 0, 0) := by decide +kernel
theorem vod_137 : xe_look (xc 137) 137 = some (.goto 23, 3, 0, 0, 0) := by decide +kernel
theorem vod_140 : xe_look (xc 137) 140 = some (.iload 7, 2, 0, 0, 0) := by decide +kernel
theorem vod_142 : xe_look (xc 137) 142 = some (.i2l, 1, 0, 0, 0) := by decide +kernel
theorem vod_143 : xe_look (xc 137) 143 = some (.iload 6, 2, 0, 0, 0) := by decide +kernel
theorem vod_145 : xe_look (xc 137) 145 = some (.i2l, 1, 0, 0, 0) := by decide +kernel
theorem vod_146 : xe_look (xc 137) 146 = some (.iload 4, 2, 0, 0, 0) := by decide +kernel
theorem vod_148 : xe_look (xc 137) 148 = some (.ifCond .ne 7, 3, 0, 0, 0) := by decide +kernel
theorem vod_151 : xe_look (xc 137) 151 = some (.iconst 1, 1, 0, 0, 0) := by decide +kernel
theorem vod_152 : xe_look (xc 137) 152 = some (.goto 4, 3, 0, 0, 0) := by decide +kernel
theorem vod_155 : xe_look (xc 137) 155 = some (.iconst 0, 1, 0, 0, 0) := by decide +kernel
theorem vod_156 : xe_look (xc 137) 156 = some (.invokestatic 249, 3, 0, 138, 1024) := by decide +kernel
theorem vod_159 : xe_look (xc 137) 159 = some (.l2i, 1, 0, 0, 0) := by decide +kernel
theorem vod_160 : xe_look (xc 137) 160 = some (.ireturn, 1, 0, 0, 0) := by decide +kernel
theorem vom_0 : xe_look (xc 228) 0 = some (.aload_n 0, 1, 0, 0, 0) := by decide +kernel
theorem vom_1 : xe_look (xc 228) 1 = some (.iload_n 1, 1, 0, 0, 0) := by decide +kernel
theorem vom_2 : xe_look (xc 228) 2 = some (.invokevirtual 205, 3, 0, 205, 1130) := by decide +kernel
theorem vom_5 : xe_look (xc 228) 5 = some (.ifCond .eq 40, 3, 0, 0, 0) := by decide +kernel
theorem vom_8 : xe_look (xc 228) 8 = some (.iload_n 2, 1, 0, 0, 0) := by decide +kernel
theorem vom_9 : xe_look (xc 228) 9 = some (.invokestatic 209, 3, 0, 206, 1251) := by decide +kernel
theorem vom_12 : xe_look (xc 228) 12 = some (.ifCond .eq 33, 3, 0, 0, 0) := by decide +kernel
theorem vom_15 : xe_look (xc 228) 15 = some (.iload_n 3, 1, 0, 0, 0) := by decide +kernel
theorem vom_16 : xe_look (xc 228) 16 = some (.iconst 0, 1, 0, 0, 0) := by decide +kernel
theorem vom_17 : xe_look (xc 228) 17 = some (.bipush 8, 2, 0, 0, 0) := by decide +kernel
theorem vom_19 : xe_look (xc 228) 19 = some (.invokestatic 201, 3, 0, 199, 1131) := by decide +kernel
theorem vom_22 : xe_look (xc 228) 22 = some (.ifCond .eq 23, 3, 0, 0, 0) := by decide +kernel
theorem vom_25 : xe_look (xc 228) 25 = some (.iload 4, 2, 0, 0, 0) := by decide +kernel
theorem vom_27 : xe_look (xc 228) 27 = some (.iconst 0, 1, 0, 0, 0) := by decide +kernel
theorem vom_28 : xe_look (xc 228) 28 = some (.iconst 1, 1, 0, 0, 0) := by decide +kernel
theorem vom_29 : xe_look (xc 228) 29 = some (.invokestatic 201, 3, 0, 199, 1131) := by decide +kernel
theorem vom_32 : xe_look (xc 228) 32 = some (.ifCond .eq 13, 3, 0, 0, 0) := by decide +kernel
theorem vom_35 : xe_look (xc 228) 35 = some (.iconst 3, 1, 0, 0, 0) := by decide +kernel
theorem vom_36 : xe_look (xc 228) 36 = some (.iload_n 3, 1, 0, 0, 0) := by decide +kernel
theorem vom_37 : xe_look (xc 228) 37 = some (.imul, 1, 0, 0, 0) := by decide +kernel
theorem vom_38 : xe_look (xc 228) 38 = some (.aload_n 0, 1, 0, 0, 0) := by decide +kernel
theorem vom_39 : xe_look (xc 228) 39 = some (.getfield 194, 3, 12, 17, 1132) := by decide +kernel
theorem vom_42 : xe_look (xc 228) 42 = some (.if_icmp .le 5, 3, 0, 0, 0) := by decide +kernel
theorem vom_45 : xe_look (xc 228) 45 = some (.iconst (-1), 1, 0, 0, 0) := by decide +kernel
theorem vom_46 : xe_look (xc 228) 46 = some (.ireturn, 1, 0, 0, 0) := by decide +kernel
theorem vom_47 : xe_look (xc 228) 47 = some (.aload_n 0, 1, 0, 0, 0) := by decide +kernel
theorem vom_48 : xe_look (xc 228) 48 = some (.iconst 0, 1, 0, 0, 0) := by decide +kernel
theorem vom_49 : xe_look (xc 228) 49 = some (.putfield 194, 3, 12, 17, 1132) := by decide +kernel
theorem vom_52 : xe_look (xc 228) 52 = some (.aload_n 0, 1, 0, 0, 0) := by decide +kernel
theorem vom_53 : xe_look (xc 228) 53 = some (.iload_n 1, 1, 0, 0, 0) := by decide +kernel
theorem vom_54 : xe_look (xc 228) 54 = some (.invokevirtual 434, 3, 0, 214, 1186) := by decide +kernel
theorem vom_57 : xe_look (xc 228) 57 = some (.pop, 1, 0, 0, 0) := by decide +kernel
theorem vom_58 : xe_look (xc 228) 58 = some (.iconst 0, 1, 0, 0, 0) := by decide +kernel
theorem vom_59 : xe_look (xc 228) 59 = some (.istore 5, 2, 0, 0, 0) := by decide +kernel
theorem vom_61 : xe_look (xc 228) 61 = some (.iconst 0, 1, 0, 0, 0) := by decide +kernel
theorem vom_62 : xe_look (xc 228) 62 = some (.istore 6, 2, 0, 0, 0) := by decide +kernel
theorem vom_64 : xe_look (xc 228) 64 = some (.iload 6, 2, 0, 0, 0) := by decide +kernel
theorem vom_66 : xe_look (xc 228) 66 = some (.bipush 8, 2, 0, 0, 0) := by decide +kernel
theorem vom_68 : xe_look (xc 228) 68 = some (.if_icmp .ge 36, 3, 0, 0, 0) := by decide +kernel
theorem vom_71 : xe_look (xc 228) 71 = some (.iload 5, 2, 0, 0, 0) := by decide +kernel
theorem vom_73 : xe_look (xc 228) 73 = some (.aload_n 0, 1, 0, 0, 0) := by decide +kernel
theorem vom_74 : xe_look (xc 228) 74 = some (.iload_n 1, 1, 0, 0, 0) := by decide +kernel
theorem vom_75 : xe_look (xc 228) 75 = some (.iload 6, 2, 0, 0, 0) := by decide +kernel
theorem vom_77 : xe_look (xc 228) 77 = some (.iload_n 3, 1, 0, 0, 0) := by decide +kernel
theorem vom_78 : xe_look (xc 228) 78 = some (.invokevirtual 437, 3, 0, 249, 1252) := by decide +kernel
theorem vom_81 : xe_look (xc 228) 81 = some (.ifCond .eq 13, 3, 0, 0, 0) := by decide +kernel
theorem vom_84 : xe_look (xc 228) 84 = some (.aload_n 0, 1, 0, 0, 0) := by decide +kernel
theorem vom_85 : xe_look (xc 228) 85 = some (.getfield 107, 3, 12, 55, 1187) := by decide +kernel
theorem vom_88 : xe_look (xc 228) 88 = some (.iload 6, 2, 0, 0, 0) := by decide +kernel
theorem vom_90 : xe_look (xc 228) 90 = some (.iaload, 1, 0, 0, 0) := by decide +kernel
theorem vom_91 : xe_look (xc 228) 91 = some (.goto 4, 3, 0, 0, 0) := by decide +kernel
theorem vom_94 : xe_look (xc 228) 94 = some (.iconst 0, 1, 0, 0, 0) := by decide +kernel
theorem vom_95 : xe_look (xc 228) 95 = some (.iadd, 1, 0, 0, 0) := by decide +kernel
theorem vom_96 : xe_look (xc 228) 96 = some (.istore 5, 2, 0, 0, 0) := by decide +kernel
theorem vom_98 : xe_look (xc 228) 98 = some (.iinc 6 1, 3, 0, 0, 0) := by decide +kernel
theorem vom_101 : xe_look (xc 228) 101 = some (.goto (-37), 3, 0, 0, 0) := by decide +kernel
theorem vom_104 : xe_look (xc 228) 104 = some (.iload 5, 2, 0, 0, 0) := by decide +kernel
theorem vom_106 : xe_look (xc 228) 106 = some (.ifCond .ne 6, 3, 0, 0, 0) := by decide +kernel
theorem vom_109 : xe_look (xc 228) 109 = some (.bipush (-2), 2, 0, 0, 0) := by decide +kernel
theorem vom_111 : xe_look (xc 228) 111 = some (.ireturn, 1, 0, 0, 0) := by decide +kernel
theorem vom_112 : xe_look (xc 228) 112 = some (.aload_n 0, 1, 0, 0, 0) := by decide +kernel
theorem vom_113 : xe_look (xc 228) 113 = some (.iload_n 1, 1, 0, 0, 0) := by decide +kernel
theorem vom_114 : xe_look (xc 228) 114 = some (.iload_n 2, 1, 0, 0, 0) := by decide +kernel
theorem vom_115 : xe_look (xc 228) 115 = some (.iload_n 3, 1, 0, 0, 0) := by decide +kernel
theorem vom_116 : xe_look (xc 228) 116 = some (.invokevirtual 437, 3, 0, 249, 1252) := by decide +kernel
theorem vom_119 : xe_look (xc 228) 119 = some (.ifCond .eq 13, 3, 0, 0, 0) := by decide +kernel
theorem vom_122 : xe_look (xc 228) 122 = some (.aload_n 0, 1, 0, 0, 0) := by decide +kernel
theorem vom_123 : xe_look (xc 228) 123 = some (.getfield 107, 3, 12, 55, 1187) := by decide +kernel
theorem vom_126 : xe_look (xc 228) 126 = some (.iload_n 2, 1, 0, 0, 0) := by decide +kernel
theorem vom_127 : xe_look (xc 228) 127 = some (.iaload, 1, 0, 0, 0) := by decide +kernel
theorem vom_128 : xe_look (xc 228) 128 = some (.i2l, 1, 0, 0, 0) := by decide +kernel
theorem vom_129 : xe_look (xc 228) 129 = some (.goto 4, 3, 0, 0, 0) := by decide +kernel
theorem vom_132 : xe_look (xc 228) 132 = some (.lconst 0, 1, 0, 0, 0) := by decide +kernel
theorem vom_133 : xe_look (xc 228) 133 = some (.iload 5, 2, 0, 0, 0) := by decide +kernel
theorem vom_135 : xe_look (xc 228) 135 = some (.i2l, 1, 0, 0, 0) := by decide +kernel
theorem vom_136 : xe_look (xc 228) 136 = some (.iload 4, 2, 0, 0, 0) := by decide +kernel
theorem vom_138 : xe_look (xc 228) 138 = some (.invokestatic 440, 3, 0, 262, 1188) := by decide +kernel
theorem vom_141 : xe_look (xc 228) 141 = some (.l2i, 1, 0, 0, 0) := by decide +kernel
theorem vom_142 : xe_look (xc 228) 142 = some (.ireturn, 1, 0, 0, 0) := by decide +kernel
theorem vwm_0 : xe_look (xc 206) 0 = some (.iload_n 0, 1, 0, 0, 0) := by decide +kernel
theorem vwm_1 : xe_look (xc 206) 1 = some (.ifCond .lt 13, 3, 0, 0, 0) := by decide +kernel
theorem vwm_4 : xe_look (xc 206) 4 = some (.iload_n 0, 1, 0, 0, 0) := by decide +kernel
theorem vwm_5 : xe_look (xc 206) 5 = some (.bipush 8, 2, 0, 0, 0) := by decide +kernel
theorem vwm_7 : xe_look (xc 206) 7 = some (.if_icmp .ge 7, 3, 0, 0, 0) := by decide +kernel
theorem vwm_10 : xe_look (xc 206) 10 = some (.iconst 1, 1, 0, 0, 0) := by decide +kernel
theorem vwm_11 : xe_look (xc 206) 11 = some (.goto 4, 3, 0, 0, 0) := by decide +kernel
theorem vwm_14 : xe_look (xc 206) 14 = some (.iconst 0, 1, 0, 0, 0) := by decide +kernel
theorem vwm_15 : xe_look (xc 206) 15 = some (.ireturn, 1, 0, 0, 0) := by decide +kernel
theorem vwy_0 : xe_look (xc 125) 0 = some (.iload_n 0, 1, 0, 0, 0) := by decide +kernel
theorem vwy_1 : xe_look (xc 125) 1 = some (.iconst 0, 1, 0, 0, 0) := by decide +kernel
theorem vwy_2 : xe_look (xc 125) 2 = some (.bipush 7, 2, 0, 0, 0) := by decide +kernel
theorem vwy_4 : xe_look (xc 125) 4 = some (.invokestatic 89, 3, 0, 124, 994) := by decide +kernel
theorem vwy_7 : xe_look (xc 125) 7 = some (.ireturn, 1, 0, 0, 0) := by decide +kernel
/-- of the ways up to k, what is asked of way -/
def oQ (b : Nat → Bool) (a : Nat → Int) (way k : Nat) : Int := if way < k ∧ b way = true then a way else 0
theorem oS_y {b : Nat → Bool} {a : Nat → Int} {k : Nat} (h : b k = true) : oS b a (k + 1) = oS b a k + a k := by
  show _ + _ = _
  rw [if_pos h]
theorem oS_f {b : Nat → Bool} {a : Nat → Int} {k : Nat} (h : b k = false) : oS b a (k + 1) = oS b a k := by
  show _ + _ = _
  rw [if_neg (by rw [h]; exact Bool.false_ne_true)]
  omega
theorem oQ_y {b : Nat → Bool} {a : Nat → Int} {k : Nat} (h : b k = true) : oQ b a k (k + 1) = a k := if_pos ⟨by omega, h⟩
theorem oQ_t {b : Nat → Bool} {a : Nat → Int} {way k : Nat} (hk : way < k) (h : b way = true) : oQ b a way k = a way := if_pos ⟨hk, h⟩
theorem oQ_z {b : Nat → Bool} {a : Nat → Int} {way k : Nat} (h : b way = false) : oQ b a way k = 0 := if_neg (fun z => by rw [h] at z; exact Bool.false_ne_true z.2)
theorem oQ_n {b : Nat → Bool} {a : Nat → Int} {way k : Nat} (h : way ≠ k) : oQ b a way (k + 1) = oQ b a way k := by
  unfold oQ
  by_cases q : way < k ∧ b way = true
  · rw [if_pos q, if_pos ⟨by omega, q.2⟩]
  · rw [if_neg q, if_neg (fun z => q ⟨by omega, z.2⟩)]
theorem oQ_f {b : Nat → Bool} {a : Nat → Int} {way k : Nat} (h : b k = false) : oQ b a way (k + 1) = oQ b a way k := by
  by_cases q : way = k
  · subst q
    rw [oQ_z h, oQ_z h]
  · exact oQ_n q
theorem oQ_0 {b : Nat → Bool} {a : Nat → Int} {way : Nat} : oQ b a way 0 = 0 := if_neg (fun z => absurd z.1 (Nat.not_lt_zero _))
theorem oQ_b {b : Nat → Bool} {a : Nat → Int} {B : Int} (hB : 0 ≤ B) (ha : ∀ k, 0 ≤ a k ∧ a k ≤ B) {way k : Nat} : 0 ≤ oQ b a way k ∧ oQ b a way k ≤ B := by
  unfold oQ
  split
  · exact ha way
  · exact ⟨by omega, hB⟩
/-- the answer of odds -/
def oR (al ak : Nat) (what : Int) : Int := if al = 0 then -2 else if what = 0 then (ak : Int) / ((gS 100 ak al : Nat) : Int) else (al : Int) / ((gS 100 ak al : Nat) : Int)
theorem oR_z {al ak : Nat} {what : Int} (h : al = 0) : oR al ak what = -2 := if_pos h
theorem oR_a {al ak : Nat} (h : al ≠ 0) : oR al ak 0 = (ak : Int) / ((gS 100 ak al : Nat) : Int) := by
  unfold oR
  rw [if_neg h, if_pos rfl]
theorem oR_b {al ak : Nat} (h : al ≠ 0) : oR al ak 1 = (al : Int) / ((gS 100 ak al : Nat) : Int) := by
  unfold oR
  rw [if_neg h, if_neg (by decide)]
theorem gD_o {al ak : Nat} (h1 : ak ≤ 99) (h2 : al ≤ 792) : gD 100 ak al := gD_s (f := 99) (Nat.lt_of_le_of_lt (Nat.mul_le_mul h1 h2) (by decide))
def hW9 : Nat := mW9 + 2 ^ cn 229
def oW (K : Nat) : Nat := cW K + 2 ^ (cn 0 + 1)
theorem cW_n {K : Nat} (hK : lK K) : (∀ m, m < 32 → (cW K).testBit (cn (4 + 2 * m) + 3) = false ∧ (cW K).testBit (cn (4 + 2 * m) + 4) = false ∧ (cW K).testBit (cn (4 + 2 * m) + 5) = false ∧ (cW K).testBit (cn (4 + 2 * m) + 6) = false ∧ (cW K).testBit (cn (5 + 2 * m)) = false) ∧ ((cW K).testBit (cn K + 0) = false ∧ (cW K).testBit (cn (K + 1)) = false ∧ (cW K).testBit (cn (K + 2)) = false ∧ (cW K).testBit (cn (K + 3)) = false ∧ (cW K).testBit (cn (K + 4)) = false ∧ (cW K).testBit (cn (K + 5)) = false ∧ (cW K).testBit (cn (K + 6)) = false) ∧ (cW K).testBit (cn 164 + 0) = false ∧ (cW K).testBit (cn 1) = false := by rcases hK with rfl | rfl <;> decide +kernel
theorem oW_n {K : Nat} (hK : lK K) : (cW K &&& oW K = cW K ∧ (2 ^ (cn 0 + 1)) &&& oW K = 2 ^ (cn 0 + 1)) ∧ (oW K).testBit (cn 0 + 1) = true ∧ ((oW K).testBit (cn 196 + 0) = false ∧ (oW K).testBit (cn 196 + 17) = false ∧ (oW K).testBit (cn 196 + 49) = false ∧ (oW K).testBit (cn 196 + 35) = false) ∧ [199, 200, 201, 202, 210, 211, 222, 223, 224, 225, 226].all (fun k => !(oW K).testBit (cn k)) = true := by rcases hK with rfl | rfl <;> decide +kernel
theorem tW_n : (∀ m, m < 32 → (2 ^ (cn 0 + 1)).testBit (cn (4 + 2 * m) + 3) = false ∧ (2 ^ (cn 0 + 1)).testBit (cn (4 + 2 * m) + 4) = false ∧ (2 ^ (cn 0 + 1)).testBit (cn (4 + 2 * m) + 5) = false ∧ (2 ^ (cn 0 + 1)).testBit (cn (4 + 2 * m) + 6) = false ∧ (2 ^ (cn 0 + 1)).testBit (cn (5 + 2 * m)) = false) ∧ (∀ K, K = 156 ∨ K = 165 → (2 ^ (cn 0 + 1)).testBit (cn K + 0) = false ∧ (2 ^ (cn 0 + 1)).testBit (cn (K + 1)) = false ∧ (2 ^ (cn 0 + 1)).testBit (cn (K + 2)) = false ∧ (2 ^ (cn 0 + 1)).testBit (cn (K + 3)) = false ∧ (2 ^ (cn 0 + 1)).testBit (cn (K + 4)) = false ∧ (2 ^ (cn 0 + 1)).testBit (cn (K + 5)) = false ∧ (2 ^ (cn 0 + 1)).testBit (cn (K + 6)) = false) ∧ (2 ^ (cn 0 + 1)).testBit (cn 164 + 0) = false ∧ (2 ^ (cn 0 + 1)).testBit (cn 1) = false := by
  refine ⟨by decide +kernel, fun K hK => ?_, by decide +kernel, by decide +kernel⟩
  rcases hK with rfl | rfl <;> decide +kernel
theorem hW_n : (mW9 &&& hW9 = mW9 ∧ hW9 &&& hW9 = hW9) ∧ hW9.testBit (cn 229) = true ∧ mW9.testBit (cn 229) = false ∧ (hW9.testBit (cn 196 + 35) = false ∧ hW9.testBit (cn 222) = false ∧ hW9.testBit (cn 223) = false ∧ hW9.testBit (cn 224) = false ∧ hW9.testBit (cn 225) = false ∧ hW9.testBit (cn 226) = false) ∧ (hW9.testBit (cn 199) = false ∧ hW9.testBit (cn 200) = false ∧ hW9.testBit (cn 201) = false ∧ hW9.testBit (cn 202) = false ∧ hW9.testBit (cn 210) = false ∧ hW9.testBit (cn 211) = false) ∧ hW9.testBit (cn 196 + 49) = false := by decide +kernel
theorem sdC_f {W m : Nat} {g g1 : pH} {ki ma ta wo : Int} (hM : f_M W g g1) (hW : W.testBit (cn (4 + 2 * m) + 3) = false ∧ W.testBit (cn (4 + 2 * m) + 4) = false ∧ W.testBit (cn (4 + 2 * m) + 5) = false ∧ W.testBit (cn (4 + 2 * m) + 6) = false ∧ W.testBit (cn (5 + 2 * m)) = false) (h : sdC g m ki ma ta wo) : sdC g1 m ki ma ta wo := ⟨(cF_M hM hW.1).trans h.1, (cF_M hM hW.2.1).trans h.2.1, (cF_M hM hW.2.2.2.1).trans h.2.2.1, (cF_M hM hW.2.2.1).trans h.2.2.2⟩
theorem sdM_f {W m : Nat} {g g1 : pH} {ki ma ta wo : Int} (hM : f_M W g g1) (h9 : W.testBit (cn 199) = false) (h0 : W.testBit (cn 200) = false) (h1 : W.testBit (cn 201) = false) (h2 : W.testBit (cn 202) = false) (h4 : W.testBit (cn 196 + 49) = false) (h : sdM g m ki ma ta wo) : sdM g1 m ki ma ta wo := ⟨⟨(congrFun (fA_M hM h9) m).trans h.1.1, (congrFun (fA_M hM h0) m).trans h.1.2.1, (congrFun (fA_M hM h2) m).trans h.1.2.2.1, (congrFun (fA_M hM h1) m).trans h.1.2.2.2⟩, (cF_M hM h4).trans h.2⟩
theorem uW_n : ((2 ^ (cn 196 + 17)).testBit (cn 199) = false ∧ (2 ^ (cn 196 + 17)).testBit (cn 200) = false ∧ (2 ^ (cn 196 + 17)).testBit (cn 201) = false ∧ (2 ^ (cn 196 + 17)).testBit (cn 202) = false ∧ (2 ^ (cn 196 + 17)).testBit (cn 210) = false ∧ (2 ^ (cn 196 + 17)).testBit (cn 211) = false) ∧ ((2 ^ (cn 196 + 17)).testBit (cn 196 + 35) = false ∧ (2 ^ (cn 196 + 17)).testBit (cn 222) = false ∧ (2 ^ (cn 196 + 17)).testBit (cn 223) = false ∧ (2 ^ (cn 196 + 17)).testBit (cn 224) = false ∧ (2 ^ (cn 196 + 17)).testBit (cn 225) = false ∧ (2 ^ (cn 196 + 17)).testBit (cn 226) = false) ∧ (2 ^ (cn 196 + 17)).testBit (cn 196 + 49) = false := by decide +kernel
theorem yceo_0 : eL[0]? = some (0, 11) := by decide +kernel
theorem yceo_164 : eL[164]? = some (0, 2) := by decide +kernel
theorem yceo_196 : eL[196]? = some (0, 12) := by decide +kernel
theorem yceo_2 : eL[2]? = some (0, 8) := by decide +kernel
theorem ycgu_229 : eG (cn 229) = (0, 99, []) := by decide +kernel
theorem ycch_0_2 : (eG (cn 0 + 2)).2.2 = [3] := by decide +kernel
theorem yccq_0_2 {d i : Nat} {lv : List (Nat × pv)} {r : List pv} {g : pH} (hG : g_I eG g) : px_push eL d none (.getfield i) 11 2 lv (pvR 0 :: r) g = some (pvR 2 :: r) := pget yceo_0 (gI_o (r := 2) hG yceo_0 (Nat.le_of_ble_eq_true rfl) (y := 2) rfl ycch_0_2)
theorem ycch_0_8 : (eG (cn 0 + 8)).2.2 = [165] := by decide +kernel
theorem yccq_0_8 {d i : Nat} {lv : List (Nat × pv)} {r : List pv} {g : pH} (hG : g_I eG g) : px_push eL d none (.getfield i) 11 8 lv (pvR 0 :: r) g = some (pvR 164 :: r) := pget yceo_0 (gI_o (r := 164) hG yceo_0 (Nat.le_of_ble_eq_true rfl) (y := 8) rfl ycch_0_8)
theorem ycch_196_55 : (eG (cn 196 + 55)).2.2 = [230] := by decide +kernel
theorem yccq_196_55 {d i : Nat} {lv : List (Nat × pv)} {r : List pv} {g : pH} (hG : g_I eG g) : px_push eL d none (.getfield i) 12 55 lv (pvR 196 :: r) g = some (pvR 229 :: r) := pget yceo_196 (gI_r (r := 229) hG yceo_196 (Nat.le_of_ble_eq_true rfl) (y := 55) rfl ycch_196_55)
theorem ycez_229 : eL[229]? = some (1, 8) := by decide +kernel
theorem vwy_run {d : Nat} (hd : 1 ≤ d) {g : pH} {a : Int} (ha : -2147483648 ≤ a ∧ a ≤ 2147483647) {P : Option pv × pH → Prop} (h1 : 0 ≤ a ∧ a ≤ 7 → P (some (oI 1), g)) (h0 : ¬ (0 ≤ a ∧ a ≤ 7) → P (some (oI 0), g)) {lv : List (Nat × pv)} (l0 : px_lg lv 0 = some (oI a)) : t_X d 125 0 lv [] g P := by
  refine t_0 vwy_0 rfl (ld_i l0) ?_
  refine t_0 vwy_1 rfl rfl ?_
  refine t_0 vwy_2 rfl (pq_b (by decide)) ?_
  refine t_3 vwy_4 rfl (ar := ([oI (a), oI 0, oI 7], [])) (pcal_s ⟨Or.inl rfl, rfl, Nat.le_of_ble_eq_true rfl⟩) ⟨by omega, Nat.le_of_ble_eq_true rfl, Nat.le_of_ble_eq_true rfl, rfl⟩ ?_
  refine ii_run ⟨by omega, by omega⟩ ⟨by omega, by omega⟩ ⟨by omega, by omega⟩ rfl rfl rfl (fun t1 => ?_) (fun t1 => ?_)
  · show t_X d 125 7 lv [oI 1] g P
    refine t_5 vwy_7 rfl rfl ?_
    exact h1 (by omega)
  · show t_X d 125 7 lv [oI 0] g P
    refine t_5 vwy_7 rfl rfl ?_
    exact h0 (by omega)
theorem vwm_run {d : Nat} {g : pH} {a : Int} (ha : -2147483648 ≤ a ∧ a ≤ 2147483647) {P : Option pv × pH → Prop} (h1 : 0 ≤ a ∧ a ≤ 7 → P (some (oI 1), g)) (h0 : ¬ (0 ≤ a ∧ a ≤ 7) → P (some (oI 0), g)) {lv : List (Nat × pv)} (l0 : px_lg lv 0 = some (oI a)) : t_X d 206 0 lv [] g P := by
  refine t_0 vwm_0 rfl (ld_i l0) ?_
  refine tz_lt vwm_1 (by decide) ⟨by omega, by omega⟩ (fun c1 => ?_) (fun c1 => ?_)
  · show t_X d 206 14 lv [] g P
    refine t_0 vwm_14 rfl rfl ?_
    refine t_5 vwm_15 rfl rfl ?_
    exact h0 (by omega)
  · show t_X d 206 4 lv [] g P
    refine t_0 vwm_4 rfl (ld_i l0) ?_
    refine t_0 vwm_5 rfl (pq_b (by decide)) ?_
    refine tb_ge vwm_7 (by decide) ⟨by omega, by omega⟩ ⟨by omega, by omega⟩ (fun c2 => ?_) (fun c2 => ?_)
    · show t_X d 206 14 lv [] g P
      refine t_0 vwm_14 rfl rfl ?_
      refine t_5 vwm_15 rfl rfl ?_
      exact h0 (by omega)
    · show t_X d 206 10 lv [] g P
      refine t_0 vwm_10 rfl rfl ?_
      refine t_1 vwm_11 rfl (pb_goto (pc := 11) (by decide)) ?_
      show t_X d 206 15 lv [oI 1] g P
      refine t_5 vwm_15 rfl rfl ?_
      exact h1 (by omega)
theorem vod_end {al ak : Nat} (h1 : ak ≤ 99) (h2 : al ≤ 792) {what : Int} (hw : 0 ≤ what ∧ what ≤ 1) {d : Nat} (hd : 3 ≤ d) {g : pH} {P : Option pv × pH → Prop} (hP : P (some (oI (oR al ak what)), g)) {lv : List (Nat × pv)} (l6 : px_lg lv 6 = some (oI ((al : Nat) : Int))) (l7 : px_lg lv 7 = some (oI ((ak : Nat) : Int))) (l4 : px_lg lv 4 = some (oI what)) : t_X d 137 130 lv [] g P := by
  by_cases hz : al = 0
  · skip
    refine t_0 vod_130 rfl (ld_i l6) ?_
    refine tz_ne vod_132 (by decide) ⟨by omega, by omega⟩ (fun c1 => absurd c1 (by omega)) (fun c1 => ?_)
    show t_X d 137 135 lv [] g P
    refine t_0 vod_135 rfl (pq_b (by decide)) ?_
    refine t_1 vod_137 rfl (pb_goto (pc := 137) (by decide)) ?_
    show t_X d 137 160 lv [oI (-2)] g P
    refine t_5 vod_160 rfl rfl ?_
    rw [oR_z hz] at hP
    exact hP
  rcases (show what = 0 ∨ what = 1 by omega) with rfl | rfl
  · skip
    refine t_0 vod_130 rfl (ld_i l6) ?_
    refine tz_ne vod_132 (by decide) ⟨by omega, by omega⟩ (fun c1 => ?_) (fun c1 => absurd c1 (by omega))
    show t_X d 137 140 lv [] g P
    refine t_0 vod_140 rfl (ld_i l7) ?_
    refine t_0 vod_142 rfl (pq_il ⟨by omega, by omega⟩) ?_
    refine t_0 vod_143 rfl (ld_i l6) ?_
    refine t_0 vod_145 rfl (pq_il ⟨by omega, by omega⟩) ?_
    refine t_0 vod_146 rfl (ld_i l4) ?_
    refine tz_ne vod_148 (by decide) ⟨by omega, by omega⟩ (fun c2 => absurd c2 (by omega)) (fun c2 => ?_)
    show t_X d 137 151 lv [.inr (.inl (Int64.ofInt ((al : Nat) : Int))), .inr (.inl (Int64.ofInt ((ak : Nat) : Int)))] g P
    refine t_0 vod_151 rfl rfl ?_
    refine t_1 vod_152 rfl (pb_goto (pc := 152) (by decide)) ?_
    show t_X d 137 156 lv [oI 1, .inr (.inl (Int64.ofInt ((al : Nat) : Int))), .inr (.inl (Int64.ofInt ((ak : Nat) : Int)))] g P
    refine t_3 vod_156 rfl (ar := ([.inr (.inl (Int64.ofInt ((ak : Nat) : Int))), .inr (.inl (Int64.ofInt ((al : Nat) : Int))), oI 1], [])) (pcal_s ⟨Or.inl rfl, rfl, Nat.le_of_ble_eq_true rfl⟩) ⟨by omega, Nat.le_of_ble_eq_true rfl, Nat.le_of_ble_eq_true rfl, rfl⟩ ?_
    refine vpo_r1 (by omega) (by omega) (by omega) (gD_o h1 h2) (by omega) ?_ rfl rfl rfl
    show t_X d 137 159 lv [.inr (.inl (Int64.ofInt (((ak : Nat) : Int) / ((gS 100 ak al : Nat) : Int))))] g P
    refine t_0 vod_159 rfl pq_li ?_
    refine t_5 vod_160 rfl rfl ?_
    rw [oR_a hz] at hP
    exact hP
  · skip
    refine t_0 vod_130 rfl (ld_i l6) ?_
    refine tz_ne vod_132 (by decide) ⟨by omega, by omega⟩ (fun c1 => ?_) (fun c1 => absurd c1 (by omega))
    show t_X d 137 140 lv [] g P
    refine t_0 vod_140 rfl (ld_i l7) ?_
    refine t_0 vod_142 rfl (pq_il ⟨by omega, by omega⟩) ?_
    refine t_0 vod_143 rfl (ld_i l6) ?_
    refine t_0 vod_145 rfl (pq_il ⟨by omega, by omega⟩) ?_
    refine t_0 vod_146 rfl (ld_i l4) ?_
    refine tz_ne vod_148 (by decide) ⟨by omega, by omega⟩ (fun c2 => ?_) (fun c2 => absurd c2 (by omega))
    show t_X d 137 155 lv [.inr (.inl (Int64.ofInt ((al : Nat) : Int))), .inr (.inl (Int64.ofInt ((ak : Nat) : Int)))] g P
    refine t_0 vod_155 rfl rfl ?_
    refine t_3 vod_156 rfl (ar := ([.inr (.inl (Int64.ofInt ((ak : Nat) : Int))), .inr (.inl (Int64.ofInt ((al : Nat) : Int))), oI 0], [])) (pcal_s ⟨Or.inl rfl, rfl, Nat.le_of_ble_eq_true rfl⟩) ⟨by omega, Nat.le_of_ble_eq_true rfl, Nat.le_of_ble_eq_true rfl, rfl⟩ ?_
    refine vpo_r0 (by omega) (by omega) (by omega) (gD_o h1 h2) (by omega) ?_ rfl rfl rfl
    show t_X d 137 159 lv [.inr (.inl (Int64.ofInt (((al : Nat) : Int) / ((gS 100 ak al : Nat) : Int))))] g P
    refine t_0 vod_159 rfl pq_li ?_
    refine t_5 vod_160 rfl rfl ?_
    rw [oR_b hz] at hP
    exact hP
set_option maxHeartbeats 1000000 in
theorem vod_loop {K : Nat} (hK : lK K) {m : Nat} (hm : m < 32) {ki ma ta wo : Int} {k1 c : Int} {o v le st co en : tC} {d : Nat} (hd : 7 ≤ d) {g0 : pH} (hs : sdC g0 m ki ma ta wo) (r0 : g0.2.2.1 164 0 = some K) (hL : rLc g0 K k1 c o v le st co en) {pic t : tC} (hp : fA g0 (5 + 2 * m) = pic) (ht : fA g0 1 = t) {n : Nat} (hn : n ≤ 8) {way : Nat} (hway : way < 8) {what : Int} {b : Nat → Bool} {a : Nat → Int} (eb : b = (fun w : Nat => tSb pic t w n)) (ea : a = (fun w : Nat => aV o v (qF m ki ma ta wo w) le st co en c 119 99)) {P : Option pv × pH → Prop} (hP : ∀ g1 : pH, J_ (cW K) g0 g1 → ∀ lv : List (Nat × pv), px_lg lv 4 = some (oI what) → px_lg lv 6 = some (oI (oS b a 8)) → px_lg lv 7 = some (oI (oQ b a way 8)) → t_X d 137 130 lv [] g1 P) : ∀ (r k : Nat) (g : pH) (lv : List (Nat × pv)), 8 - k ≤ r → k ≤ 8 → J_ (cW K) g0 g → px_lg lv 0 = some (pvR 0) → px_lg lv 2 = some (oI (way : Int)) → px_lg lv 3 = some (oI (n : Int)) → px_lg lv 4 = some (oI what) → px_lg lv 5 = some (pvR (4 + 2 * m)) → px_lg lv 6 = some (oI (oS b a k)) → px_lg lv 7 = some (oI (oQ b a way k)) → px_lg lv 8 = some (oI (k : Int)) → t_X d 137 70 lv [] g P := by
  have ha : ∀ k, 0 ≤ a k ∧ a k ≤ 99 := fun k => by rw [ea]; exact aV_b (by decide)
  intro r
  induction r with
  | zero =>
    intro k g lv hr hk2 hJ l0 l2 l3 l4 l5 l6 l7 l8
    refine t_0 vod_70 rfl (ld_i l8) ?_
    refine t_0 vod_72 rfl (pq_b (by decide)) ?_
    refine tb_ge vod_74 (by decide) ⟨by omega, by omega⟩ ⟨by omega, by omega⟩ (fun c1 => ?_) (fun c1 => absurd c1 (by omega))
    show t_X d 137 130 lv [] g P
    obtain rfl : k = 8 := by omega
    exact hP g hJ _ l4 l6 l7
  | succ r ih =>
    intro k g lv hr hk2 hJ l0 l2 l3 l4 l5 l6 l7 l8
    have sb := oS_b (b := b) (by decide) ha k
    by_cases hk : k < 8
    · skip
      refine t_0 vod_70 rfl (ld_i l8) ?_
      refine t_0 vod_72 rfl (pq_b (by decide)) ?_
      refine tb_ge vod_74 (by decide) ⟨by omega, by omega⟩ ⟨by omega, by omega⟩ (fun c1 => absurd c1 (by omega)) (fun c1 => ?_)
      show t_X d 137 77 lv [] g P
      refine t_0 vod_77 rfl (ld_a l0) ?_
      refine t_0 vod_78 rfl (ld_a l5) ?_
      refine t_0 vod_80 rfl (ld_i l8) ?_
      refine t_0 vod_82 rfl (ld_i l3) ?_
      refine t_3 vod_83 rfl (ar := ([pvR 0, pvR (4 + 2 * m), oI ((k : Int)), oI ((n : Int))], [])) (pcal_w (as := [oI ((n : Int)), oI ((k : Int)), pvR (4 + 2 * m)]) rfl rfl rfl yceo_0) ⟨by omega, Nat.le_of_ble_eq_true rfl, Nat.le_of_ble_eq_true rfl, rfl⟩ ?_
      refine vts_run (pic := pic) (t := t) hm hk (by omega) hJ.1 ((fA_M hJ.2 ((cW_n hK).1 m hm).2.2.2.2).trans hp) ((fA_M hJ.2 (cW_n hK).2.2.2).trans ht) hn (fun q0 => ?_) (fun q0 => ?_) rfl rfl rfl rfl
      · have q : b k = true := by rw [eb]; exact q0
        show t_X d 137 86 lv [oI 1] g P
        refine tz_eq vod_86 (by decide) ⟨by omega, by omega⟩ (fun c2 => absurd c2 (by omega)) (fun c2 => ?_)
        show t_X d 137 89 lv [] g P
        refine t_0 vod_89 rfl (ld_a l0) ?_
        refine t_0 vod_90 rfl (yccq_0_8 hJ.1) ?_
        show t_X d 137 93 lv [pvR 164] g P
        refine t_0 vod_93 rfl (ld_a l5) ?_
        refine t_0 vod_95 rfl (ld_i l8) ?_
        refine t_3 vod_97 rfl (ar := ([pvR 164, pvR (4 + 2 * m), oI ((k : Int))], [])) (pcal_w (as := [oI ((k : Int)), pvR (4 + 2 * m)]) rfl rfl rfl yceo_164) ⟨by omega, Nat.le_of_ble_eq_true rfl, Nat.le_of_ble_eq_true rfl, rfl⟩ ?_
        refine vog_run hK hm hk (by omega) hJ.1 (sdC_f hJ.2 ((cW_n hK).1 m hm) hs) (((hJ.2.1 164 0 (cW_n hK).2.2.1).2.2).trans r0) (rLc_f hJ.2 (cW_n hK).2.1 hL) (fun g2 J2 => ?_) rfl rfl rfl
        have hJ2 := J_up (Nat.and_self _) hJ J2
        clear hJ
        have hJ := hJ2
        clear hJ2
        rw [show aV o v (qF m ki ma ta wo k) le st co en c 119 99 = a k from by rw [ea]]
        show t_X d 137 100 lv [oI (a k)] g2 P
        refine t_2 vod_100 rfl (w := (px_s1 lv 9 (oI (a k)), [])) rfl ?_
        replace l0 : px_lg (px_s1 lv 9 (oI (a k))) 0 = some (pvR 0) := s1_ne (by decide) (fun _ => rfl) l0
        replace l2 : px_lg (px_s1 lv 9 (oI (a k))) 2 = some (oI ((way : Int))) := s1_ne (by decide) (fun _ => rfl) l2
        replace l3 : px_lg (px_s1 lv 9 (oI (a k))) 3 = some (oI ((n : Int))) := s1_ne (by decide) (fun _ => rfl) l3
        replace l4 : px_lg (px_s1 lv 9 (oI (a k))) 4 = some (oI (what)) := s1_ne (by decide) (fun _ => rfl) l4
        replace l5 : px_lg (px_s1 lv 9 (oI (a k))) 5 = some (pvR (4 + 2 * m)) := s1_ne (by decide) (fun _ => rfl) l5
        replace l6 : px_lg (px_s1 lv 9 (oI (a k))) 6 = some (oI (oS b a k)) := s1_ne (by decide) (fun _ => rfl) l6
        replace l7 : px_lg (px_s1 lv 9 (oI (a k))) 7 = some (oI (oQ b a way k)) := s1_ne (by decide) (fun _ => rfl) l7
        replace l8 : px_lg (px_s1 lv 9 (oI (a k))) 8 = some (oI ((k : Int))) := s1_ne (by decide) (fun _ => rfl) l8
        have l9 : px_lg (px_s1 lv 9 (oI (a k))) 9 = some (oI (a k)) := s1_eq
        generalize px_s1 lv 9 (oI (a k)) = lv3 at l0 l2 l3 l4 l5 l6 l7 l8 l9 ⊢
        show t_X d 137 102 lv3 [] g2 P
        refine t_0 vod_102 rfl (ld_i l6) ?_
        refine t_0 vod_104 rfl (ld_i l9) ?_
        refine t_0 vod_106 rfl pq_add ?_
        refine t_2 vod_107 rfl (w := (px_s1 lv3 6 (oI ((oS b a k) + (a k))), [])) rfl ?_
        replace l0 : px_lg (px_s1 lv3 6 (oI ((oS b a k) + (a k)))) 0 = some (pvR 0) := s1_ne (by decide) (fun _ => rfl) l0
        replace l2 : px_lg (px_s1 lv3 6 (oI ((oS b a k) + (a k)))) 2 = some (oI ((way : Int))) := s1_ne (by decide) (fun _ => rfl) l2
        replace l3 : px_lg (px_s1 lv3 6 (oI ((oS b a k) + (a k)))) 3 = some (oI ((n : Int))) := s1_ne (by decide) (fun _ => rfl) l3
        replace l4 : px_lg (px_s1 lv3 6 (oI ((oS b a k) + (a k)))) 4 = some (oI (what)) := s1_ne (by decide) (fun _ => rfl) l4
        replace l5 : px_lg (px_s1 lv3 6 (oI ((oS b a k) + (a k)))) 5 = some (pvR (4 + 2 * m)) := s1_ne (by decide) (fun _ => rfl) l5
        replace l7 : px_lg (px_s1 lv3 6 (oI ((oS b a k) + (a k)))) 7 = some (oI (oQ b a way k)) := s1_ne (by decide) (fun _ => rfl) l7
        replace l8 : px_lg (px_s1 lv3 6 (oI ((oS b a k) + (a k)))) 8 = some (oI ((k : Int))) := s1_ne (by decide) (fun _ => rfl) l8
        replace l9 : px_lg (px_s1 lv3 6 (oI ((oS b a k) + (a k)))) 9 = some (oI (a k)) := s1_ne (by decide) (fun _ => rfl) l9
        have l6 : px_lg (px_s1 lv3 6 (oI ((oS b a k) + (a k)))) 6 = some (oI ((oS b a k) + (a k))) := s1_eq
        generalize px_s1 lv3 6 (oI ((oS b a k) + (a k))) = lv4 at l0 l2 l3 l4 l5 l7 l8 l9 l6 ⊢
        show t_X d 137 109 lv4 [] g2 P
        refine t_0 vod_109 rfl (ld_i l8) ?_
        refine t_0 vod_111 rfl (ld_i l2) ?_
        refine tb_ne vod_112 (by decide) ⟨by omega, by omega⟩ ⟨by omega, by omega⟩ (fun c5 => ?_) (fun c5 => ?_)
        · show t_X d 137 120 lv4 [] g2 P
          refine t_0 vod_120 rfl (ld_i l7) ?_
          refine t_2 vod_122 rfl (w := (px_s1 lv4 7 (oI (oQ b a way k)), [])) rfl ?_
          replace l0 : px_lg (px_s1 lv4 7 (oI (oQ b a way k))) 0 = some (pvR 0) := s1_ne (by decide) (fun _ => rfl) l0
          replace l2 : px_lg (px_s1 lv4 7 (oI (oQ b a way k))) 2 = some (oI ((way : Int))) := s1_ne (by decide) (fun _ => rfl) l2
          replace l3 : px_lg (px_s1 lv4 7 (oI (oQ b a way k))) 3 = some (oI ((n : Int))) := s1_ne (by decide) (fun _ => rfl) l3
          replace l4 : px_lg (px_s1 lv4 7 (oI (oQ b a way k))) 4 = some (oI (what)) := s1_ne (by decide) (fun _ => rfl) l4
          replace l5 : px_lg (px_s1 lv4 7 (oI (oQ b a way k))) 5 = some (pvR (4 + 2 * m)) := s1_ne (by decide) (fun _ => rfl) l5
          replace l8 : px_lg (px_s1 lv4 7 (oI (oQ b a way k))) 8 = some (oI ((k : Int))) := s1_ne (by decide) (fun _ => rfl) l8
          replace l9 : px_lg (px_s1 lv4 7 (oI (oQ b a way k))) 9 = some (oI (a k)) := s1_ne (by decide) (fun _ => rfl) l9
          replace l6 : px_lg (px_s1 lv4 7 (oI (oQ b a way k))) 6 = some (oI ((oS b a k) + (a k))) := s1_ne (by decide) (fun _ => rfl) l6
          have l7 : px_lg (px_s1 lv4 7 (oI (oQ b a way k))) 7 = some (oI (oQ b a way k)) := s1_eq
          generalize px_s1 lv4 7 (oI (oQ b a way k)) = lv6 at l0 l2 l3 l4 l5 l8 l9 l6 l7 ⊢
          show t_X d 137 124 lv6 [] g2 P
          refine t_2 vod_124 rfl (w := (px_s1 lv6 8 (oI ((k : Int) + 1)), [])) (pq_inc l8 (by decide)) ?_
          replace l0 : px_lg (px_s1 lv6 8 (oI ((k : Int) + 1))) 0 = some (pvR 0) := s1_ne (by decide) (fun _ => rfl) l0
          replace l2 : px_lg (px_s1 lv6 8 (oI ((k : Int) + 1))) 2 = some (oI ((way : Int))) := s1_ne (by decide) (fun _ => rfl) l2
          replace l3 : px_lg (px_s1 lv6 8 (oI ((k : Int) + 1))) 3 = some (oI ((n : Int))) := s1_ne (by decide) (fun _ => rfl) l3
          replace l4 : px_lg (px_s1 lv6 8 (oI ((k : Int) + 1))) 4 = some (oI (what)) := s1_ne (by decide) (fun _ => rfl) l4
          replace l5 : px_lg (px_s1 lv6 8 (oI ((k : Int) + 1))) 5 = some (pvR (4 + 2 * m)) := s1_ne (by decide) (fun _ => rfl) l5
          replace l9 : px_lg (px_s1 lv6 8 (oI ((k : Int) + 1))) 9 = some (oI (a k)) := s1_ne (by decide) (fun _ => rfl) l9
          replace l6 : px_lg (px_s1 lv6 8 (oI ((k : Int) + 1))) 6 = some (oI ((oS b a k) + (a k))) := s1_ne (by decide) (fun _ => rfl) l6
          replace l7 : px_lg (px_s1 lv6 8 (oI ((k : Int) + 1))) 7 = some (oI (oQ b a way k)) := s1_ne (by decide) (fun _ => rfl) l7
          have l8 : px_lg (px_s1 lv6 8 (oI ((k : Int) + 1))) 8 = some (oI ((k : Int) + 1)) := s1_eq
          generalize px_s1 lv6 8 (oI ((k : Int) + 1)) = lv7 at l0 l2 l3 l4 l5 l9 l6 l7 l8 ⊢
          show t_X d 137 127 lv7 [] g2 P
          refine t_1 vod_127 rfl (pb_goto (pc := 127) (by decide)) ?_
          show t_X d 137 70 lv7 [] g2 P
          exact ih (k + 1) g2 _ (by omega) (by omega) hJ l0 l2 l3 l4 l5 (by rw [oS_y q]; exact l6) (by rw [oQ_n (by omega)]; exact l7) l8
        · show t_X d 137 115 lv4 [] g2 P
          refine t_0 vod_115 rfl (ld_i l9) ?_
          refine t_1 vod_117 rfl (pb_goto (pc := 117) (by decide)) ?_
          show t_X d 137 122 lv4 [oI (a k)] g2 P
          refine t_2 vod_122 rfl (w := (px_s1 lv4 7 (oI (a k)), [])) rfl ?_
          replace l0 : px_lg (px_s1 lv4 7 (oI (a k))) 0 = some (pvR 0) := s1_ne (by decide) (fun _ => rfl) l0
          replace l2 : px_lg (px_s1 lv4 7 (oI (a k))) 2 = some (oI ((way : Int))) := s1_ne (by decide) (fun _ => rfl) l2
          replace l3 : px_lg (px_s1 lv4 7 (oI (a k))) 3 = some (oI ((n : Int))) := s1_ne (by decide) (fun _ => rfl) l3
          replace l4 : px_lg (px_s1 lv4 7 (oI (a k))) 4 = some (oI (what)) := s1_ne (by decide) (fun _ => rfl) l4
          replace l5 : px_lg (px_s1 lv4 7 (oI (a k))) 5 = some (pvR (4 + 2 * m)) := s1_ne (by decide) (fun _ => rfl) l5
          replace l8 : px_lg (px_s1 lv4 7 (oI (a k))) 8 = some (oI ((k : Int))) := s1_ne (by decide) (fun _ => rfl) l8
          replace l9 : px_lg (px_s1 lv4 7 (oI (a k))) 9 = some (oI (a k)) := s1_ne (by decide) (fun _ => rfl) l9
          replace l6 : px_lg (px_s1 lv4 7 (oI (a k))) 6 = some (oI ((oS b a k) + (a k))) := s1_ne (by decide) (fun _ => rfl) l6
          have l7 : px_lg (px_s1 lv4 7 (oI (a k))) 7 = some (oI (a k)) := s1_eq
          generalize px_s1 lv4 7 (oI (a k)) = lv8 at l0 l2 l3 l4 l5 l8 l9 l6 l7 ⊢
          show t_X d 137 124 lv8 [] g2 P
          refine t_2 vod_124 rfl (w := (px_s1 lv8 8 (oI ((k : Int) + 1)), [])) (pq_inc l8 (by decide)) ?_
          replace l0 : px_lg (px_s1 lv8 8 (oI ((k : Int) + 1))) 0 = some (pvR 0) := s1_ne (by decide) (fun _ => rfl) l0
          replace l2 : px_lg (px_s1 lv8 8 (oI ((k : Int) + 1))) 2 = some (oI ((way : Int))) := s1_ne (by decide) (fun _ => rfl) l2
          replace l3 : px_lg (px_s1 lv8 8 (oI ((k : Int) + 1))) 3 = some (oI ((n : Int))) := s1_ne (by decide) (fun _ => rfl) l3
          replace l4 : px_lg (px_s1 lv8 8 (oI ((k : Int) + 1))) 4 = some (oI (what)) := s1_ne (by decide) (fun _ => rfl) l4
          replace l5 : px_lg (px_s1 lv8 8 (oI ((k : Int) + 1))) 5 = some (pvR (4 + 2 * m)) := s1_ne (by decide) (fun _ => rfl) l5
          replace l9 : px_lg (px_s1 lv8 8 (oI ((k : Int) + 1))) 9 = some (oI (a k)) := s1_ne (by decide) (fun _ => rfl) l9
          replace l6 : px_lg (px_s1 lv8 8 (oI ((k : Int) + 1))) 6 = some (oI ((oS b a k) + (a k))) := s1_ne (by decide) (fun _ => rfl) l6
          replace l7 : px_lg (px_s1 lv8 8 (oI ((k : Int) + 1))) 7 = some (oI (a k)) := s1_ne (by decide) (fun _ => rfl) l7
          have l8 : px_lg (px_s1 lv8 8 (oI ((k : Int) + 1))) 8 = some (oI ((k : Int) + 1)) := s1_eq
          generalize px_s1 lv8 8 (oI ((k : Int) + 1)) = lv9 at l0 l2 l3 l4 l5 l9 l6 l7 l8 ⊢
          show t_X d 137 127 lv9 [] g2 P
          refine t_1 vod_127 rfl (pb_goto (pc := 127) (by decide)) ?_
          show t_X d 137 70 lv9 [] g2 P
          have l77 : px_lg lv9 7 = some (oI (oQ b a way (k + 1))) := by
            obtain rfl : way = k := by omega
            rw [oQ_y q]
            exact l7
          exact ih (k + 1) g2 _ (by omega) (by omega) hJ l0 l2 l3 l4 l5 (by rw [oS_y q]; exact l6) l77 l8
      · have q : b k = false := by rw [eb]; exact q0
        show t_X d 137 86 lv [oI 0] g P
        refine tz_eq vod_86 (by decide) ⟨by omega, by omega⟩ (fun c10 => ?_) (fun c10 => absurd c10 (by omega))
        show t_X d 137 124 lv [] g P
        refine t_2 vod_124 rfl (w := (px_s1 lv 8 (oI ((k : Int) + 1)), [])) (pq_inc l8 (by decide)) ?_
        replace l0 : px_lg (px_s1 lv 8 (oI ((k : Int) + 1))) 0 = some (pvR 0) := s1_ne (by decide) (fun _ => rfl) l0
        replace l2 : px_lg (px_s1 lv 8 (oI ((k : Int) + 1))) 2 = some (oI ((way : Int))) := s1_ne (by decide) (fun _ => rfl) l2
        replace l3 : px_lg (px_s1 lv 8 (oI ((k : Int) + 1))) 3 = some (oI ((n : Int))) := s1_ne (by decide) (fun _ => rfl) l3
        replace l4 : px_lg (px_s1 lv 8 (oI ((k : Int) + 1))) 4 = some (oI (what)) := s1_ne (by decide) (fun _ => rfl) l4
        replace l5 : px_lg (px_s1 lv 8 (oI ((k : Int) + 1))) 5 = some (pvR (4 + 2 * m)) := s1_ne (by decide) (fun _ => rfl) l5
        replace l6 : px_lg (px_s1 lv 8 (oI ((k : Int) + 1))) 6 = some (oI (oS b a k)) := s1_ne (by decide) (fun _ => rfl) l6
        replace l7 : px_lg (px_s1 lv 8 (oI ((k : Int) + 1))) 7 = some (oI (oQ b a way k)) := s1_ne (by decide) (fun _ => rfl) l7
        have l8 : px_lg (px_s1 lv 8 (oI ((k : Int) + 1))) 8 = some (oI ((k : Int) + 1)) := s1_eq
        generalize px_s1 lv 8 (oI ((k : Int) + 1)) = lv11 at l0 l2 l3 l4 l5 l6 l7 l8 ⊢
        show t_X d 137 127 lv11 [] g P
        refine t_1 vod_127 rfl (pb_goto (pc := 127) (by decide)) ?_
        show t_X d 137 70 lv11 [] g P
        exact ih (k + 1) g _ (by omega) (by omega) hJ l0 l2 l3 l4 l5 (by rw [oS_f q]; exact l6) (by rw [oQ_f q]; exact l7) l8
    · skip
      refine t_0 vod_70 rfl (ld_i l8) ?_
      refine t_0 vod_72 rfl (pq_b (by decide)) ?_
      refine tb_ge vod_74 (by decide) ⟨by omega, by omega⟩ ⟨by omega, by omega⟩ (fun c1 => ?_) (fun c1 => absurd c1 (by omega))
      show t_X d 137 130 lv [] g P
      obtain rfl : k = 8 := by omega
      exact hP g hJ _ l4 l6 l7
set_option maxHeartbeats 2000000 in
theorem vod_go {K : Nat} (hK : lK K) {k1 c : Int} {o v le st co en : tC} {d : Nat} (hd : 8 ≤ d) {g0 : pH} (hG : g_I eG g0) (hSr : rS g0) (r0 : g0.2.2.1 164 0 = some K) (hL : rLc g0 K k1 c o v le st co en) {i way n what : Int} (hi : -2147483648 ≤ i ∧ i ≤ 2147483647) (hw : -2147483648 ≤ way ∧ way ≤ 2147483647) (hn : -2147483648 ≤ n ∧ n ≤ 2147483647) (hwh : -2147483648 ≤ what ∧ what ≤ 2147483647) {P : Option pv × pH → Prop} (vA : ∀ m : Nat, m < 32 → i = m → cF g0 (4 + 2 * m) 2 = 1 → (0 ≤ way ∧ way ≤ 7) → (0 ≤ what ∧ what ≤ 1) → (0 ≤ n ∧ n ≤ 8) → 3 * n ≤ cF g0 0 1 → ∀ g1 : pH, J_ (oW K) g0 g1 → ∀ d : Nat, 7 ≤ d → ∀ lv : List (Nat × pv), px_lg lv 4 = some (oI what) → px_lg lv 6 = some (oI (oS (fun w : Nat => tSb (fA g0 (5 + 2 * m)) (fA g0 1) w n.toNat) (fun w : Nat => aV o v (qF m (cF g0 (4 + 2 * m) 3) (cF g0 (4 + 2 * m) 4) (cF g0 (4 + 2 * m) 6) (cF g0 (4 + 2 * m) 5) w) le st co en c 119 99) 8)) → px_lg lv 7 = some (oI (oQ (fun w : Nat => tSb (fA g0 (5 + 2 * m)) (fA g0 1) w n.toNat) (fun w : Nat => aV o v (qF m (cF g0 (4 + 2 * m) 3) (cF g0 (4 + 2 * m) 4) (cF g0 (4 + 2 * m) 6) (cF g0 (4 + 2 * m) 5) w) le st co en c 119 99) way.toNat 8)) → t_X d 137 130 lv [] g1 P) (hR : ¬ (toC g0 i ∧ (0 ≤ way ∧ way ≤ 7) ∧ (0 ≤ what ∧ what ≤ 1) ∧ (0 ≤ n ∧ n ≤ 8) ∧ 3 * n ≤ cF g0 0 1) → P (some (oI (-1)), g0)) {lv : List (Nat × pv)} (l0 : px_lg lv 0 = some (pvR 0)) (l1 : px_lg lv 1 = some (oI i)) (l2 : px_lg lv 2 = some (oI way)) (l3 : px_lg lv 3 = some (oI n)) (l4 : px_lg lv 4 = some (oI what)) : t_X d 137 0 lv [] g0 P := by
  have tb := cb_0_1 hG
  refine t_0 vod_0 rfl (ld_a l0) ?_
  refine t_0 vod_1 rfl (yccq_0_2 hG) ?_
  show t_X d 137 4 lv [pvR 2] g0 P
  refine t_0 vod_4 rfl (ld_i l1) ?_
  refine t_3 vod_5 rfl (ar := ([pvR 2, oI (i)], [])) (pcal_w (as := [oI (i)]) rfl rfl rfl yceo_2) ⟨by omega, Nat.le_of_ble_eq_true rfl, Nat.le_of_ble_eq_true rfl, rfl⟩ ?_
  refine td_run (by omega) hG hSr hi (fun m hm e1 c0 => ?_) (fun c0 => ?_) rfl rfl
  · show t_X d 137 8 lv [pvR (4 + 2 * m)] g0 P
    refine t_2 vod_8 rfl (w := (px_s1 lv 5 (pvR (4 + 2 * m)), [])) rfl ?_
    replace l0 : px_lg (px_s1 lv 5 (pvR (4 + 2 * m))) 0 = some (pvR 0) := s1_ne (by decide) (fun _ => rfl) l0
    replace l1 : px_lg (px_s1 lv 5 (pvR (4 + 2 * m))) 1 = some (oI (i)) := s1_ne (by decide) (fun _ => rfl) l1
    replace l2 : px_lg (px_s1 lv 5 (pvR (4 + 2 * m))) 2 = some (oI (way)) := s1_ne (by decide) (fun _ => rfl) l2
    replace l3 : px_lg (px_s1 lv 5 (pvR (4 + 2 * m))) 3 = some (oI (n)) := s1_ne (by decide) (fun _ => rfl) l3
    replace l4 : px_lg (px_s1 lv 5 (pvR (4 + 2 * m))) 4 = some (oI (what)) := s1_ne (by decide) (fun _ => rfl) l4
    have l5 : px_lg (px_s1 lv 5 (pvR (4 + 2 * m))) 5 = some (pvR (4 + 2 * m)) := s1_eq
    generalize px_s1 lv 5 (pvR (4 + 2 * m)) = lv1 at l0 l1 l2 l3 l4 l5 ⊢
    show t_X d 137 10 lv1 [] g0 P
    refine t_0 vod_10 rfl (ld_a l5) ?_
    refine t_1 vod_12 rfl (pn_nf (pc := 12) ) ?_
    show t_X d 137 15 lv1 [] g0 P
    refine t_0 vod_15 rfl (ld_i l2) ?_
    refine t_3 vod_16 rfl (ar := ([oI (way)], [])) (pcal_s ⟨Or.inl rfl, rfl, Nat.le_of_ble_eq_true rfl⟩) ⟨by omega, Nat.le_of_ble_eq_true rfl, Nat.le_of_ble_eq_true rfl, rfl⟩ ?_
    refine vwy_run (by omega) ⟨by omega, by omega⟩ (fun t2 => ?_) (fun t2 => ?_) rfl
    · show t_X d 137 19 lv1 [oI 1] g0 P
      refine tz_eq vod_19 (by decide) ⟨by omega, by omega⟩ (fun c3 => absurd c3 (by omega)) (fun c3 => ?_)
      show t_X d 137 22 lv1 [] g0 P
      refine t_0 vod_22 rfl (ld_i l4) ?_
      refine t_0 vod_24 rfl rfl ?_
      refine t_0 vod_25 rfl rfl ?_
      refine t_3 vod_26 rfl (ar := ([oI (what), oI 0, oI 1], [])) (pcal_s ⟨Or.inl rfl, rfl, Nat.le_of_ble_eq_true rfl⟩) ⟨by omega, Nat.le_of_ble_eq_true rfl, Nat.le_of_ble_eq_true rfl, rfl⟩ ?_
      refine ii_run ⟨by omega, by omega⟩ ⟨by omega, by omega⟩ ⟨by omega, by omega⟩ rfl rfl rfl (fun t4 => ?_) (fun t4 => ?_)
      · show t_X d 137 29 lv1 [oI 1] g0 P
        refine tz_ne vod_29 (by decide) ⟨by omega, by omega⟩ (fun c5 => ?_) (fun c5 => absurd c5 (by omega))
        show t_X d 137 34 lv1 [] g0 P
        refine t_0 vod_34 rfl (ld_i l3) ?_
        refine t_0 vod_35 rfl rfl ?_
        refine t_0 vod_36 rfl (pq_b (by decide)) ?_
        refine t_3 vod_38 rfl (ar := ([oI (n), oI 0, oI 8], [])) (pcal_s ⟨Or.inl rfl, rfl, Nat.le_of_ble_eq_true rfl⟩) ⟨by omega, Nat.le_of_ble_eq_true rfl, Nat.le_of_ble_eq_true rfl, rfl⟩ ?_
        refine ii_run ⟨by omega, by omega⟩ ⟨by omega, by omega⟩ ⟨by omega, by omega⟩ rfl rfl rfl (fun t6 => ?_) (fun t6 => ?_)
        · show t_X d 137 41 lv1 [oI 1] g0 P
          refine tz_eq vod_41 (by decide) ⟨by omega, by omega⟩ (fun c7 => absurd c7 (by omega)) (fun c7 => ?_)
          show t_X d 137 44 lv1 [] g0 P
          refine t_0 vod_44 rfl rfl ?_
          refine t_0 vod_45 rfl (ld_i l3) ?_
          refine t_0 vod_46 rfl pq_mul ?_
          refine t_0 vod_47 rfl (ld_a l0) ?_
          refine t_0 vod_48 rfl (pq_cv yceo_0 rfl (rfl : cF g0 0 1 = cF g0 0 1)) ?_
          show t_X d 137 51 lv1 [oI (cF g0 0 1), oI (3 * n)] g0 P
          refine tb_le vod_51 (by decide) ⟨by omega, by omega⟩ ⟨by omega, by omega⟩ (fun c8 => ?_) (fun c8 => ?_)
          · show t_X d 137 56 lv1 [] g0 P
            refine t_0 vod_56 rfl (ld_a l0) ?_
            refine t_0 vod_57 rfl rfl ?_
            refine tw_c vod_58 yceo_0 rfl (J_rf hG : J_ (2 ^ (cn 0 + 1)) g0 g0) (by decide +kernel) gx_0_1 (by decide) ⟨by omega, by omega⟩ (fun g1 J1 e1_ => ?_)
            show t_X d 137 61 lv1 [] g1 P
            refine t_0 vod_61 rfl rfl ?_
            refine t_2 vod_62 rfl (w := (px_s1 lv1 6 (oI 0), [])) rfl ?_
            replace l0 : px_lg (px_s1 lv1 6 (oI 0)) 0 = some (pvR 0) := s1_ne (by decide) (fun _ => rfl) l0
            replace l1 : px_lg (px_s1 lv1 6 (oI 0)) 1 = some (oI (i)) := s1_ne (by decide) (fun _ => rfl) l1
            replace l2 : px_lg (px_s1 lv1 6 (oI 0)) 2 = some (oI (way)) := s1_ne (by decide) (fun _ => rfl) l2
            replace l3 : px_lg (px_s1 lv1 6 (oI 0)) 3 = some (oI (n)) := s1_ne (by decide) (fun _ => rfl) l3
            replace l4 : px_lg (px_s1 lv1 6 (oI 0)) 4 = some (oI (what)) := s1_ne (by decide) (fun _ => rfl) l4
            replace l5 : px_lg (px_s1 lv1 6 (oI 0)) 5 = some (pvR (4 + 2 * m)) := s1_ne (by decide) (fun _ => rfl) l5
            have l6 : px_lg (px_s1 lv1 6 (oI 0)) 6 = some (oI 0) := s1_eq
            generalize px_s1 lv1 6 (oI 0) = lv9 at l0 l1 l2 l3 l4 l5 l6 ⊢
            show t_X d 137 64 lv9 [] g1 P
            refine t_0 vod_64 rfl rfl ?_
            refine t_2 vod_65 rfl (w := (px_s1 lv9 7 (oI 0), [])) rfl ?_
            replace l0 : px_lg (px_s1 lv9 7 (oI 0)) 0 = some (pvR 0) := s1_ne (by decide) (fun _ => rfl) l0
            replace l1 : px_lg (px_s1 lv9 7 (oI 0)) 1 = some (oI (i)) := s1_ne (by decide) (fun _ => rfl) l1
            replace l2 : px_lg (px_s1 lv9 7 (oI 0)) 2 = some (oI (way)) := s1_ne (by decide) (fun _ => rfl) l2
            replace l3 : px_lg (px_s1 lv9 7 (oI 0)) 3 = some (oI (n)) := s1_ne (by decide) (fun _ => rfl) l3
            replace l4 : px_lg (px_s1 lv9 7 (oI 0)) 4 = some (oI (what)) := s1_ne (by decide) (fun _ => rfl) l4
            replace l5 : px_lg (px_s1 lv9 7 (oI 0)) 5 = some (pvR (4 + 2 * m)) := s1_ne (by decide) (fun _ => rfl) l5
            replace l6 : px_lg (px_s1 lv9 7 (oI 0)) 6 = some (oI 0) := s1_ne (by decide) (fun _ => rfl) l6
            have l7 : px_lg (px_s1 lv9 7 (oI 0)) 7 = some (oI 0) := s1_eq
            generalize px_s1 lv9 7 (oI 0) = lv10 at l0 l1 l2 l3 l4 l5 l6 l7 ⊢
            show t_X d 137 67 lv10 [] g1 P
            refine t_0 vod_67 rfl rfl ?_
            refine t_2 vod_68 rfl (w := (px_s1 lv10 8 (oI 0), [])) rfl ?_
            replace l0 : px_lg (px_s1 lv10 8 (oI 0)) 0 = some (pvR 0) := s1_ne (by decide) (fun _ => rfl) l0
            replace l1 : px_lg (px_s1 lv10 8 (oI 0)) 1 = some (oI (i)) := s1_ne (by decide) (fun _ => rfl) l1
            replace l2 : px_lg (px_s1 lv10 8 (oI 0)) 2 = some (oI (way)) := s1_ne (by decide) (fun _ => rfl) l2
            replace l3 : px_lg (px_s1 lv10 8 (oI 0)) 3 = some (oI (n)) := s1_ne (by decide) (fun _ => rfl) l3
            replace l4 : px_lg (px_s1 lv10 8 (oI 0)) 4 = some (oI (what)) := s1_ne (by decide) (fun _ => rfl) l4
            replace l5 : px_lg (px_s1 lv10 8 (oI 0)) 5 = some (pvR (4 + 2 * m)) := s1_ne (by decide) (fun _ => rfl) l5
            replace l6 : px_lg (px_s1 lv10 8 (oI 0)) 6 = some (oI 0) := s1_ne (by decide) (fun _ => rfl) l6
            replace l7 : px_lg (px_s1 lv10 8 (oI 0)) 7 = some (oI 0) := s1_ne (by decide) (fun _ => rfl) l7
            have l8 : px_lg (px_s1 lv10 8 (oI 0)) 8 = some (oI 0) := s1_eq
            generalize px_s1 lv10 8 (oI 0) = lv11 at l0 l1 l2 l3 l4 l5 l6 l7 l8 ⊢
            show t_X d 137 70 lv11 [] g1 P
            obtain ⟨way, rfl⟩ : ∃ w : Nat, way = w := ⟨way.toNat, by omega⟩
            obtain ⟨n, rfl⟩ : ∃ w : Nat, n = w := ⟨n.toNat, by omega⟩
            have M1 := J1.2
            refine vod_loop hK hm (by omega) (sdC_f M1 (tW_n.1 m hm) ⟨rfl, rfl, rfl, rfl⟩) (((M1.1 164 0 tW_n.2.2.1).2.2).trans r0) (rLc_f M1 (tW_n.2.1 K hK) hL) (fA_M M1 (tW_n.1 m hm).2.2.2.2) (fA_M M1 tW_n.2.2.2) (n := n) (by omega) (way := way) (by omega) rfl rfl (fun g2 J2 lv l4 l6 l7 => ?_) 8 0 g1 _ (by omega) (by omega) (J_rf J1.1) l0 l2 l3 l4 l5 l6 l7 l8
            refine vA m hm e1 c0 ⟨by omega, by omega⟩ ⟨by omega, by omega⟩ ⟨by omega, by omega⟩ (by omega) g2 (J_up (oW_n hK).1.1 (J_up (oW_n hK).1.2 (J_rf hG) J1) J2) d (by omega) lv l4 l6 l7
          · show t_X d 137 54 lv1 [] g0 P
            refine t_0 vod_54 rfl rfl ?_
            refine t_5 vod_55 rfl rfl ?_
            exact hR (fun z => by obtain ⟨z0, z1, z2, z3, z4⟩ := z; omega)
        · show t_X d 137 41 lv1 [oI 0] g0 P
          refine tz_eq vod_41 (by decide) ⟨by omega, by omega⟩ (fun c12 => ?_) (fun c12 => absurd c12 (by omega))
          show t_X d 137 54 lv1 [] g0 P
          refine t_0 vod_54 rfl rfl ?_
          refine t_5 vod_55 rfl rfl ?_
          exact hR (fun z => by obtain ⟨z0, z1, z2, z3, z4⟩ := z; omega)
      · show t_X d 137 29 lv1 [oI 0] g0 P
        refine tz_ne vod_29 (by decide) ⟨by omega, by omega⟩ (fun c13 => absurd c13 (by omega)) (fun c13 => ?_)
        show t_X d 137 32 lv1 [] g0 P
        refine t_0 vod_32 rfl rfl ?_
        refine t_5 vod_33 rfl rfl ?_
        exact hR (fun z => by obtain ⟨z0, z1, z2, z3, z4⟩ := z; omega)
    · show t_X d 137 19 lv1 [oI 0] g0 P
      refine tz_eq vod_19 (by decide) ⟨by omega, by omega⟩ (fun c14 => ?_) (fun c14 => absurd c14 (by omega))
      show t_X d 137 32 lv1 [] g0 P
      refine t_0 vod_32 rfl rfl ?_
      refine t_5 vod_33 rfl rfl ?_
      exact hR (fun z => by obtain ⟨z0, z1, z2, z3, z4⟩ := z; omega)
  · show t_X d 137 8 lv [.inr (.inr none)] g0 P
    refine t_2 vod_8 rfl (w := (px_s1 lv 5 (.inr (.inr none)), [])) rfl ?_
    replace l0 : px_lg (px_s1 lv 5 (.inr (.inr none))) 0 = some (pvR 0) := s1_ne (by decide) (fun _ => rfl) l0
    replace l1 : px_lg (px_s1 lv 5 (.inr (.inr none))) 1 = some (oI (i)) := s1_ne (by decide) (fun _ => rfl) l1
    replace l2 : px_lg (px_s1 lv 5 (.inr (.inr none))) 2 = some (oI (way)) := s1_ne (by decide) (fun _ => rfl) l2
    replace l3 : px_lg (px_s1 lv 5 (.inr (.inr none))) 3 = some (oI (n)) := s1_ne (by decide) (fun _ => rfl) l3
    replace l4 : px_lg (px_s1 lv 5 (.inr (.inr none))) 4 = some (oI (what)) := s1_ne (by decide) (fun _ => rfl) l4
    have l5 : px_lg (px_s1 lv 5 (.inr (.inr none))) 5 = some (.inr (.inr none)) := s1_eq
    generalize px_s1 lv 5 (.inr (.inr none)) = lv15 at l0 l1 l2 l3 l4 l5 ⊢
    show t_X d 137 10 lv15 [] g0 P
    refine t_0 vod_10 rfl (ld_a l5) ?_
    refine t_1 vod_12 rfl (pn_nt (pc := 12) (by decide)) ?_
    show t_X d 137 32 lv15 [] g0 P
    refine t_0 vod_32 rfl rfl ?_
    refine t_5 vod_33 rfl rfl ?_
    exact hR (fun z => by first | exact c0 z.1 | (obtain ⟨z0, z1, z2, z3, z4⟩ := z; omega))
theorem vod_run {K : Nat} (hK : lK K) {k1 c : Int} {o v le st co en : tC} {d : Nat} (hd : 8 ≤ d) {g0 : pH} (hG : g_I eG g0) (hSr : rS g0) (r0 : g0.2.2.1 164 0 = some K) (hL : rLc g0 K k1 c o v le st co en) {i way n what : Int} (hi : -2147483648 ≤ i ∧ i ≤ 2147483647) (hw : -2147483648 ≤ way ∧ way ≤ 2147483647) (hn : -2147483648 ≤ n ∧ n ≤ 2147483647) (hwh : -2147483648 ≤ what ∧ what ≤ 2147483647) {P : Option pv × pH → Prop} (hA : ∀ m : Nat, m < 32 → i = m → cF g0 (4 + 2 * m) 2 = 1 → (0 ≤ way ∧ way ≤ 7) → (0 ≤ what ∧ what ≤ 1) → (0 ≤ n ∧ n ≤ 8) → 3 * n ≤ cF g0 0 1 → ∀ g1 : pH, J_ (oW K) g0 g1 → P (some (oI (oR (oS (fun w : Nat => tSb (fA g0 (5 + 2 * m)) (fA g0 1) w n.toNat) (fun w : Nat => aV o v (qF m (cF g0 (4 + 2 * m) 3) (cF g0 (4 + 2 * m) 4) (cF g0 (4 + 2 * m) 6) (cF g0 (4 + 2 * m) 5) w) le st co en c 119 99) 8).toNat (oQ (fun w : Nat => tSb (fA g0 (5 + 2 * m)) (fA g0 1) w n.toNat) (fun w : Nat => aV o v (qF m (cF g0 (4 + 2 * m) 3) (cF g0 (4 + 2 * m) 4) (cF g0 (4 + 2 * m) 6) (cF g0 (4 + 2 * m) 5) w) le st co en c 119 99) way.toNat 8).toNat what)), g1)) (hR : ¬ (toC g0 i ∧ (0 ≤ way ∧ way ≤ 7) ∧ (0 ≤ what ∧ what ≤ 1) ∧ (0 ≤ n ∧ n ≤ 8) ∧ 3 * n ≤ cF g0 0 1) → P (some (oI (-1)), g0)) {lv : List (Nat × pv)} (l0 : px_lg lv 0 = some (pvR 0)) (l1 : px_lg lv 1 = some (oI i)) (l2 : px_lg lv 2 = some (oI way)) (l3 : px_lg lv 3 = some (oI n)) (l4 : px_lg lv 4 = some (oI what)) : t_X d 137 0 lv [] g0 P := by
  refine vod_go hK hd hG hSr r0 hL hi hw hn hwh (fun m hm e1 c0 q1 q2 q3 q4 g1 J1 d hd lv l4 l6 l7 => ?_) hR l0 l1 l2 l3 l4
  have ha : ∀ w : Nat, 0 ≤ aV o v (qF m (cF g0 (4 + 2 * m) 3) (cF g0 (4 + 2 * m) 4) (cF g0 (4 + 2 * m) 6) (cF g0 (4 + 2 * m) 5) w) le st co en c 119 99 ∧ aV o v (qF m (cF g0 (4 + 2 * m) 3) (cF g0 (4 + 2 * m) 4) (cF g0 (4 + 2 * m) 6) (cF g0 (4 + 2 * m) 5) w) le st co en c 119 99 ≤ 99 := fun w => aV_b (by decide)
  have sb := oS_b (b := fun w : Nat => tSb (fA g0 (5 + 2 * m)) (fA g0 1) w n.toNat) (by decide) ha 8
  have qb := oQ_b (b := fun w : Nat => tSb (fA g0 (5 + 2 * m)) (fA g0 1) w n.toNat) (by decide) ha (way := way.toNat) (k := 8)
  exact vod_end (by omega) (by omega) q2 (by omega) (hA m hm e1 c0 q1 q2 q3 q4 g1 J1) (by rw [Int.toNat_of_nonneg sb.1]; exact l6) (by rw [Int.toNat_of_nonneg qb.1]; exact l7) l4
theorem vlh_loop {m : Nat} (hm : m < 32) {ki ma ta wo : Int} {k1 c : Int} {o v le st co en : tC} {g0 : pH} (hs : sdM g0 m ki ma ta wo) (hL : rLm g0 k1 c o v le st co en) {a : Nat → Int} (ea : a = (fun w : Nat => aV o v (qF m ki ma ta wo w) le st co en c 119 99)) {d : Nat} (hd : 6 ≤ d) {P : Option pv × pH → Prop} (hP : ∀ (q : Int) (g1 : pH), J_ hW9 g0 g1 → (∀ j, j < 8 → fA g1 229 j = a j) → P (some (oI q), g1)) : ∀ (r k : Nat) (q : Int) (g : pH) (lv : List (Nat × pv)), 8 - k ≤ r → k ≤ 8 → J_ hW9 g0 g → (∀ j, j < k → fA g 229 j = a j) → px_lg lv 0 = some (pvR 196) → px_lg lv 1 = some (oI (m : Int)) → px_lg lv 2 = some (oI q) → px_lg lv 3 = some (oI (k : Int)) → t_X d 214 4 lv [] g P := by
  have ha : ∀ k, 0 ≤ a k ∧ a k ≤ 99 := fun k => by rw [ea]; exact aV_b (by decide)
  intro r
  induction r with
  | zero =>
    intro k q g lv hr hk2 hJ hH l0 l1 l2 l3
    refine t_0 vlh_4 rfl (ld_i l3) ?_
    refine t_0 vlh_5 rfl (pq_b (by decide)) ?_
    refine tb_ge vlh_7 (by decide) ⟨by omega, by omega⟩ ⟨by omega, by omega⟩ (fun c1 => ?_) (fun c1 => absurd c1 (by omega))
    show t_X d 214 41 lv [] g P
    refine t_0 vlh_41 rfl (ld_i l2) ?_
    refine t_5 vlh_42 rfl rfl ?_
    exact hP _ g hJ (fun j hj => hH j (by omega))
  | succ r ih =>
    intro k q g lv hr hk2 hJ hH l0 l1 l2 l3
    by_cases hk : k < 8
    · skip
      refine t_0 vlh_4 rfl (ld_i l3) ?_
      refine t_0 vlh_5 rfl (pq_b (by decide)) ?_
      refine tb_ge vlh_7 (by decide) ⟨by omega, by omega⟩ ⟨by omega, by omega⟩ (fun c1 => absurd c1 (by omega)) (fun c1 => ?_)
      show t_X d 214 10 lv [] g P
      refine t_0 vlh_10 rfl (ld_a l0) ?_
      refine t_0 vlh_11 rfl (yccq_196_55 hJ.1) ?_
      show t_X d 214 14 lv [pvR 229] g P
      refine t_0 vlh_14 rfl (ld_i l3) ?_
      refine t_0 vlh_15 rfl (ld_a l0) ?_
      refine t_0 vlh_16 rfl (ld_i l1) ?_
      refine t_0 vlh_17 rfl (ld_i l3) ?_
      refine t_0 vlh_18 rfl (pq_b (by decide)) ?_
      refine t_0 vlh_20 rfl (pq_b (by decide)) ?_
      refine t_3 vlh_22 rfl (ar := ([pvR 196, oI ((m : Int)), oI ((k : Int)), oI 119, oI 99], [oI ((k : Int)), pvR 229])) (pcal_w (as := [oI 99, oI 119, oI ((k : Int)), oI ((m : Int))]) rfl rfl rfl yceo_196) ⟨by omega, Nat.le_of_ble_eq_true rfl, Nat.le_of_ble_eq_true rfl, rfl⟩ ?_
      refine vqa_run hm hk (by omega) hJ.1 (sdM_f hJ.2 hW_n.2.2.2.2.1.1 hW_n.2.2.2.2.1.2.1 hW_n.2.2.2.2.1.2.2.1 hW_n.2.2.2.2.1.2.2.2.1 hW_n.2.2.2.2.2 hs) (rLm_f hJ.2 hW_n.2.2.2.1 hL) (by decide) (by decide) (fun g2 J2 => ?_) rfl rfl rfl rfl rfl
      rw [show aV o v (qF m ki ma ta wo k) le st co en c 119 99 = a k from by rw [ea]]
      have hJ2 := J_up hW_n.1.1 hJ J2
      have ak := ha k
      show t_X d 214 25 lv [oI (a k), oI ((k : Int)), pvR 229] g2 P
      refine tw_a vlh_25 hJ2 ycez_229 rfl hW_n.2.1 ycgu_229 (by decide) ⟨by omega, by omega⟩ ⟨by omega, by omega⟩ (fun g3 hJ3 f1 f2 f3 f4 => ?_)
      show t_X d 214 26 lv [] g3 P
      refine t_0 vlh_26 rfl (ld_i l2) ?_
      refine t_0 vlh_27 rfl (ld_a l0) ?_
      refine t_0 vlh_28 rfl (yccq_196_55 hJ3.1) ?_
      show t_X d 214 31 lv [pvR 229, oI (q)] g3 P
      refine t_0 vlh_31 rfl (ld_i l3) ?_
      refine t_0 vlh_32 rfl (pq_iw ycez_229 rfl ⟨by omega, by omega⟩ f2) ?_
      show t_X d 214 33 lv [oI (a k), oI (q)] g3 P
      refine t_0 vlh_33 rfl pq_add ?_
      refine t_2 vlh_34 rfl (w := (px_s1 lv 2 (oI (q + (a k))), [])) rfl ?_
      replace l0 : px_lg (px_s1 lv 2 (oI (q + (a k)))) 0 = some (pvR 196) := s1_ne (by decide) (fun _ => rfl) l0
      replace l1 : px_lg (px_s1 lv 2 (oI (q + (a k)))) 1 = some (oI ((m : Int))) := s1_ne (by decide) (fun _ => rfl) l1
      replace l3 : px_lg (px_s1 lv 2 (oI (q + (a k)))) 3 = some (oI ((k : Int))) := s1_ne (by decide) (fun _ => rfl) l3
      have l2 : px_lg (px_s1 lv 2 (oI (q + (a k)))) 2 = some (oI (q + (a k))) := s1_eq
      generalize px_s1 lv 2 (oI (q + (a k))) = lv2 at l0 l1 l3 l2 ⊢
      show t_X d 214 35 lv2 [] g3 P
      refine t_2 vlh_35 rfl (w := (px_s1 lv2 3 (oI ((k : Int) + 1)), [])) (pq_inc l3 (by decide)) ?_
      replace l0 : px_lg (px_s1 lv2 3 (oI ((k : Int) + 1))) 0 = some (pvR 196) := s1_ne (by decide) (fun _ => rfl) l0
      replace l1 : px_lg (px_s1 lv2 3 (oI ((k : Int) + 1))) 1 = some (oI ((m : Int))) := s1_ne (by decide) (fun _ => rfl) l1
      replace l2 : px_lg (px_s1 lv2 3 (oI ((k : Int) + 1))) 2 = some (oI (q + (a k))) := s1_ne (by decide) (fun _ => rfl) l2
      have l3 : px_lg (px_s1 lv2 3 (oI ((k : Int) + 1))) 3 = some (oI ((k : Int) + 1)) := s1_eq
      generalize px_s1 lv2 3 (oI ((k : Int) + 1)) = lv3 at l0 l1 l2 l3 ⊢
      show t_X d 214 38 lv3 [] g3 P
      refine t_1 vlh_38 rfl (pb_goto (pc := 38) (by decide)) ?_
      show t_X d 214 4 lv3 [] g3 P
      refine ih (k + 1) _ g3 _ (by omega) (by omega) hJ3 (fun j hj => ?_) l0 l1 l2 l3
      rcases Nat.lt_or_ge j k with z | z
      · exact (f3 j (by show j ≠ ((k : Int)).toNat; omega)).trans ((congrFun (fA_M J2.2 hW_n.2.2.1) j).trans (hH j z))
      · rw [show j = k by omega]; exact f2
    · skip
      refine t_0 vlh_4 rfl (ld_i l3) ?_
      refine t_0 vlh_5 rfl (pq_b (by decide)) ?_
      refine tb_ge vlh_7 (by decide) ⟨by omega, by omega⟩ ⟨by omega, by omega⟩ (fun c1 => ?_) (fun c1 => absurd c1 (by omega))
      show t_X d 214 41 lv [] g P
      refine t_0 vlh_41 rfl (ld_i l2) ?_
      refine t_5 vlh_42 rfl rfl ?_
      exact hP _ g hJ (fun j hj => hH j (by omega))
theorem vlh_run {m : Nat} (hm : m < 32) {ki ma ta wo : Int} {k1 c : Int} {o v le st co en : tC} {g0 : pH} (hs : sdM g0 m ki ma ta wo) (hL : rLm g0 k1 c o v le st co en) {a : Nat → Int} (ea : a = (fun w : Nat => aV o v (qF m ki ma ta wo w) le st co en c 119 99)) {d : Nat} (hd : 6 ≤ d) {P : Option pv × pH → Prop} (hP : ∀ (q : Int) (g1 : pH), J_ hW9 g0 g1 → (∀ j, j < 8 → fA g1 229 j = a j) → P (some (oI q), g1)) (hG : g_I eG g0) {lv : List (Nat × pv)} (l0 : px_lg lv 0 = some (pvR 196)) (l1 : px_lg lv 1 = some (oI (m : Int))) : t_X d 214 0 lv [] g0 P := by
  refine t_0 vlh_0 rfl rfl ?_
  refine t_2 vlh_1 rfl (w := (px_s1 lv 2 (oI 0), [])) rfl ?_
  replace l0 : px_lg (px_s1 lv 2 (oI 0)) 0 = some (pvR 196) := s1_ne (by decide) (fun _ => rfl) l0
  replace l1 : px_lg (px_s1 lv 2 (oI 0)) 1 = some (oI ((m : Int))) := s1_ne (by decide) (fun _ => rfl) l1
  have l2 : px_lg (px_s1 lv 2 (oI 0)) 2 = some (oI 0) := s1_eq
  generalize px_s1 lv 2 (oI 0) = lv1 at l0 l1 l2 ⊢
  show t_X d 214 2 lv1 [] g0 P
  refine t_0 vlh_2 rfl rfl ?_
  refine t_2 vlh_3 rfl (w := (px_s1 lv1 3 (oI 0), [])) rfl ?_
  replace l0 : px_lg (px_s1 lv1 3 (oI 0)) 0 = some (pvR 196) := s1_ne (by decide) (fun _ => rfl) l0
  replace l1 : px_lg (px_s1 lv1 3 (oI 0)) 1 = some (oI ((m : Int))) := s1_ne (by decide) (fun _ => rfl) l1
  replace l2 : px_lg (px_s1 lv1 3 (oI 0)) 2 = some (oI 0) := s1_ne (by decide) (fun _ => rfl) l2
  have l3 : px_lg (px_s1 lv1 3 (oI 0)) 3 = some (oI 0) := s1_eq
  generalize px_s1 lv1 3 (oI 0) = lv2 at l0 l1 l2 l3 ⊢
  show t_X d 214 4 lv2 [] g0 P
  exact vlh_loop hm hs hL ea hd hP 8 0 0 g0 _ (by omega) (by omega) (J_rf hG) (fun j hj => absurd hj (Nat.not_lt_zero j)) l0 l1 l2 l3
theorem vom_loop {m : Nat} (hm : m < 32) {d : Nat} (hd : 4 ≤ d) {g : pH} (hG : g_I eG g) {pic t : tC} (hp : ∀ j : Nat, j < 25 → pic j = fA g 210 (25 * m + j)) (ht0 : ∀ k : Nat, k < 260 → t k = fA g 211 k % 256) (ht : ∀ k : Nat, k < 260 → -128 ≤ fA g 211 k ∧ fA g 211 k ≤ 127) {n : Nat} (hn : n ≤ 8) (hpb : ∀ j, -2147483648 ≤ pic j ∧ pic j ≤ 2147483647) {way : Nat} (hway : way < 8) {what : Int} {b : Nat → Bool} {a : Nat → Int} (eb : b = (fun w : Nat => tSb pic t w n)) (hH : ∀ j, j < 8 → fA g 229 j = a j) (ha : ∀ k, 0 ≤ a k ∧ a k ≤ 99) {P : Option pv × pH → Prop} (hP : ∀ lv : List (Nat × pv), px_lg lv 0 = some (pvR 196) → px_lg lv 1 = some (oI (m : Int)) → px_lg lv 2 = some (oI (way : Int)) → px_lg lv 3 = some (oI (n : Int)) → px_lg lv 4 = some (oI what) → px_lg lv 5 = some (oI (oS b a 8)) → t_X d 228 104 lv [] g P) : ∀ (r k : Nat) (lv : List (Nat × pv)), 8 - k ≤ r → k ≤ 8 → px_lg lv 0 = some (pvR 196) → px_lg lv 1 = some (oI (m : Int)) → px_lg lv 2 = some (oI (way : Int)) → px_lg lv 3 = some (oI (n : Int)) → px_lg lv 4 = some (oI what) → px_lg lv 5 = some (oI (oS b a k)) → px_lg lv 6 = some (oI (k : Int)) → t_X d 228 64 lv [] g P := by
  intro r
  induction r with
  | zero =>
    intro k lv hr hk2 l0 l1 l2 l3 l4 l5 l6
    refine t_0 vom_64 rfl (ld_i l6) ?_
    refine t_0 vom_66 rfl (pq_b (by decide)) ?_
    refine tb_ge vom_68 (by decide) ⟨by omega, by omega⟩ ⟨by omega, by omega⟩ (fun c1 => ?_) (fun c1 => absurd c1 (by omega))
    show t_X d 228 104 lv [] g P
    obtain rfl : k = 8 := by omega
    exact hP _ l0 l1 l2 l3 l4 l5
  | succ r ih =>
    intro k lv hr hk2 l0 l1 l2 l3 l4 l5 l6
    by_cases hk : k < 8
    · skip
      refine t_0 vom_64 rfl (ld_i l6) ?_
      refine t_0 vom_66 rfl (pq_b (by decide)) ?_
      refine tb_ge vom_68 (by decide) ⟨by omega, by omega⟩ ⟨by omega, by omega⟩ (fun c1 => absurd c1 (by omega)) (fun c1 => ?_)
      show t_X d 228 71 lv [] g P
      refine t_0 vom_71 rfl (ld_i l5) ?_
      refine t_0 vom_73 rfl (ld_a l0) ?_
      refine t_0 vom_74 rfl (ld_i l1) ?_
      refine t_0 vom_75 rfl (ld_i l6) ?_
      refine t_0 vom_77 rfl (ld_i l3) ?_
      refine t_3 vom_78 rfl (ar := ([pvR 196, oI ((m : Int)), oI ((k : Int)), oI ((n : Int))], [oI (oS b a k)])) (pcal_w (as := [oI ((n : Int)), oI ((k : Int)), oI ((m : Int))]) rfl rfl rfl yceo_196) ⟨by omega, Nat.le_of_ble_eq_true rfl, Nat.le_of_ble_eq_true rfl, rfl⟩ ?_
      refine vsh_run (pic := pic) (t := t) hm hk (by omega) hG hp ht0 ht hn hpb (fun q0 => ?_) (fun q0 => ?_) rfl rfl rfl rfl
      · show t_X d 228 81 lv [oI 1, oI (oS b a k)] g P
        refine tz_eq vom_81 (by decide) ⟨by omega, by omega⟩ (fun c2 => absurd c2 (by omega)) (fun c2 => ?_)
        show t_X d 228 84 lv [oI (oS b a k)] g P
        refine t_0 vom_84 rfl (ld_a l0) ?_
        refine t_0 vom_85 rfl (yccq_196_55 hG) ?_
        show t_X d 228 88 lv [pvR 229, oI (oS b a k)] g P
        refine t_0 vom_88 rfl (ld_i l6) ?_
        refine t_0 vom_90 rfl (pq_iw ycez_229 rfl ⟨by omega, by omega⟩ (hH k (by omega))) ?_
        show t_X d 228 91 lv [oI (a k), oI (oS b a k)] g P
        refine t_1 vom_91 rfl (pb_goto (pc := 91) (by decide)) ?_
        show t_X d 228 95 lv [oI (a k), oI (oS b a k)] g P
        refine t_0 vom_95 rfl pq_add ?_
        refine t_2 vom_96 rfl (w := (px_s1 lv 5 (oI ((oS b a k) + (a k))), [])) rfl ?_
        replace l0 : px_lg (px_s1 lv 5 (oI ((oS b a k) + (a k)))) 0 = some (pvR 196) := s1_ne (by decide) (fun _ => rfl) l0
        replace l1 : px_lg (px_s1 lv 5 (oI ((oS b a k) + (a k)))) 1 = some (oI ((m : Int))) := s1_ne (by decide) (fun _ => rfl) l1
        replace l2 : px_lg (px_s1 lv 5 (oI ((oS b a k) + (a k)))) 2 = some (oI ((way : Int))) := s1_ne (by decide) (fun _ => rfl) l2
        replace l3 : px_lg (px_s1 lv 5 (oI ((oS b a k) + (a k)))) 3 = some (oI ((n : Int))) := s1_ne (by decide) (fun _ => rfl) l3
        replace l4 : px_lg (px_s1 lv 5 (oI ((oS b a k) + (a k)))) 4 = some (oI (what)) := s1_ne (by decide) (fun _ => rfl) l4
        replace l6 : px_lg (px_s1 lv 5 (oI ((oS b a k) + (a k)))) 6 = some (oI ((k : Int))) := s1_ne (by decide) (fun _ => rfl) l6
        have l5 : px_lg (px_s1 lv 5 (oI ((oS b a k) + (a k)))) 5 = some (oI ((oS b a k) + (a k))) := s1_eq
        generalize px_s1 lv 5 (oI ((oS b a k) + (a k))) = lv3 at l0 l1 l2 l3 l4 l6 l5 ⊢
        show t_X d 228 98 lv3 [] g P
        refine t_2 vom_98 rfl (w := (px_s1 lv3 6 (oI ((k : Int) + 1)), [])) (pq_inc l6 (by decide)) ?_
        replace l0 : px_lg (px_s1 lv3 6 (oI ((k : Int) + 1))) 0 = some (pvR 196) := s1_ne (by decide) (fun _ => rfl) l0
        replace l1 : px_lg (px_s1 lv3 6 (oI ((k : Int) + 1))) 1 = some (oI ((m : Int))) := s1_ne (by decide) (fun _ => rfl) l1
        replace l2 : px_lg (px_s1 lv3 6 (oI ((k : Int) + 1))) 2 = some (oI ((way : Int))) := s1_ne (by decide) (fun _ => rfl) l2
        replace l3 : px_lg (px_s1 lv3 6 (oI ((k : Int) + 1))) 3 = some (oI ((n : Int))) := s1_ne (by decide) (fun _ => rfl) l3
        replace l4 : px_lg (px_s1 lv3 6 (oI ((k : Int) + 1))) 4 = some (oI (what)) := s1_ne (by decide) (fun _ => rfl) l4
        replace l5 : px_lg (px_s1 lv3 6 (oI ((k : Int) + 1))) 5 = some (oI ((oS b a k) + (a k))) := s1_ne (by decide) (fun _ => rfl) l5
        have l6 : px_lg (px_s1 lv3 6 (oI ((k : Int) + 1))) 6 = some (oI ((k : Int) + 1)) := s1_eq
        generalize px_s1 lv3 6 (oI ((k : Int) + 1)) = lv4 at l0 l1 l2 l3 l4 l5 l6 ⊢
        show t_X d 228 101 lv4 [] g P
        refine t_1 vom_101 rfl (pb_goto (pc := 101) (by decide)) ?_
        show t_X d 228 64 lv4 [] g P
        have q : b k = true := by rw [eb]; exact q0
        exact ih (k + 1) _ (by omega) (by omega) l0 l1 l2 l3 l4 (by rw [oS_y q]; exact l5) l6
      · show t_X d 228 81 lv [oI 0, oI (oS b a k)] g P
        refine tz_eq vom_81 (by decide) ⟨by omega, by omega⟩ (fun c5 => ?_) (fun c5 => absurd c5 (by omega))
        show t_X d 228 94 lv [oI (oS b a k)] g P
        refine t_0 vom_94 rfl rfl ?_
        refine t_0 vom_95 rfl pq_add ?_
        refine t_2 vom_96 rfl (w := (px_s1 lv 5 (oI ((oS b a k) + 0)), [])) rfl ?_
        replace l0 : px_lg (px_s1 lv 5 (oI ((oS b a k) + 0))) 0 = some (pvR 196) := s1_ne (by decide) (fun _ => rfl) l0
        replace l1 : px_lg (px_s1 lv 5 (oI ((oS b a k) + 0))) 1 = some (oI ((m : Int))) := s1_ne (by decide) (fun _ => rfl) l1
        replace l2 : px_lg (px_s1 lv 5 (oI ((oS b a k) + 0))) 2 = some (oI ((way : Int))) := s1_ne (by decide) (fun _ => rfl) l2
        replace l3 : px_lg (px_s1 lv 5 (oI ((oS b a k) + 0))) 3 = some (oI ((n : Int))) := s1_ne (by decide) (fun _ => rfl) l3
        replace l4 : px_lg (px_s1 lv 5 (oI ((oS b a k) + 0))) 4 = some (oI (what)) := s1_ne (by decide) (fun _ => rfl) l4
        replace l6 : px_lg (px_s1 lv 5 (oI ((oS b a k) + 0))) 6 = some (oI ((k : Int))) := s1_ne (by decide) (fun _ => rfl) l6
        have l5 : px_lg (px_s1 lv 5 (oI ((oS b a k) + 0))) 5 = some (oI ((oS b a k) + 0)) := s1_eq
        generalize px_s1 lv 5 (oI ((oS b a k) + 0)) = lv6 at l0 l1 l2 l3 l4 l6 l5 ⊢
        show t_X d 228 98 lv6 [] g P
        refine t_2 vom_98 rfl (w := (px_s1 lv6 6 (oI ((k : Int) + 1)), [])) (pq_inc l6 (by decide)) ?_
        replace l0 : px_lg (px_s1 lv6 6 (oI ((k : Int) + 1))) 0 = some (pvR 196) := s1_ne (by decide) (fun _ => rfl) l0
        replace l1 : px_lg (px_s1 lv6 6 (oI ((k : Int) + 1))) 1 = some (oI ((m : Int))) := s1_ne (by decide) (fun _ => rfl) l1
        replace l2 : px_lg (px_s1 lv6 6 (oI ((k : Int) + 1))) 2 = some (oI ((way : Int))) := s1_ne (by decide) (fun _ => rfl) l2
        replace l3 : px_lg (px_s1 lv6 6 (oI ((k : Int) + 1))) 3 = some (oI ((n : Int))) := s1_ne (by decide) (fun _ => rfl) l3
        replace l4 : px_lg (px_s1 lv6 6 (oI ((k : Int) + 1))) 4 = some (oI (what)) := s1_ne (by decide) (fun _ => rfl) l4
        replace l5 : px_lg (px_s1 lv6 6 (oI ((k : Int) + 1))) 5 = some (oI ((oS b a k) + 0)) := s1_ne (by decide) (fun _ => rfl) l5
        have l6 : px_lg (px_s1 lv6 6 (oI ((k : Int) + 1))) 6 = some (oI ((k : Int) + 1)) := s1_eq
        generalize px_s1 lv6 6 (oI ((k : Int) + 1)) = lv7 at l0 l1 l2 l3 l4 l5 l6 ⊢
        show t_X d 228 101 lv7 [] g P
        refine t_1 vom_101 rfl (pb_goto (pc := 101) (by decide)) ?_
        show t_X d 228 64 lv7 [] g P
        have q : b k = false := by rw [eb]; exact q0
        exact ih (k + 1) _ (by omega) (by omega) l0 l1 l2 l3 l4 (by rw [oS_f q]; rw [show oS b a k + 0 = oS b a k by omega] at l5; exact l5) l6
    · skip
      refine t_0 vom_64 rfl (ld_i l6) ?_
      refine t_0 vom_66 rfl (pq_b (by decide)) ?_
      refine tb_ge vom_68 (by decide) ⟨by omega, by omega⟩ ⟨by omega, by omega⟩ (fun c1 => ?_) (fun c1 => absurd c1 (by omega))
      show t_X d 228 104 lv [] g P
      obtain rfl : k = 8 := by omega
      exact hP _ l0 l1 l2 l3 l4 l5
theorem vom_end {m : Nat} (hm : m < 32) {d : Nat} (hd : 4 ≤ d) {g : pH} (hG : g_I eG g) {pic t : tC} (hp : ∀ j : Nat, j < 25 → pic j = fA g 210 (25 * m + j)) (ht0 : ∀ k : Nat, k < 260 → t k = fA g 211 k % 256) (ht : ∀ k : Nat, k < 260 → -128 ≤ fA g 211 k ∧ fA g 211 k ≤ 127) {n : Nat} (hn : n ≤ 8) (hpb : ∀ j, -2147483648 ≤ pic j ∧ pic j ≤ 2147483647) {way : Nat} (hway : way < 8) {what : Int} {b : Nat → Bool} {a : Nat → Int} (eb : b = (fun w : Nat => tSb pic t w n)) (hH : ∀ j, j < 8 → fA g 229 j = a j) (ha : ∀ k, 0 ≤ a k ∧ a k ≤ 99) {P : Option pv × pH → Prop} (hwh : 0 ≤ what ∧ what ≤ 1) {al : Nat} (h2 : al ≤ 792) (hP : P (some (oI (oR al (oQ b a way 8).toNat what)), g)) {lv : List (Nat × pv)} (l0 : px_lg lv 0 = some (pvR 196)) (l1 : px_lg lv 1 = some (oI (m : Int))) (l2 : px_lg lv 2 = some (oI (way : Int))) (l3 : px_lg lv 3 = some (oI (n : Int))) (l4 : px_lg lv 4 = some (oI what)) (l5 : px_lg lv 5 = some (oI ((al : Nat) : Int))) : t_X d 228 104 lv [] g P := by
  by_cases hz : al = 0
  · skip
    refine t_0 vom_104 rfl (ld_i l5) ?_
    refine tz_ne vom_106 (by decide) ⟨by omega, by omega⟩ (fun c1 => absurd c1 (by omega)) (fun c1 => ?_)
    show t_X d 228 109 lv [] g P
    refine t_0 vom_109 rfl (pq_b (by decide)) ?_
    refine t_5 vom_111 rfl rfl ?_
    rw [oR_z hz] at hP
    exact hP
  rcases (show what = 0 ∨ what = 1 by omega) with rfl | rfl
  · skip
    refine t_0 vom_104 rfl (ld_i l5) ?_
    refine tz_ne vom_106 (by decide) ⟨by omega, by omega⟩ (fun c1 => ?_) (fun c1 => absurd c1 (by omega))
    show t_X d 228 112 lv [] g P
    refine t_0 vom_112 rfl (ld_a l0) ?_
    refine t_0 vom_113 rfl (ld_i l1) ?_
    refine t_0 vom_114 rfl (ld_i l2) ?_
    refine t_0 vom_115 rfl (ld_i l3) ?_
    refine t_3 vom_116 rfl (ar := ([pvR 196, oI ((m : Int)), oI ((way : Int)), oI ((n : Int))], [])) (pcal_w (as := [oI ((n : Int)), oI ((way : Int)), oI ((m : Int))]) rfl rfl rfl yceo_196) ⟨by omega, Nat.le_of_ble_eq_true rfl, Nat.le_of_ble_eq_true rfl, rfl⟩ ?_
    refine vsh_run (pic := pic) (t := t) hm hway (by omega) hG hp ht0 ht hn hpb (fun q0 => ?_) (fun q0 => ?_) rfl rfl rfl rfl
    · show t_X d 228 119 lv [oI 1] g P
      refine tz_eq vom_119 (by decide) ⟨by omega, by omega⟩ (fun c2 => absurd c2 (by omega)) (fun c2 => ?_)
      show t_X d 228 122 lv [] g P
      refine t_0 vom_122 rfl (ld_a l0) ?_
      refine t_0 vom_123 rfl (yccq_196_55 hG) ?_
      show t_X d 228 126 lv [pvR 229] g P
      refine t_0 vom_126 rfl (ld_i l2) ?_
      refine t_0 vom_127 rfl (pq_iw ycez_229 rfl ⟨by omega, by omega⟩ (hH way (by omega))) ?_
      show t_X d 228 128 lv [oI (a way)] g P
      refine t_0 vom_128 rfl (pq_il ⟨by have := ha way; omega, by have := ha way; omega⟩) ?_
      refine t_1 vom_129 rfl (pb_goto (pc := 129) (by decide)) ?_
      show t_X d 228 133 lv [.inr (.inl (Int64.ofInt (a way)))] g P
      have q : b way = true := by rw [eb]; exact q0
      obtain ⟨ak, hak⟩ : ∃ z : Nat, a way = (z : Int) := ⟨(a way).toNat, by have := ha way; omega⟩
      have hk9 : oQ b a way 8 = (ak : Int) := (oQ_t hway q).trans hak
      have h1 : ak ≤ 99 := by have := oQ_b (b := b) (by decide : (0 : Int) ≤ 99) ha (way := way) (k := 8); omega
      rw [hk9, Int.toNat_natCast] at hP
      rw [hak]
      show t_X d 228 133 lv [.inr (.inl (Int64.ofInt ((ak : Nat) : Int)))] g P
      refine t_0 vom_133 rfl (ld_i l5) ?_
      refine t_0 vom_135 rfl (pq_il ⟨by omega, by omega⟩) ?_
      refine t_0 vom_136 rfl (ld_i l4) ?_
      refine t_3 vom_138 rfl (ar := ([.inr (.inl (Int64.ofInt ((ak : Nat) : Int))), .inr (.inl (Int64.ofInt ((al : Nat) : Int))), oI 0], [])) (pcal_s ⟨Or.inl rfl, rfl, Nat.le_of_ble_eq_true rfl⟩) ⟨by omega, Nat.le_of_ble_eq_true rfl, Nat.le_of_ble_eq_true rfl, rfl⟩ ?_
      refine vth_r0 (by omega) (by omega) (by omega) (gD_o h1 h2) (by omega) ?_ rfl rfl rfl
      show t_X d 228 141 lv [.inr (.inl (Int64.ofInt (((ak : Nat) : Int) / ((gS 100 ak al : Nat) : Int))))] g P
      refine t_0 vom_141 rfl pq_li ?_
      refine t_5 vom_142 rfl rfl ?_
      rw [oR_a hz] at hP
      exact hP
    · show t_X d 228 119 lv [oI 0] g P
      refine tz_eq vom_119 (by decide) ⟨by omega, by omega⟩ (fun c3 => ?_) (fun c3 => absurd c3 (by omega))
      show t_X d 228 132 lv [] g P
      refine t_0 vom_132 rfl rfl ?_
      have q : b way = false := by rw [eb]; exact q0
      obtain ⟨ak, hak⟩ : ∃ z : Nat, (0 : Int) = (z : Int) := ⟨0, rfl⟩
      have hk9 : oQ b a way 8 = (ak : Int) := (oQ_z q).trans hak
      have h1 : ak ≤ 99 := by have := oQ_b (b := b) (by decide : (0 : Int) ≤ 99) ha (way := way) (k := 8); omega
      rw [hk9, Int.toNat_natCast] at hP
      show t_X d 228 133 lv [.inr (.inl (Int64.ofNat 0))] g P
      rw [show Int64.ofNat 0 = Int64.ofInt ((ak : Nat) : Int) from by rw [← hak]; rfl]
      show t_X d 228 133 lv [.inr (.inl (Int64.ofInt ((ak : Nat) : Int)))] g P
      refine t_0 vom_133 rfl (ld_i l5) ?_
      refine t_0 vom_135 rfl (pq_il ⟨by omega, by omega⟩) ?_
      refine t_0 vom_136 rfl (ld_i l4) ?_
      refine t_3 vom_138 rfl (ar := ([.inr (.inl (Int64.ofInt ((ak : Nat) : Int))), .inr (.inl (Int64.ofInt ((al : Nat) : Int))), oI 0], [])) (pcal_s ⟨Or.inl rfl, rfl, Nat.le_of_ble_eq_true rfl⟩) ⟨by omega, Nat.le_of_ble_eq_true rfl, Nat.le_of_ble_eq_true rfl, rfl⟩ ?_
      refine vth_r0 (by omega) (by omega) (by omega) (gD_o h1 h2) (by omega) ?_ rfl rfl rfl
      show t_X d 228 141 lv [.inr (.inl (Int64.ofInt (((ak : Nat) : Int) / ((gS 100 ak al : Nat) : Int))))] g P
      refine t_0 vom_141 rfl pq_li ?_
      refine t_5 vom_142 rfl rfl ?_
      rw [oR_a hz] at hP
      exact hP
  · skip
    refine t_0 vom_104 rfl (ld_i l5) ?_
    refine tz_ne vom_106 (by decide) ⟨by omega, by omega⟩ (fun c1 => ?_) (fun c1 => absurd c1 (by omega))
    show t_X d 228 112 lv [] g P
    refine t_0 vom_112 rfl (ld_a l0) ?_
    refine t_0 vom_113 rfl (ld_i l1) ?_
    refine t_0 vom_114 rfl (ld_i l2) ?_
    refine t_0 vom_115 rfl (ld_i l3) ?_
    refine t_3 vom_116 rfl (ar := ([pvR 196, oI ((m : Int)), oI ((way : Int)), oI ((n : Int))], [])) (pcal_w (as := [oI ((n : Int)), oI ((way : Int)), oI ((m : Int))]) rfl rfl rfl yceo_196) ⟨by omega, Nat.le_of_ble_eq_true rfl, Nat.le_of_ble_eq_true rfl, rfl⟩ ?_
    refine vsh_run (pic := pic) (t := t) hm hway (by omega) hG hp ht0 ht hn hpb (fun q0 => ?_) (fun q0 => ?_) rfl rfl rfl rfl
    · show t_X d 228 119 lv [oI 1] g P
      refine tz_eq vom_119 (by decide) ⟨by omega, by omega⟩ (fun c2 => absurd c2 (by omega)) (fun c2 => ?_)
      show t_X d 228 122 lv [] g P
      refine t_0 vom_122 rfl (ld_a l0) ?_
      refine t_0 vom_123 rfl (yccq_196_55 hG) ?_
      show t_X d 228 126 lv [pvR 229] g P
      refine t_0 vom_126 rfl (ld_i l2) ?_
      refine t_0 vom_127 rfl (pq_iw ycez_229 rfl ⟨by omega, by omega⟩ (hH way (by omega))) ?_
      show t_X d 228 128 lv [oI (a way)] g P
      refine t_0 vom_128 rfl (pq_il ⟨by have := ha way; omega, by have := ha way; omega⟩) ?_
      refine t_1 vom_129 rfl (pb_goto (pc := 129) (by decide)) ?_
      show t_X d 228 133 lv [.inr (.inl (Int64.ofInt (a way)))] g P
      have q : b way = true := by rw [eb]; exact q0
      obtain ⟨ak, hak⟩ : ∃ z : Nat, a way = (z : Int) := ⟨(a way).toNat, by have := ha way; omega⟩
      have hk9 : oQ b a way 8 = (ak : Int) := (oQ_t hway q).trans hak
      have h1 : ak ≤ 99 := by have := oQ_b (b := b) (by decide : (0 : Int) ≤ 99) ha (way := way) (k := 8); omega
      rw [hk9, Int.toNat_natCast] at hP
      rw [hak]
      show t_X d 228 133 lv [.inr (.inl (Int64.ofInt ((ak : Nat) : Int)))] g P
      refine t_0 vom_133 rfl (ld_i l5) ?_
      refine t_0 vom_135 rfl (pq_il ⟨by omega, by omega⟩) ?_
      refine t_0 vom_136 rfl (ld_i l4) ?_
      refine t_3 vom_138 rfl (ar := ([.inr (.inl (Int64.ofInt ((ak : Nat) : Int))), .inr (.inl (Int64.ofInt ((al : Nat) : Int))), oI 1], [])) (pcal_s ⟨Or.inl rfl, rfl, Nat.le_of_ble_eq_true rfl⟩) ⟨by omega, Nat.le_of_ble_eq_true rfl, Nat.le_of_ble_eq_true rfl, rfl⟩ ?_
      refine vth_r1 (by omega) (by omega) (by omega) (gD_o h1 h2) (by omega) ?_ rfl rfl rfl
      show t_X d 228 141 lv [.inr (.inl (Int64.ofInt (((al : Nat) : Int) / ((gS 100 ak al : Nat) : Int))))] g P
      refine t_0 vom_141 rfl pq_li ?_
      refine t_5 vom_142 rfl rfl ?_
      rw [oR_b hz] at hP
      exact hP
    · show t_X d 228 119 lv [oI 0] g P
      refine tz_eq vom_119 (by decide) ⟨by omega, by omega⟩ (fun c3 => ?_) (fun c3 => absurd c3 (by omega))
      show t_X d 228 132 lv [] g P
      refine t_0 vom_132 rfl rfl ?_
      have q : b way = false := by rw [eb]; exact q0
      obtain ⟨ak, hak⟩ : ∃ z : Nat, (0 : Int) = (z : Int) := ⟨0, rfl⟩
      have hk9 : oQ b a way 8 = (ak : Int) := (oQ_z q).trans hak
      have h1 : ak ≤ 99 := by have := oQ_b (b := b) (by decide : (0 : Int) ≤ 99) ha (way := way) (k := 8); omega
      rw [hk9, Int.toNat_natCast] at hP
      show t_X d 228 133 lv [.inr (.inl (Int64.ofNat 0))] g P
      rw [show Int64.ofNat 0 = Int64.ofInt ((ak : Nat) : Int) from by rw [← hak]; rfl]
      show t_X d 228 133 lv [.inr (.inl (Int64.ofInt ((ak : Nat) : Int)))] g P
      refine t_0 vom_133 rfl (ld_i l5) ?_
      refine t_0 vom_135 rfl (pq_il ⟨by omega, by omega⟩) ?_
      refine t_0 vom_136 rfl (ld_i l4) ?_
      refine t_3 vom_138 rfl (ar := ([.inr (.inl (Int64.ofInt ((ak : Nat) : Int))), .inr (.inl (Int64.ofInt ((al : Nat) : Int))), oI 1], [])) (pcal_s ⟨Or.inl rfl, rfl, Nat.le_of_ble_eq_true rfl⟩) ⟨by omega, Nat.le_of_ble_eq_true rfl, Nat.le_of_ble_eq_true rfl, rfl⟩ ?_
      refine vth_r1 (by omega) (by omega) (by omega) (gD_o h1 h2) (by omega) ?_ rfl rfl rfl
      show t_X d 228 141 lv [.inr (.inl (Int64.ofInt (((al : Nat) : Int) / ((gS 100 ak al : Nat) : Int))))] g P
      refine t_0 vom_141 rfl pq_li ?_
      refine t_5 vom_142 rfl rfl ?_
      rw [oR_b hz] at hP
      exact hP
set_option maxHeartbeats 2000000 in
theorem vom_run {m : Nat} (hm : m < 32) {ki ma ta wo : Int} {k1 c : Int} {o v le st co en : tC} {d : Nat} (hd : 8 ≤ d) {g0 : pH} (hG : g_I eG g0) (hs : sdM g0 m ki ma ta wo) (hL : rLm g0 k1 c o v le st co en) {pic t : tC} (hp : ∀ j : Nat, j < 25 → pic j = fA g0 210 (25 * m + j)) (ht0 : ∀ k : Nat, k < 260 → t k = fA g0 211 k % 256) (ht : ∀ k : Nat, k < 260 → -128 ≤ fA g0 211 k ∧ fA g0 211 k ≤ 127) {n : Nat} (hn : n ≤ 8) (hpb : ∀ j, -2147483648 ≤ pic j ∧ pic j ≤ 2147483647) {way : Nat} (hway : way < 8) {what : Int} (hwh : 0 ≤ what ∧ what ≤ 1) (hbm : bM g0 m) (h3 : 3 * (n : Int) ≤ cF g0 196 17) {P : Option pv × pH → Prop} (hP : ∀ g1 : pH, P (some (oI (oR (oS (fun w : Nat => tSb pic t w n) (fun w : Nat => aV o v (qF m ki ma ta wo w) le st co en c 119 99) 8).toNat (oQ (fun w : Nat => tSb pic t w n) (fun w : Nat => aV o v (qF m ki ma ta wo w) le st co en c 119 99) way 8).toNat what)), g1)) {lv : List (Nat × pv)} (l0 : px_lg lv 0 = some (pvR 196)) (l1 : px_lg lv 1 = some (oI (m : Int))) (l2 : px_lg lv 2 = some (oI (way : Int))) (l3 : px_lg lv 3 = some (oI (n : Int))) (l4 : px_lg lv 4 = some (oI what)) : t_X d 228 0 lv [] g0 P := by
  have tb := gk_17 hG
  have tb : 0 ≤ cF g0 196 17 ∧ cF g0 196 17 ≤ 260 := tb
  have hi : -2147483648 ≤ (m : Int) ∧ (m : Int) ≤ 2147483647 := by omega
  have he : (m : Int) = m := rfl
  refine t_0 vom_0 rfl (ld_a l0) ?_
  refine t_0 vom_1 rfl (ld_i l1) ?_
  refine t_3 vom_2 rfl (ar := ([pvR 196, oI ((m : Int))], [])) (pcal_w (as := [oI ((m : Int))]) rfl rfl rfl yceo_196) ⟨by omega, Nat.le_of_ble_eq_true rfl, Nat.le_of_ble_eq_true rfl, rfl⟩ ?_
  refine it_run (by omega) hi rfl rfl (fun m9 hm9 e9 c9 => ?_) (fun c9 => ?_)
  · show t_X d 228 5 lv [oI 1] g0 P
    refine tz_eq vom_5 (by decide) ⟨by omega, by omega⟩ (fun c1 => absurd c1 (by omega)) (fun c1 => ?_)
    show t_X d 228 8 lv [] g0 P
    refine t_0 vom_8 rfl (ld_i l2) ?_
    refine t_3 vom_9 rfl (ar := ([oI ((way : Int))], [])) (pcal_s ⟨Or.inl rfl, rfl, Nat.le_of_ble_eq_true rfl⟩) ⟨by omega, Nat.le_of_ble_eq_true rfl, Nat.le_of_ble_eq_true rfl, rfl⟩ ?_
    refine vwm_run ⟨by omega, by omega⟩ (fun t2 => ?_) (fun t2 => absurd ⟨by omega, by omega⟩ t2) rfl
    show t_X d 228 12 lv [oI 1] g0 P
    refine tz_eq vom_12 (by decide) ⟨by omega, by omega⟩ (fun c3 => absurd c3 (by omega)) (fun c3 => ?_)
    show t_X d 228 15 lv [] g0 P
    refine t_0 vom_15 rfl (ld_i l3) ?_
    refine t_0 vom_16 rfl rfl ?_
    refine t_0 vom_17 rfl (pq_b (by decide)) ?_
    refine t_3 vom_19 rfl (ar := ([oI ((n : Int)), oI 0, oI 8], [])) (pcal_s ⟨Or.inl rfl, rfl, Nat.le_of_ble_eq_true rfl⟩) ⟨by omega, Nat.le_of_ble_eq_true rfl, Nat.le_of_ble_eq_true rfl, rfl⟩ ?_
    refine in_run ⟨by omega, by omega⟩ ⟨by omega, by omega⟩ ⟨by omega, by omega⟩ rfl rfl rfl (fun t4 => ?_) (fun t4 => absurd t4 (by omega))
    show t_X d 228 22 lv [oI 1] g0 P
    refine tz_eq vom_22 (by decide) ⟨by omega, by omega⟩ (fun c5 => absurd c5 (by omega)) (fun c5 => ?_)
    show t_X d 228 25 lv [] g0 P
    refine t_0 vom_25 rfl (ld_i l4) ?_
    refine t_0 vom_27 rfl rfl ?_
    refine t_0 vom_28 rfl rfl ?_
    refine t_3 vom_29 rfl (ar := ([oI (what), oI 0, oI 1], [])) (pcal_s ⟨Or.inl rfl, rfl, Nat.le_of_ble_eq_true rfl⟩) ⟨by omega, Nat.le_of_ble_eq_true rfl, Nat.le_of_ble_eq_true rfl, rfl⟩ ?_
    refine in_run ⟨by omega, by omega⟩ ⟨by omega, by omega⟩ ⟨by omega, by omega⟩ rfl rfl rfl (fun t6 => ?_) (fun t6 => absurd t6 (by omega))
    show t_X d 228 32 lv [oI 1] g0 P
    refine tz_eq vom_32 (by decide) ⟨by omega, by omega⟩ (fun c7 => absurd c7 (by omega)) (fun c7 => ?_)
    show t_X d 228 35 lv [] g0 P
    refine t_0 vom_35 rfl rfl ?_
    refine t_0 vom_36 rfl (ld_i l3) ?_
    refine t_0 vom_37 rfl pq_mul ?_
    refine t_0 vom_38 rfl (ld_a l0) ?_
    refine t_0 vom_39 rfl (pq_cv yceo_196 rfl (rfl : cF g0 196 17 = cF g0 196 17)) ?_
    show t_X d 228 42 lv [oI (cF g0 196 17), oI (3 * (n : Int))] g0 P
    refine tb_le vom_42 (by decide) ⟨by omega, by omega⟩ ⟨by omega, by omega⟩ (fun c8 => ?_) (fun c8 => absurd c8 (by omega))
    show t_X d 228 47 lv [] g0 P
    refine t_0 vom_47 rfl (ld_a l0) ?_
    refine t_0 vom_48 rfl rfl ?_
    refine tw_c vom_49 yceo_196 rfl (J_rf hG : J_ (2 ^ (cn 196 + 17)) g0 g0) (by decide +kernel) gf_17 (by decide) ⟨by omega, by omega⟩ (fun g1 J1 e1_ => ?_)
    show t_X d 228 52 lv [] g1 P
    refine t_0 vom_52 rfl (ld_a l0) ?_
    refine t_0 vom_53 rfl (ld_i l1) ?_
    refine t_3 vom_54 rfl (ar := ([pvR 196, oI ((m : Int))], [])) (pcal_w (as := [oI ((m : Int))]) rfl rfl rfl yceo_196) ⟨by omega, Nat.le_of_ble_eq_true rfl, Nat.le_of_ble_eq_true rfl, rfl⟩ ?_
    refine vlh_run hm (sdM_f J1.2 uW_n.1.1 uW_n.1.2.1 uW_n.1.2.2.1 uW_n.1.2.2.2.1 uW_n.2.2 hs) (rLm_f J1.2 uW_n.2.1 hL) rfl (by omega) (fun qq g2 J2 hH => ?_) J1.1 rfl rfl
    show t_X d 228 57 lv [oI (qq)] g2 P
    refine t_0 vom_57 rfl rfl ?_
    refine t_0 vom_58 rfl rfl ?_
    refine t_2 vom_59 rfl (w := (px_s1 lv 5 (oI 0), [])) rfl ?_
    replace l0 : px_lg (px_s1 lv 5 (oI 0)) 0 = some (pvR 196) := s1_ne (by decide) (fun _ => rfl) l0
    replace l1 : px_lg (px_s1 lv 5 (oI 0)) 1 = some (oI ((m : Int))) := s1_ne (by decide) (fun _ => rfl) l1
    replace l2 : px_lg (px_s1 lv 5 (oI 0)) 2 = some (oI ((way : Int))) := s1_ne (by decide) (fun _ => rfl) l2
    replace l3 : px_lg (px_s1 lv 5 (oI 0)) 3 = some (oI ((n : Int))) := s1_ne (by decide) (fun _ => rfl) l3
    replace l4 : px_lg (px_s1 lv 5 (oI 0)) 4 = some (oI (what)) := s1_ne (by decide) (fun _ => rfl) l4
    have l5 : px_lg (px_s1 lv 5 (oI 0)) 5 = some (oI 0) := s1_eq
    generalize px_s1 lv 5 (oI 0) = lv9 at l0 l1 l2 l3 l4 l5 ⊢
    show t_X d 228 61 lv9 [] g2 P
    refine t_0 vom_61 rfl rfl ?_
    refine t_2 vom_62 rfl (w := (px_s1 lv9 6 (oI 0), [])) rfl ?_
    replace l0 : px_lg (px_s1 lv9 6 (oI 0)) 0 = some (pvR 196) := s1_ne (by decide) (fun _ => rfl) l0
    replace l1 : px_lg (px_s1 lv9 6 (oI 0)) 1 = some (oI ((m : Int))) := s1_ne (by decide) (fun _ => rfl) l1
    replace l2 : px_lg (px_s1 lv9 6 (oI 0)) 2 = some (oI ((way : Int))) := s1_ne (by decide) (fun _ => rfl) l2
    replace l3 : px_lg (px_s1 lv9 6 (oI 0)) 3 = some (oI ((n : Int))) := s1_ne (by decide) (fun _ => rfl) l3
    replace l4 : px_lg (px_s1 lv9 6 (oI 0)) 4 = some (oI (what)) := s1_ne (by decide) (fun _ => rfl) l4
    replace l5 : px_lg (px_s1 lv9 6 (oI 0)) 5 = some (oI 0) := s1_ne (by decide) (fun _ => rfl) l5
    have l6 : px_lg (px_s1 lv9 6 (oI 0)) 6 = some (oI 0) := s1_eq
    generalize px_s1 lv9 6 (oI 0) = lv10 at l0 l1 l2 l3 l4 l5 l6 ⊢
    show t_X d 228 64 lv10 [] g2 P
    have ea : ∀ K, K = 210 ∨ K = 211 → fA g2 K = fA g0 K := fun K hK => by rcases hK with rfl | rfl; exact (fA_M J2.2 hW_n.2.2.2.2.1.2.2.2.2.1).trans (fA_M J1.2 uW_n.1.2.2.2.2.1); exact (fA_M J2.2 hW_n.2.2.2.2.1.2.2.2.2.2).trans (fA_M J1.2 uW_n.1.2.2.2.2.2)
    have hp2 : ∀ j : Nat, j < 25 → pic j = fA g2 210 (25 * m + j) := fun j hj => by rw [ea 210 (Or.inl rfl)]; exact hp j hj
    have h02 : ∀ k : Nat, k < 260 → t k = fA g2 211 k % 256 := fun k hk => by rw [ea 211 (Or.inr rfl)]; exact ht0 k hk
    have h12 : ∀ k : Nat, k < 260 → -128 ≤ fA g2 211 k ∧ fA g2 211 k ≤ 127 := fun k hk => by rw [ea 211 (Or.inr rfl)]; exact ht k hk
    have ha : ∀ w : Nat, 0 ≤ aV o v (qF m ki ma ta wo w) le st co en c 119 99 ∧ aV o v (qF m ki ma ta wo w) le st co en c 119 99 ≤ 99 := fun w => aV_b (by decide)
    have sb := oS_b (b := fun w : Nat => tSb pic t w n) (by decide) ha 8
    refine vom_loop hm (by omega) J2.1 hp2 h02 h12 hn hpb hway rfl hH ha (fun lv l0 l1 l2 l3 l4 l5 => ?_) 8 0 _ (by omega) (by omega) l0 l1 l2 l3 l4 l5 l6
    exact vom_end hm (by omega) J2.1 hp2 h02 h12 hn hpb hway rfl hH ha hwh (by omega) (hP g2) l0 l1 l2 l3 l4 (by rw [Int.toNat_of_nonneg sb.1]; exact l5)
  · exact absurd ⟨m, hm, he, hbm⟩ c9
theorem vom_rej {d : Nat} (hd : 8 ≤ d) {g0 : pH} (hG : g_I eG g0) {i way n what : Int} (hi : -2147483648 ≤ i ∧ i ≤ 2147483647) (hw : -2147483648 ≤ way ∧ way ≤ 2147483647) (hn : -2147483648 ≤ n ∧ n ≤ 2147483647) (hwh : -2147483648 ≤ what ∧ what ≤ 2147483647) (hC : ¬ (toM g0 i ∧ (0 ≤ way ∧ way ≤ 7) ∧ (0 ≤ what ∧ what ≤ 1) ∧ (0 ≤ n ∧ n ≤ 8) ∧ 3 * n ≤ cF g0 196 17)) {P : Option pv × pH → Prop} (hP : P (some (oI (-1)), g0)) {lv : List (Nat × pv)} (l0 : px_lg lv 0 = some (pvR 196)) (l1 : px_lg lv 1 = some (oI i)) (l2 : px_lg lv 2 = some (oI way)) (l3 : px_lg lv 3 = some (oI n)) (l4 : px_lg lv 4 = some (oI what)) : t_X d 228 0 lv [] g0 P := by
  have tb := gk_17 hG
  have tb : 0 ≤ cF g0 196 17 ∧ cF g0 196 17 ≤ 260 := tb
  refine t_0 vom_0 rfl (ld_a l0) ?_
  refine t_0 vom_1 rfl (ld_i l1) ?_
  refine t_3 vom_2 rfl (ar := ([pvR 196, oI (i)], [])) (pcal_w (as := [oI (i)]) rfl rfl rfl yceo_196) ⟨by omega, Nat.le_of_ble_eq_true rfl, Nat.le_of_ble_eq_true rfl, rfl⟩ ?_
  refine it_run (by omega) hi rfl rfl (fun m9 hm9 e9 c9 => ?_) (fun c9 => ?_)
  · show t_X d 228 5 lv [oI 1] g0 P
    refine tz_eq vom_5 (by decide) ⟨by omega, by omega⟩ (fun c1 => absurd c1 (by omega)) (fun c1 => ?_)
    show t_X d 228 8 lv [] g0 P
    refine t_0 vom_8 rfl (ld_i l2) ?_
    refine t_3 vom_9 rfl (ar := ([oI (way)], [])) (pcal_s ⟨Or.inl rfl, rfl, Nat.le_of_ble_eq_true rfl⟩) ⟨by omega, Nat.le_of_ble_eq_true rfl, Nat.le_of_ble_eq_true rfl, rfl⟩ ?_
    refine vwm_run ⟨by omega, by omega⟩ (fun t2 => ?_) (fun t2 => ?_) rfl
    · show t_X d 228 12 lv [oI 1] g0 P
      refine tz_eq vom_12 (by decide) ⟨by omega, by omega⟩ (fun c3 => absurd c3 (by omega)) (fun c3 => ?_)
      show t_X d 228 15 lv [] g0 P
      refine t_0 vom_15 rfl (ld_i l3) ?_
      refine t_0 vom_16 rfl rfl ?_
      refine t_0 vom_17 rfl (pq_b (by decide)) ?_
      refine t_3 vom_19 rfl (ar := ([oI (n), oI 0, oI 8], [])) (pcal_s ⟨Or.inl rfl, rfl, Nat.le_of_ble_eq_true rfl⟩) ⟨by omega, Nat.le_of_ble_eq_true rfl, Nat.le_of_ble_eq_true rfl, rfl⟩ ?_
      refine in_run ⟨by omega, by omega⟩ ⟨by omega, by omega⟩ ⟨by omega, by omega⟩ rfl rfl rfl (fun t4 => ?_) (fun t4 => ?_)
      · show t_X d 228 22 lv [oI 1] g0 P
        refine tz_eq vom_22 (by decide) ⟨by omega, by omega⟩ (fun c5 => absurd c5 (by omega)) (fun c5 => ?_)
        show t_X d 228 25 lv [] g0 P
        refine t_0 vom_25 rfl (ld_i l4) ?_
        refine t_0 vom_27 rfl rfl ?_
        refine t_0 vom_28 rfl rfl ?_
        refine t_3 vom_29 rfl (ar := ([oI (what), oI 0, oI 1], [])) (pcal_s ⟨Or.inl rfl, rfl, Nat.le_of_ble_eq_true rfl⟩) ⟨by omega, Nat.le_of_ble_eq_true rfl, Nat.le_of_ble_eq_true rfl, rfl⟩ ?_
        refine in_run ⟨by omega, by omega⟩ ⟨by omega, by omega⟩ ⟨by omega, by omega⟩ rfl rfl rfl (fun t6 => ?_) (fun t6 => ?_)
        · show t_X d 228 32 lv [oI 1] g0 P
          refine tz_eq vom_32 (by decide) ⟨by omega, by omega⟩ (fun c7 => absurd c7 (by omega)) (fun c7 => ?_)
          show t_X d 228 35 lv [] g0 P
          refine t_0 vom_35 rfl rfl ?_
          refine t_0 vom_36 rfl (ld_i l3) ?_
          refine t_0 vom_37 rfl pq_mul ?_
          refine t_0 vom_38 rfl (ld_a l0) ?_
          refine t_0 vom_39 rfl (pq_cv yceo_196 rfl (rfl : cF g0 196 17 = cF g0 196 17)) ?_
          show t_X d 228 42 lv [oI (cF g0 196 17), oI (3 * n)] g0 P
          refine tb_le vom_42 (by decide) ⟨by omega, by omega⟩ ⟨by omega, by omega⟩ (fun c8 => ?_) (fun c8 => ?_)
          · show t_X d 228 47 lv [] g0 P
            exact absurd ⟨⟨m9, hm9, e9, c9⟩, ⟨by omega, by omega⟩, ⟨by omega, by omega⟩, ⟨by omega, by omega⟩, by omega⟩ hC
          · show t_X d 228 45 lv [] g0 P
            refine t_0 vom_45 rfl rfl ?_
            refine t_5 vom_46 rfl rfl ?_
            exact hP
        · show t_X d 228 32 lv [oI 0] g0 P
          refine tz_eq vom_32 (by decide) ⟨by omega, by omega⟩ (fun c9 => ?_) (fun c9 => absurd c9 (by omega))
          show t_X d 228 45 lv [] g0 P
          refine t_0 vom_45 rfl rfl ?_
          refine t_5 vom_46 rfl rfl ?_
          exact hP
      · show t_X d 228 22 lv [oI 0] g0 P
        refine tz_eq vom_22 (by decide) ⟨by omega, by omega⟩ (fun c10 => ?_) (fun c10 => absurd c10 (by omega))
        show t_X d 228 45 lv [] g0 P
        refine t_0 vom_45 rfl rfl ?_
        refine t_5 vom_46 rfl rfl ?_
        exact hP
    · show t_X d 228 12 lv [oI 0] g0 P
      refine tz_eq vom_12 (by decide) ⟨by omega, by omega⟩ (fun c11 => ?_) (fun c11 => absurd c11 (by omega))
      show t_X d 228 45 lv [] g0 P
      refine t_0 vom_45 rfl rfl ?_
      refine t_5 vom_46 rfl rfl ?_
      exact hP
  · show t_X d 228 5 lv [oI 0] g0 P
    refine tz_eq vom_5 (by decide) ⟨by omega, by omega⟩ (fun c12 => ?_) (fun c12 => absurd c12 (by omega))
    show t_X d 228 45 lv [] g0 P
    refine t_0 vom_45 rfl rfl ?_
    refine t_5 vom_46 rfl rfl ?_
    exact hP
theorem pr_qq {R : pH → Prop} {μ ν : Nat} {as : List pv} {τ : Nat} {q : Bool} {g : pH} (h : pr_ R μ ν as τ q g) (h' : t_X 99 μ 0 (px_ar 0 (pvR 0 :: as)) [] g (fun o => ∃ v, o.1 = some v ∧ t_X 99 ν 0 (px_ar 0 (pvR 196 :: as)) [] o.2 (fun o2 => o2.1 = some v))) : pr_ R μ ν as τ true g := t_mono (t_and h h') (fun o ho => by
  obtain ⟨⟨v, h1, h2, h3⟩, v', h4, h5⟩ := ho
  obtain rfl : v = v' := Option.some.inj (h1.symm.trans h4)
  refine ⟨v, h1, h2, t_mono (t_and h3 h5) (fun o2 ho2 => ?_)⟩
  obtain ⟨⟨w, k1, k2, k3, k4, k5, k6⟩, k7⟩ := ho2
  exact ⟨w, k1, k2, k3, k4, k5, fun _ => Option.some.inj (k7.symm.trans k1)⟩)
theorem RL_s {g : pH} (h : RL g) : ∃ (K : Nat) (k1 c : Int) (o v le st co en : tC), lK K ∧ g.2.2.1 164 0 = some K ∧ rLc g K k1 c o v le st co en ∧ rLm g k1 c o v le st co en := by
  rcases h with ⟨h1, -, k1, c, o, v, le, st, co, en, a1, a2, a3, b, c0, c1, c2⟩ | ⟨h1, -, k1, c, o, v, le, st, co, en, a1, a2, a3, b, c0, c1, c2⟩
  · exact ⟨156, k1, c, o, v, le, st, co, en, Or.inl rfl, h1, ⟨⟨a3, a1, a2⟩, b⟩, ⟨a3, a1, a2⟩, c0, c1, c2⟩
  · exact ⟨165, k1, c, o, v, le, st, co, en, Or.inr rfl, h1, ⟨⟨a3, a1, a2⟩, b⟩, ⟨a3, a1, a2⟩, c0, c1, c2⟩
set_option maxHeartbeats 1000000 in
theorem pq_odds {g : pH} (hG : g_I eG g) (hx : xL g) (hR : R17 g) (x1 x2 x3 x4 : Int32) : pr_ R17 137 228 [.inl x1, .inl x2, .inl x3, .inl x4] 0 true g := by
  refine pr_qq (p17_odds hG hx hR x1 x2 x3 x4) ?_
  obtain ⟨⟨⟨⟨hSr, hT, hN, hKp⟩, hl⟩, hRL⟩, ⟨⟨r1, r2, r3, r4⟩, r5⟩⟩ := hR
  have hR1 : R1 g := ⟨hSr, hT, hN, hKp⟩
  obtain ⟨K, k1, c, o, v, le, st, co, en, hK, r0, hLc, hLm⟩ := RL_s hRL
  refine vod_run hK (by decide) hG hSr r0 hLc (i := x1.toInt) (way := x2.toInt) (n := x3.toInt) (what := x4.toInt) (i32_b _) (i32_b _) (i32_b _) (i32_b _) (fun m hm e1 c0 q1 q2 q3 q4 g1 J1 => ⟨_, rfl, ?_⟩) (fun hC => ⟨_, rfl, ?_⟩) rfl (congrArg some (oI_r x1)) (congrArg some (oI_r x2)) (congrArg some (oI_r x3)) (congrArg some (oI_r x4))
  · obtain ⟨-, -, ⟨w0, w17, w49, w35⟩, wA⟩ := oW_n hK
    have M1 := J1.2
    have fa : ∀ k, k ∈ ([199, 200, 201, 202, 210, 211, 222, 223, 224, 225, 226] : List Nat) → (oW K).testBit (cn k) = false := fun k hk => by
      have := List.all_eq_true.mp wA k hk
      rw [Bool.not_eq_true'] at this
      exact this
    obtain ⟨way, hway⟩ : ∃ w : Nat, x2.toInt = w := ⟨x2.toInt.toNat, by omega⟩
    obtain ⟨n, hn⟩ : ∃ w : Nat, x3.toInt = w := ⟨x3.toInt.toNat, by omega⟩
    obtain ⟨⟨s3, s4, s5, s6⟩, sp⟩ := r1 m hm
    have bm : bM g1 m := by
      unfold bM
      rw [(M1.1 196 0 w0).1]
      exact (hN m hm).mp c0
    rw [hway, hn, Int.toNat_natCast, Int.toNat_natCast]
    have hs9 : sdM g m (cF g (4 + 2 * m) 3) (cF g (4 + 2 * m) 4) (cF g (4 + 2 * m) 6) (cF g (4 + 2 * m) 5) := ⟨⟨s3.symm, s4.symm, s6.symm, s5.symm⟩, r5⟩
    exact vom_run hm (by decide) J1.1 (sdM_f M1 (fa 199 (by decide)) (fa 200 (by decide)) (fa 201 (by decide)) (fa 202 (by decide)) w49 hs9) (rLm_f M1 ⟨w35, fa 222 (by decide), fa 223 (by decide), fa 224 (by decide), fa 225 (by decide), fa 226 (by decide)⟩ hLm) (pic := fA g (5 + 2 * m)) (t := fA g 1) (fun j hj => (sp j hj).trans (congrFun (fA_M M1 (fa 210 (by decide))) _).symm) (fun k hk => by rw [fA_M M1 (fa 211 (by decide))]; exact (hT k hk).1) (fun k hk => by rw [fA_M M1 (fa 211 (by decide))]; exact (hT k hk).2) (n := n) (by omega) (fun j => i32_b _) (way := way) (by omega) q2 bm (by rw [cF_M M1 w17, ← hl]; omega) (fun g2 => rfl) rfl ((congrArg some (oI_r x1)).trans (by rw [e1])) ((congrArg some (oI_r x2)).trans (by rw [hway])) ((congrArg some (oI_r x3)).trans (by rw [hn])) (congrArg some (oI_r x4))
  · refine vom_rej (by decide) hG (i := x1.toInt) (way := x2.toInt) (n := x3.toInt) (what := x4.toInt) (i32_b _) (i32_b _) (i32_b _) (i32_b _) (fun z => hC ?_) (by exact rfl) rfl (congrArg some (oI_r x1)) (congrArg some (oI_r x2)) (congrArg some (oI_r x3)) (congrArg some (oI_r x4))
    exact ⟨(to_iff hR1).mpr z.1, z.2.1, z.2.2.1, z.2.2.2.1, by rw [hl]; exact z.2.2.2.2⟩
