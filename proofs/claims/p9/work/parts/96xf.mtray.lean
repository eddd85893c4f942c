/-! reference: the tray's text, exactly (printed by wip/e2/u2.py) -/
theorem ycg_0 : xe_look (xc 175) 0 = some (.aload_n 0, 1, 0, 0, 0) := by decide +kernel
theorem ycg_1 : xe_look (xc 175) 1 = some (.aload_n 0, 1, 0, 0, 0) := by decide +kernel
theorem ycg_2 : xe_look (xc 175) 2 = some (.getfield 242, 3, 12, 18, 1135) := by decide +kernel
theorem ycg_5 : xe_look (xc 175) 5 = some (.iconst 1, 1, 0, 0, 0) := by decide +kernel
theorem ycg_6 : xe_look (xc 175) 6 = some (.iadd, 1, 0, 0, 0) := by decide +kernel
theorem ycg_7 : xe_look (xc 175) 7 = some (.putfield 242, 3, 12, 18, 1135) := by decide +kernel
theorem ycg_10 : xe_look (xc 175) 10 = some (.aload_n 0, 1, 0, 0, 0) := by decide +kernel
theorem ycg_11 : xe_look (xc 175) 11 = some (.invokevirtual 248, 3, 0, 203, 1136) := by decide +kernel
theorem ycg_14 : xe_look (xc 175) 14 = some (.ifCond .eq 12, 3, 0, 0, 0) := by decide +kernel
theorem ycg_17 : xe_look (xc 175) 17 = some (.aload_n 0, 1, 0, 0, 0) := by decide +kernel
theorem ycg_18 : xe_look (xc 175) 18 = some (.invokevirtual 252, 3, 0, 198, 1137) := by decide +kernel
theorem ycg_21 : xe_look (xc 175) 21 = some (.bipush 50, 2, 0, 0, 0) := by decide +kernel
theorem ycg_23 : xe_look (xc 175) 23 = some (.if_icmp .ge 13, 3, 0, 0, 0) := by decide +kernel
theorem ycg_26 : xe_look (xc 175) 26 = some (.aload_n 0, 1, 0, 0, 0) := by decide +kernel
theorem ycg_27 : xe_look (xc 175) 27 = some (.iconst 1, 1, 0, 0, 0) := by decide +kernel
theorem ycg_28 : xe_look (xc 175) 28 = some (.aload_n 0, 1, 0, 0, 0) := by decide +kernel
theorem ycg_29 : xe_look (xc 175) 29 = some (.getfield 242, 3, 12, 18, 1135) := by decide +kernel
theorem ycg_32 : xe_look (xc 175) 32 = some (.invokevirtual 256, 3, 0, 274, 1138) := by decide +kernel
theorem ycg_35 : xe_look (xc 175) 35 = some (.ireturn, 1, 0, 0, 0) := by decide +kernel
theorem ycg_36 : xe_look (xc 175) 36 = some (.aload_n 0, 1, 0, 0, 0) := by decide +kernel
theorem ycg_37 : xe_look (xc 175) 37 = some (.invokevirtual 252, 3, 0, 198, 1137) := by decide +kernel
theorem ycg_40 : xe_look (xc 175) 40 = some (.bipush 48, 2, 0, 0, 0) := by decide +kernel
theorem ycg_42 : xe_look (xc 175) 42 = some (.isub, 1, 0, 0, 0) := by decide +kernel
theorem ycg_43 : xe_look (xc 175) 43 = some (.istore_n 1, 1, 0, 0, 0) := by decide +kernel
theorem ycg_44 : xe_look (xc 175) 44 = some (.aload_n 0, 1, 0, 0, 0) := by decide +kernel
theorem ycg_45 : xe_look (xc 175) 45 = some (.aload_n 0, 1, 0, 0, 0) := by decide +kernel
theorem ycg_46 : xe_look (xc 175) 46 = some (.getfield 242, 3, 12, 18, 1135) := by decide +kernel
theorem ycg_49 : xe_look (xc 175) 49 = some (.iconst 1, 1, 0, 0, 0) := by decide +kernel
theorem ycg_50 : xe_look (xc 175) 50 = some (.iadd, 1, 0, 0, 0) := by decide +kernel
theorem ycg_51 : xe_look (xc 175) 51 = some (.putfield 242, 3, 12, 18, 1135) := by decide +kernel
theorem ycg_54 : xe_look (xc 175) 54 = some (.aload_n 0, 1, 0, 0, 0) := by decide +kernel
theorem ycg_55 : xe_look (xc 175) 55 = some (.aload_n 0, 1, 0, 0, 0) := by decide +kernel
theorem ycg_56 : xe_look (xc 175) 56 = some (.getfield 265, 3, 12, 26, 1139) := by decide +kernel
theorem ycg_59 : xe_look (xc 175) 59 = some (.iconst 1, 1, 0, 0, 0) := by decide +kernel
theorem ycg_60 : xe_look (xc 175) 60 = some (.isub, 1, 0, 0, 0) := by decide +kernel
theorem ycg_61 : xe_look (xc 175) 61 = some (.putfield 265, 3, 12, 26, 1139) := by decide +kernel
theorem ycg_64 : xe_look (xc 175) 64 = some (.aload_n 0, 1, 0, 0, 0) := by decide +kernel
theorem ycg_65 : xe_look (xc 175) 65 = some (.getfield 65, 3, 12, 30, 1140) := by decide +kernel
theorem ycg_68 : xe_look (xc 175) 68 = some (.aload_n 0, 1, 0, 0, 0) := by decide +kernel
theorem ycg_69 : xe_look (xc 175) 69 = some (.getfield 265, 3, 12, 26, 1139) := by decide +kernel
theorem ycg_72 : xe_look (xc 175) 72 = some (.iaload, 1, 0, 0, 0) := by decide +kernel
theorem ycg_73 : xe_look (xc 175) 73 = some (.istore_n 2, 1, 0, 0, 0) := by decide +kernel
theorem ycg_74 : xe_look (xc 175) 74 = some (.aload_n 0, 1, 0, 0, 0) := by decide +kernel
theorem ycg_75 : xe_look (xc 175) 75 = some (.getfield 262, 3, 12, 25, 1141) := by decide +kernel
theorem ycg_78 : xe_look (xc 175) 78 = some (.iload_n 2, 1, 0, 0, 0) := by decide +kernel
theorem ycg_79 : xe_look (xc 175) 79 = some (.isub, 1, 0, 0, 0) := by decide +kernel
theorem ycg_80 : xe_look (xc 175) 80 = some (.istore_n 3, 1, 0, 0, 0) := by decide +kernel
theorem ycg_81 : xe_look (xc 175) 81 = some (.iload_n 2, 1, 0, 0, 0) := by decide +kernel
theorem ycg_82 : xe_look (xc 175) 82 = some (.iload_n 3, 1, 0, 0, 0) := by decide +kernel
theorem ycg_83 : xe_look (xc 175) 83 = some (.iload_n 1, 1, 0, 0, 0) := by decide +kernel
theorem ycg_84 : xe_look (xc 175) 84 = some (.imul, 1, 0, 0, 0) := by decide +kernel
theorem ycg_85 : xe_look (xc 175) 85 = some (.iadd, 1, 0, 0, 0) := by decide +kernel
theorem ycg_86 : xe_look (xc 175) 86 = some (.bipush 60, 2, 0, 0, 0) := by decide +kernel
theorem ycg_88 : xe_look (xc 175) 88 = some (.if_icmp .le 19, 3, 0, 0, 0) := by decide +kernel
theorem ycg_91 : xe_look (xc 175) 91 = some (.aload_n 0, 1, 0, 0, 0) := by decide +kernel
theorem ycg_92 : xe_look (xc 175) 92 = some (.bipush 6, 2, 0, 0, 0) := by decide +kernel
theorem ycg_94 : xe_look (xc 175) 94 = some (.aload_n 0, 1, 0, 0, 0) := by decide +kernel
theorem ycg_95 : xe_look (xc 175) 95 = some (.getfield 62, 3, 12, 29, 1142) := by decide +kernel
theorem ycg_98 : xe_look (xc 175) 98 = some (.aload_n 0, 1, 0, 0, 0) := by decide +kernel
theorem ycg_99 : xe_look (xc 175) 99 = some (.getfield 265, 3, 12, 26, 1139) := by decide +kernel
theorem ycg_102 : xe_look (xc 175) 102 = some (.iaload, 1, 0, 0, 0) := by decide +kernel
theorem ycg_103 : xe_look (xc 175) 103 = some (.invokevirtual 256, 3, 0, 274, 1138) := by decide +kernel
theorem ycg_106 : xe_look (xc 175) 106 = some (.ireturn, 1, 0, 0, 0) := by decide +kernel
theorem ycg_107 : xe_look (xc 175) 107 = some (.iload_n 3, 1, 0, 0, 0) := by decide +kernel
theorem ycg_108 : xe_look (xc 175) 108 = some (.istore 4, 2, 0, 0, 0) := by decide +kernel
theorem ycg_110 : xe_look (xc 175) 110 = some (.iload 4, 2, 0, 0, 0) := by decide +kernel
theorem ycg_112 : xe_look (xc 175) 112 = some (.iload_n 3, 1, 0, 0, 0) := by decide +kernel
theorem ycg_113 : xe_look (xc 175) 113 = some (.iload_n 1, 1, 0, 0, 0) := by decide +kernel
theorem ycg_114 : xe_look (xc 175) 114 = some (.imul, 1, 0, 0, 0) := by decide +kernel
theorem ycg_115 : xe_look (xc 175) 115 = some (.if_icmp .ge 29, 3, 0, 0, 0) := by decide +kernel
theorem ycg_118 : xe_look (xc 175) 118 = some (.aload_n 0, 1, 0, 0, 0) := by decide +kernel
theorem ycg_119 : xe_look (xc 175) 119 = some (.getfield 59, 3, 12, 28, 1143) := by decide +kernel
theorem ycg_122 : xe_look (xc 175) 122 = some (.iload_n 2, 1, 0, 0, 0) := by decide +kernel
theorem ycg_123 : xe_look (xc 175) 123 = some (.iload 4, 2, 0, 0, 0) := by decide +kernel
theorem ycg_125 : xe_look (xc 175) 125 = some (.iadd, 1, 0, 0, 0) := by decide +kernel
theorem ycg_126 : xe_look (xc 175) 126 = some (.aload_n 0, 1, 0, 0, 0) := by decide +kernel
theorem ycg_127 : xe_look (xc 175) 127 = some (.getfield 59, 3, 12, 28, 1143) := by decide +kernel
theorem ycg_130 : xe_look (xc 175) 130 = some (.iload_n 2, 1, 0, 0, 0) := by decide +kernel
theorem ycg_131 : xe_look (xc 175) 131 = some (.iload 4, 2, 0, 0, 0) := by decide +kernel
theorem ycg_133 : xe_look (xc 175) 133 = some (.iadd, 1, 0, 0, 0) := by decide +kernel
theorem ycg_134 : xe_look (xc 175) 134 = some (.iload_n 3, 1, 0, 0, 0) := by decide +kernel
theorem ycg_135 : xe_look (xc 175) 135 = some (.isub, 1, 0, 0, 0) := by decide +kernel
theorem ycg_136 : xe_look (xc 175) 136 = some (.iaload, 1, 0, 0, 0) := by decide +kernel
theorem ycg_137 : xe_look (xc 175) 137 = some (.iastore, 1, 0, 0, 0) := by decide +kernel
theorem ycg_138 : xe_look (xc 175) 138 = some (.iinc 4 1, 3, 0, 0, 0) := by decide +kernel
theorem ycg_141 : xe_look (xc 175) 141 = some (.goto (-31), 3, 0, 0, 0) := by decide +kernel
theorem ycg_144 : xe_look (xc 175) 144 = some (.aload_n 0, 1, 0, 0, 0) := by decide +kernel
theorem ycg_145 : xe_look (xc 175) 145 = some (.iload_n 2, 1, 0, 0, 0) := by decide +kernel
theorem ycg_146 : xe_look (xc 175) 146 = some (.iload_n 3, 1, 0, 0, 0) := by decide +kernel
theorem ycg_147 : xe_look (xc 175) 147 = some (.iload_n 1, 1, 0, 0, 0) := by decide +kernel
theorem ycg_148 : xe_look (xc 175) 148 = some (.imul, 1, 0, 0, 0) := by decide +kernel
theorem ycg_149 : xe_look (xc 175) 149 = some (.iadd, 1, 0, 0, 0) := by decide +kernel
theorem ycg_150 : xe_look (xc 175) 150 = some (.putfield 262, 3, 12, 25, 1141) := by decide +kernel
theorem ycg_153 : xe_look (xc 175) 153 = some (.iconst 1, 1, 0, 0, 0) := by decide +kernel
theorem ycg_154 : xe_look (xc 175) 154 = some (.ireturn, 1, 0, 0, 0) := by decide +kernel
theorem ydi_0 : xe_look (xc 203) 0 = some (.aload_n 0, 1, 0, 0, 0) := by decide +kernel
theorem ydi_1 : xe_look (xc 203) 1 = some (.invokevirtual 252, 3, 0, 198, 1137) := by decide +kernel
theorem ydi_4 : xe_look (xc 203) 4 = some (.bipush 48, 2, 0, 0, 0) := by decide +kernel
theorem ydi_6 : xe_look (xc 203) 6 = some (.if_icmp .lt 16, 3, 0, 0, 0) := by decide +kernel
theorem ydi_9 : xe_look (xc 203) 9 = some (.aload_n 0, 1, 0, 0, 0) := by decide +kernel
theorem ydi_10 : xe_look (xc 203) 10 = some (.invokevirtual 252, 3, 0, 198, 1137) := by decide +kernel
theorem ydi_13 : xe_look (xc 203) 13 = some (.bipush 57, 2, 0, 0, 0) := by decide +kernel
theorem ydi_15 : xe_look (xc 203) 15 = some (.if_icmp .gt 7, 3, 0, 0, 0) := by decide +kernel
theorem ydi_18 : xe_look (xc 203) 18 = some (.iconst 1, 1, 0, 0, 0) := by decide +kernel
theorem ydi_19 : xe_look (xc 203) 19 = some (.goto 4, 3, 0, 0, 0) := by decide +kernel
theorem ydi_22 : xe_look (xc 203) 22 = some (.iconst 0, 1, 0, 0, 0) := by decide +kernel
theorem ydi_23 : xe_look (xc 203) 23 = some (.ireturn, 1, 0, 0, 0) := by decide +kernel
theorem yog_0 : xe_look (xc 230) 0 = some (.aload_n 0, 1, 0, 0, 0) := by decide +kernel
theorem yog_1 : xe_look (xc 230) 1 = some (.getfield 265, 3, 12, 26, 1139) := by decide +kernel
theorem yog_4 : xe_look (xc 230) 4 = some (.iconst 4, 1, 0, 0, 0) := by decide +kernel
theorem yog_5 : xe_look (xc 230) 5 = some (.if_icmp .ne 13, 3, 0, 0, 0) := by decide +kernel
theorem yog_8 : xe_look (xc 230) 8 = some (.aload_n 0, 1, 0, 0, 0) := by decide +kernel
theorem yog_9 : xe_look (xc 230) 9 = some (.iconst 5, 1, 0, 0, 0) := by decide +kernel
theorem yog_10 : xe_look (xc 230) 10 = some (.aload_n 0, 1, 0, 0, 0) := by decide +kernel
theorem yog_11 : xe_look (xc 230) 11 = some (.getfield 242, 3, 12, 18, 1135) := by decide +kernel
theorem yog_14 : xe_look (xc 230) 14 = some (.invokevirtual 256, 3, 0, 274, 1138) := by decide +kernel
theorem yog_17 : xe_look (xc 230) 17 = some (.ireturn, 1, 0, 0, 0) := by decide +kernel
theorem yog_18 : xe_look (xc 230) 18 = some (.aload_n 0, 1, 0, 0, 0) := by decide +kernel
theorem yog_19 : xe_look (xc 230) 19 = some (.getfield 62, 3, 12, 29, 1142) := by decide +kernel
theorem yog_22 : xe_look (xc 230) 22 = some (.aload_n 0, 1, 0, 0, 0) := by decide +kernel
theorem yog_23 : xe_look (xc 230) 23 = some (.getfield 265, 3, 12, 26, 1139) := by decide +kernel
theorem yog_26 : xe_look (xc 230) 26 = some (.aload_n 0, 1, 0, 0, 0) := by decide +kernel
theorem yog_27 : xe_look (xc 230) 27 = some (.getfield 242, 3, 12, 18, 1135) := by decide +kernel
theorem yog_30 : xe_look (xc 230) 30 = some (.iastore, 1, 0, 0, 0) := by decide +kernel
theorem yog_31 : xe_look (xc 230) 31 = some (.aload_n 0, 1, 0, 0, 0) := by decide +kernel
theorem yog_32 : xe_look (xc 230) 32 = some (.getfield 65, 3, 12, 30, 1140) := by decide +kernel
theorem yog_35 : xe_look (xc 230) 35 = some (.aload_n 0, 1, 0, 0, 0) := by decide +kernel
theorem yog_36 : xe_look (xc 230) 36 = some (.getfield 265, 3, 12, 26, 1139) := by decide +kernel
theorem yog_39 : xe_look (xc 230) 39 = some (.aload_n 0, 1, 0, 0, 0) := by decide +kernel
theorem yog_40 : xe_look (xc 230) 40 = some (.getfield 262, 3, 12, 25, 1141) := by decide +kernel
theorem yog_43 : xe_look (xc 230) 43 = some (.iastore, 1, 0, 0, 0) := by decide +kernel
theorem yog_44 : xe_look (xc 230) 44 = some (.aload_n 0, 1, 0, 0, 0) := by decide +kernel
theorem yog_45 : xe_look (xc 230) 45 = some (.aload_n 0, 1, 0, 0, 0) := by decide +kernel
theorem yog_46 : xe_look (xc 230) 46 = some (.getfield 265, 3, 12, 26, 1139) := by decide +kernel
theorem yog_49 : xe_look (xc 230) 49 = some (.iconst 1, 1, 0, 0, 0) := by decide +kernel
theorem yog_50 : xe_look (xc 230) 50 = some (.iadd, 1, 0, 0, 0) := by decide +kernel
theorem yog_51 : xe_look (xc 230) 51 = some (.putfield 265, 3, 12, 26, 1139) := by decide +kernel
theorem yog_54 : xe_look (xc 230) 54 = some (.aload_n 0, 1, 0, 0, 0) := by decide +kernel
theorem yog_55 : xe_look (xc 230) 55 = some (.aload_n 0, 1, 0, 0, 0) := by decide +kernel
theorem yog_56 : xe_look (xc 230) 56 = some (.getfield 242, 3, 12, 18, 1135) := by decide +kernel
theorem yog_59 : xe_look (xc 230) 59 = some (.iconst 1, 1, 0, 0, 0) := by decide +kernel
theorem yog_60 : xe_look (xc 230) 60 = some (.iadd, 1, 0, 0, 0) := by decide +kernel
theorem yog_61 : xe_look (xc 230) 61 = some (.putfield 242, 3, 12, 18, 1135) := by decide +kernel
theorem yog_64 : xe_look (xc 230) 64 = some (.iconst 1, 1, 0, 0, 0) := by decide +kernel
theorem yog_65 : xe_look (xc 230) 65 = some (.ireturn, 1, 0, 0, 0) := by decide +kernel
theorem yrr_0 : xe_look (xc 239) 0 = some (.aload_n 0, 1, 0, 0, 0) := by decide +kernel
theorem yrr_1 : xe_look (xc 239) 1 = some (.getfield 242, 3, 12, 18, 1135) := by decide +kernel
theorem yrr_4 : xe_look (xc 239) 4 = some (.istore_n 1, 1, 0, 0, 0) := by decide +kernel
theorem yrr_5 : xe_look (xc 239) 5 = some (.aload_n 0, 1, 0, 0, 0) := by decide +kernel
theorem yrr_6 : xe_look (xc 239) 6 = some (.invokevirtual 259, 3, 0, 240, 1268) := by decide +kernel
theorem yrr_9 : xe_look (xc 239) 9 = some (.ifCond .ne 5, 3, 0, 0, 0) := by decide +kernel
theorem yrr_12 : xe_look (xc 239) 12 = some (.iconst 0, 1, 0, 0, 0) := by decide +kernel
theorem yrr_13 : xe_look (xc 239) 13 = some (.ireturn, 1, 0, 0, 0) := by decide +kernel
theorem yrr_14 : xe_look (xc 239) 14 = some (.aload_n 0, 1, 0, 0, 0) := by decide +kernel
theorem yrr_15 : xe_look (xc 239) 15 = some (.getfield 245, 3, 12, 21, 1263) := by decide +kernel
theorem yrr_18 : xe_look (xc 239) 18 = some (.istore_n 2, 1, 0, 0, 0) := by decide +kernel
theorem yrr_19 : xe_look (xc 239) 19 = some (.aload_n 0, 1, 0, 0, 0) := by decide +kernel
theorem yrr_20 : xe_look (xc 239) 20 = some (.invokevirtual 252, 3, 0, 198, 1137) := by decide +kernel
theorem yrr_23 : xe_look (xc 239) 23 = some (.bipush 45, 2, 0, 0, 0) := by decide +kernel
theorem yrr_25 : xe_look (xc 239) 25 = some (.if_icmp .ne 22, 3, 0, 0, 0) := by decide +kernel
theorem yrr_28 : xe_look (xc 239) 28 = some (.aload_n 0, 1, 0, 0, 0) := by decide +kernel
theorem yrr_29 : xe_look (xc 239) 29 = some (.aload_n 0, 1, 0, 0, 0) := by decide +kernel
theorem yrr_30 : xe_look (xc 239) 30 = some (.getfield 242, 3, 12, 18, 1135) := by decide +kernel
theorem yrr_33 : xe_look (xc 239) 33 = some (.iconst 1, 1, 0, 0, 0) := by decide +kernel
theorem yrr_34 : xe_look (xc 239) 34 = some (.iadd, 1, 0, 0, 0) := by decide +kernel
theorem yrr_35 : xe_look (xc 239) 35 = some (.putfield 242, 3, 12, 18, 1135) := by decide +kernel
theorem yrr_38 : xe_look (xc 239) 38 = some (.aload_n 0, 1, 0, 0, 0) := by decide +kernel
theorem yrr_39 : xe_look (xc 239) 39 = some (.invokevirtual 259, 3, 0, 240, 1268) := by decide +kernel
theorem yrr_42 : xe_look (xc 239) 42 = some (.ifCond .ne 5, 3, 0, 0, 0) := by decide +kernel
theorem yrr_45 : xe_look (xc 239) 45 = some (.iconst 0, 1, 0, 0, 0) := by decide +kernel
theorem yrr_46 : xe_look (xc 239) 46 = some (.ireturn, 1, 0, 0, 0) := by decide +kernel
theorem yrr_47 : xe_look (xc 239) 47 = some (.aload_n 0, 1, 0, 0, 0) := by decide +kernel
theorem yrr_48 : xe_look (xc 239) 48 = some (.getfield 245, 3, 12, 21, 1263) := by decide +kernel
theorem yrr_51 : xe_look (xc 239) 51 = some (.iload_n 2, 1, 0, 0, 0) := by decide +kernel
theorem yrr_52 : xe_look (xc 239) 52 = some (.if_icmp .ge 7, 3, 0, 0, 0) := by decide +kernel
theorem yrr_55 : xe_look (xc 239) 55 = some (.iconst (-1), 1, 0, 0, 0) := by decide +kernel
theorem yrr_56 : xe_look (xc 239) 56 = some (.goto 4, 3, 0, 0, 0) := by decide +kernel
theorem yrr_59 : xe_look (xc 239) 59 = some (.iconst 1, 1, 0, 0, 0) := by decide +kernel
theorem yrr_60 : xe_look (xc 239) 60 = some (.istore_n 3, 1, 0, 0, 0) := by decide +kernel
theorem yrr_61 : xe_look (xc 239) 61 = some (.aload_n 0, 1, 0, 0, 0) := by decide +kernel
theorem yrr_62 : xe_look (xc 239) 62 = some (.getfield 245, 3, 12, 21, 1263) := by decide +kernel
theorem yrr_65 : xe_look (xc 239) 65 = some (.iload_n 2, 1, 0, 0, 0) := by decide +kernel
theorem yrr_66 : xe_look (xc 239) 66 = some (.isub, 1, 0, 0, 0) := by decide +kernel
theorem yrr_67 : xe_look (xc 239) 67 = some (.iload_n 3, 1, 0, 0, 0) := by decide +kernel
theorem yrr_68 : xe_look (xc 239) 68 = some (.imul, 1, 0, 0, 0) := by decide +kernel
theorem yrr_69 : xe_look (xc 239) 69 = some (.iconst 1, 1, 0, 0, 0) := by decide +kernel
theorem yrr_70 : xe_look (xc 239) 70 = some (.iadd, 1, 0, 0, 0) := by decide +kernel
theorem yrr_71 : xe_look (xc 239) 71 = some (.istore 4, 2, 0, 0, 0) := by decide +kernel
theorem yrr_73 : xe_look (xc 239) 73 = some (.aload_n 0, 1, 0, 0, 0) := by decide +kernel
theorem yrr_74 : xe_look (xc 239) 74 = some (.getfield 262, 3, 12, 25, 1141) := by decide +kernel
theorem yrr_77 : xe_look (xc 239) 77 = some (.iload 4, 2, 0, 0, 0) := by decide +kernel
theorem yrr_79 : xe_look (xc 239) 79 = some (.iadd, 1, 0, 0, 0) := by decide +kernel
theorem yrr_80 : xe_look (xc 239) 80 = some (.bipush 60, 2, 0, 0, 0) := by decide +kernel
theorem yrr_82 : xe_look (xc 239) 82 = some (.if_icmp .le 11, 3, 0, 0, 0) := by decide +kernel
theorem yrr_85 : xe_look (xc 239) 85 = some (.aload_n 0, 1, 0, 0, 0) := by decide +kernel
theorem yrr_86 : xe_look (xc 239) 86 = some (.bipush 6, 2, 0, 0, 0) := by decide +kernel
theorem yrr_88 : xe_look (xc 239) 88 = some (.iload_n 1, 1, 0, 0, 0) := by decide +kernel
theorem yrr_89 : xe_look (xc 239) 89 = some (.invokevirtual 256, 3, 0, 274, 1138) := by decide +kernel
theorem yrr_92 : xe_look (xc 239) 92 = some (.ireturn, 1, 0, 0, 0) := by decide +kernel
theorem yrr_93 : xe_look (xc 239) 93 = some (.iconst 0, 1, 0, 0, 0) := by decide +kernel
theorem yrr_94 : xe_look (xc 239) 94 = some (.istore 5, 2, 0, 0, 0) := by decide +kernel
theorem yrr_96 : xe_look (xc 239) 96 = some (.iload 5, 2, 0, 0, 0) := by decide +kernel
theorem yrr_98 : xe_look (xc 239) 98 = some (.iload 4, 2, 0, 0, 0) := by decide +kernel
theorem yrr_100 : xe_look (xc 239) 100 = some (.if_icmp .ge 27, 3, 0, 0, 0) := by decide +kernel
theorem yrr_103 : xe_look (xc 239) 103 = some (.aload_n 0, 1, 0, 0, 0) := by decide +kernel
theorem yrr_104 : xe_look (xc 239) 104 = some (.getfield 59, 3, 12, 28, 1143) := by decide +kernel
theorem yrr_107 : xe_look (xc 239) 107 = some (.aload_n 0, 1, 0, 0, 0) := by decide +kernel
theorem yrr_108 : xe_look (xc 239) 108 = some (.getfield 262, 3, 12, 25, 1141) := by decide +kernel
theorem yrr_111 : xe_look (xc 239) 111 = some (.iload 5, 2, 0, 0, 0) := by decide +kernel
theorem yrr_113 : xe_look (xc 239) 113 = some (.iadd, 1, 0, 0, 0) := by decide +kernel
theorem yrr_114 : xe_look (xc 239) 114 = some (.iload_n 2, 1, 0, 0, 0) := by decide +kernel
theorem yrr_115 : xe_look (xc 239) 115 = some (.iload_n 3, 1, 0, 0, 0) := by decide +kernel
theorem yrr_116 : xe_look (xc 239) 116 = some (.iload 5, 2, 0, 0, 0) := by decide +kernel
theorem yrr_118 : xe_look (xc 239) 118 = some (.imul, 1, 0, 0, 0) := by decide +kernel
theorem yrr_119 : xe_look (xc 239) 119 = some (.iadd, 1, 0, 0, 0) := by decide +kernel
theorem yrr_120 : xe_look (xc 239) 120 = some (.iastore, 1, 0, 0, 0) := by decide +kernel
theorem yrr_121 : xe_look (xc 239) 121 = some (.iinc 5 1, 3, 0, 0, 0) := by decide +kernel
theorem yrr_124 : xe_look (xc 239) 124 = some (.goto (-28), 3, 0, 0, 0) := by decide +kernel
theorem yrr_127 : xe_look (xc 239) 127 = some (.aload_n 0, 1, 0, 0, 0) := by decide +kernel
theorem yrr_128 : xe_look (xc 239) 128 = some (.aload_n 0, 1, 0, 0, 0) := by decide +kernel
theorem yrr_129 : xe_look (xc 239) 129 = some (.getfield 262, 3, 12, 25, 1141) := by decide +kernel
theorem yrr_132 : xe_look (xc 239) 132 = some (.iload 4, 2, 0, 0, 0) := by decide +kernel
theorem yrr_134 : xe_look (xc 239) 134 = some (.iadd, 1, 0, 0, 0) := by decide +kernel
theorem yrr_135 : xe_look (xc 239) 135 = some (.putfield 262, 3, 12, 25, 1141) := by decide +kernel
theorem yrr_138 : xe_look (xc 239) 138 = some (.iconst 1, 1, 0, 0, 0) := by decide +kernel
theorem yrr_139 : xe_look (xc 239) 139 = some (.ireturn, 1, 0, 0, 0) := by decide +kernel
theorem yrs_0 : xe_look (xc 240) 0 = some (.aload_n 0, 1, 0, 0, 0) := by decide +kernel
theorem yrs_1 : xe_look (xc 240) 1 = some (.getfield 242, 3, 12, 18, 1135) := by decide +kernel
theorem yrs_4 : xe_look (xc 240) 4 = some (.istore_n 1, 1, 0, 0, 0) := by decide +kernel
theorem yrs_5 : xe_look (xc 240) 5 = some (.aload_n 0, 1, 0, 0, 0) := by decide +kernel
theorem yrs_6 : xe_look (xc 240) 6 = some (.iconst 0, 1, 0, 0, 0) := by decide +kernel
theorem yrs_7 : xe_look (xc 240) 7 = some (.putfield 245, 3, 12, 21, 1263) := by decide +kernel
theorem yrs_10 : xe_look (xc 240) 10 = some (.aload_n 0, 1, 0, 0, 0) := by decide +kernel
theorem yrs_11 : xe_look (xc 240) 11 = some (.invokevirtual 248, 3, 0, 203, 1136) := by decide +kernel
theorem yrs_14 : xe_look (xc 240) 14 = some (.ifCond .eq 45, 3, 0, 0, 0) := by decide +kernel
theorem yrs_17 : xe_look (xc 240) 17 = some (.aload_n 0, 1, 0, 0, 0) := by decide +kernel
theorem yrs_18 : xe_look (xc 240) 18 = some (.getfield 242, 3, 12, 18, 1135) := by decide +kernel
theorem yrs_21 : xe_look (xc 240) 21 = some (.iload_n 1, 1, 0, 0, 0) := by decide +kernel
theorem yrs_22 : xe_look (xc 240) 22 = some (.iconst 2, 1, 0, 0, 0) := by decide +kernel
theorem yrs_23 : xe_look (xc 240) 23 = some (.iadd, 1, 0, 0, 0) := by decide +kernel
theorem yrs_24 : xe_look (xc 240) 24 = some (.if_icmp .ge 35, 3, 0, 0, 0) := by decide +kernel
theorem yrs_27 : xe_look (xc 240) 27 = some (.aload_n 0, 1, 0, 0, 0) := by decide +kernel
theorem yrs_28 : xe_look (xc 240) 28 = some (.bipush 10, 2, 0, 0, 0) := by decide +kernel
theorem yrs_30 : xe_look (xc 240) 30 = some (.aload_n 0, 1, 0, 0, 0) := by decide +kernel
theorem yrs_31 : xe_look (xc 240) 31 = some (.getfield 245, 3, 12, 21, 1263) := by decide +kernel
theorem yrs_34 : xe_look (xc 240) 34 = some (.imul, 1, 0, 0, 0) := by decide +kernel
theorem yrs_35 : xe_look (xc 240) 35 = some (.aload_n 0, 1, 0, 0, 0) := by decide +kernel
theorem yrs_36 : xe_look (xc 240) 36 = some (.invokevirtual 252, 3, 0, 198, 1137) := by decide +kernel
theorem yrs_39 : xe_look (xc 240) 39 = some (.iadd, 1, 0, 0, 0) := by decide +kernel
theorem yrs_40 : xe_look (xc 240) 40 = some (.bipush 48, 2, 0, 0, 0) := by decide +kernel
theorem yrs_42 : xe_look (xc 240) 42 = some (.isub, 1, 0, 0, 0) := by decide +kernel
theorem yrs_43 : xe_look (xc 240) 43 = some (.putfield 245, 3, 12, 21, 1263) := by decide +kernel
theorem yrs_46 : xe_look (xc 240) 46 = some (.aload_n 0, 1, 0, 0, 0) := by decide +kernel
theorem yrs_47 : xe_look (xc 240) 47 = some (.aload_n 0, 1, 0, 0, 0) := by decide +kernel
theorem yrs_48 : xe_look (xc 240) 48 = some (.getfield 242, 3, 12, 18, 1135) := by decide +kernel
theorem yrs_51 : xe_look (xc 240) 51 = some (.iconst 1, 1, 0, 0, 0) := by decide +kernel
theorem yrs_52 : xe_look (xc 240) 52 = some (.iadd, 1, 0, 0, 0) := by decide +kernel
theorem yrs_53 : xe_look (xc 240) 53 = some (.putfield 242, 3, 12, 18, 1135) := by decide +kernel
theorem yrs_56 : xe_look (xc 240) 56 = some (.goto (-46), 3, 0, 0, 0) := by decide +kernel
theorem yrs_59 : xe_look (xc 240) 59 = some (.aload_n 0, 1, 0, 0, 0) := by decide +kernel
theorem yrs_60 : xe_look (xc 240) 60 = some (.getfield 242, 3, 12, 18, 1135) := by decide +kernel
theorem yrs_63 : xe_look (xc 240) 63 = some (.iload_n 1, 1, 0, 0, 0) := by decide +kernel
theorem yrs_64 : xe_look (xc 240) 64 = some (.if_icmp .ne 13, 3, 0, 0, 0) := by decide +kernel
theorem yrs_67 : xe_look (xc 240) 67 = some (.aload_n 0, 1, 0, 0, 0) := by decide +kernel
theorem yrs_68 : xe_look (xc 240) 68 = some (.iconst 1, 1, 0, 0, 0) := by decide +kernel
theorem yrs_69 : xe_look (xc 240) 69 = some (.aload_n 0, 1, 0, 0, 0) := by decide +kernel
theorem yrs_70 : xe_look (xc 240) 70 = some (.getfield 242, 3, 12, 18, 1135) := by decide +kernel
theorem yrs_73 : xe_look (xc 240) 73 = some (.invokevirtual 256, 3, 0, 274, 1138) := by decide +kernel
theorem yrs_76 : xe_look (xc 240) 76 = some (.ireturn, 1, 0, 0, 0) := by decide +kernel
theorem yrs_77 : xe_look (xc 240) 77 = some (.aload_n 0, 1, 0, 0, 0) := by decide +kernel
theorem yrs_78 : xe_look (xc 240) 78 = some (.getfield 245, 3, 12, 21, 1263) := by decide +kernel
theorem yrs_81 : xe_look (xc 240) 81 = some (.bipush 32, 2, 0, 0, 0) := by decide +kernel
theorem yrs_83 : xe_look (xc 240) 83 = some (.if_icmp .lt 12, 3, 0, 0, 0) := by decide +kernel
theorem yrs_86 : xe_look (xc 240) 86 = some (.aload_n 0, 1, 0, 0, 0) := by decide +kernel
theorem yrs_87 : xe_look (xc 240) 87 = some (.iconst 3, 1, 0, 0, 0) := by decide +kernel
theorem yrs_88 : xe_look (xc 240) 88 = some (.iload_n 1, 1, 0, 0, 0) := by decide +kernel
theorem yrs_89 : xe_look (xc 240) 89 = some (.invokevirtual 256, 3, 0, 274, 1138) := by decide +kernel
theorem yrs_92 : xe_look (xc 240) 92 = some (.ifCond .eq 7, 3, 0, 0, 0) := by decide +kernel
theorem yrs_95 : xe_look (xc 240) 95 = some (.iconst 1, 1, 0, 0, 0) := by decide +kernel
theorem yrs_96 : xe_look (xc 240) 96 = some (.goto 4, 3, 0, 0, 0) := by decide +kernel
theorem yrs_99 : xe_look (xc 240) 99 = some (.iconst 0, 1, 0, 0, 0) := by decide +kernel
theorem yrs_100 : xe_look (xc 240) 100 = some (.ireturn, 1, 0, 0, 0) := by decide +kernel
theorem ytk_0 : xe_look (xc 260) 0 = some (.aload_n 0, 1, 0, 0, 0) := by decide +kernel
theorem ytk_1 : xe_look (xc 260) 1 = some (.invokevirtual 252, 3, 0, 198, 1137) := by decide +kernel
theorem ytk_4 : xe_look (xc 260) 4 = some (.iload_n 1, 1, 0, 0, 0) := by decide +kernel
theorem ytk_5 : xe_look (xc 260) 5 = some (.if_icmp .eq 13, 3, 0, 0, 0) := by decide +kernel
theorem ytk_8 : xe_look (xc 260) 8 = some (.aload_n 0, 1, 0, 0, 0) := by decide +kernel
theorem ytk_9 : xe_look (xc 260) 9 = some (.iconst 1, 1, 0, 0, 0) := by decide +kernel
theorem ytk_10 : xe_look (xc 260) 10 = some (.aload_n 0, 1, 0, 0, 0) := by decide +kernel
theorem ytk_11 : xe_look (xc 260) 11 = some (.getfield 242, 3, 12, 18, 1135) := by decide +kernel
theorem ytk_14 : xe_look (xc 260) 14 = some (.invokevirtual 256, 3, 0, 274, 1138) := by decide +kernel
theorem ytk_17 : xe_look (xc 260) 17 = some (.ireturn, 1, 0, 0, 0) := by decide +kernel
theorem ytk_18 : xe_look (xc 260) 18 = some (.aload_n 0, 1, 0, 0, 0) := by decide +kernel
theorem ytk_19 : xe_look (xc 260) 19 = some (.aload_n 0, 1, 0, 0, 0) := by decide +kernel
theorem ytk_20 : xe_look (xc 260) 20 = some (.getfield 242, 3, 12, 18, 1135) := by decide +kernel
theorem ytk_23 : xe_look (xc 260) 23 = some (.iconst 1, 1, 0, 0, 0) := by decide +kernel
theorem ytk_24 : xe_look (xc 260) 24 = some (.iadd, 1, 0, 0, 0) := by decide +kernel
theorem ytk_25 : xe_look (xc 260) 25 = some (.putfield 242, 3, 12, 18, 1135) := by decide +kernel
theorem ytk_28 : xe_look (xc 260) 28 = some (.iconst 1, 1, 0, 0, 0) := by decide +kernel
theorem ytk_29 : xe_look (xc 260) 29 = some (.ireturn, 1, 0, 0, 0) := by decide +kernel
theorem ywr_0 : xe_look (xc 274) 0 = some (.aload_n 0, 1, 0, 0, 0) := by decide +kernel
theorem ywr_1 : xe_look (xc 274) 1 = some (.sipush (-1000), 3, 0, 0, 0) := by decide +kernel
theorem ywr_4 : xe_look (xc 274) 4 = some (.iload_n 1, 1, 0, 0, 0) := by decide +kernel
theorem ywr_5 : xe_look (xc 274) 5 = some (.imul, 1, 0, 0, 0) := by decide +kernel
theorem ywr_6 : xe_look (xc 274) 6 = some (.iload_n 2, 1, 0, 0, 0) := by decide +kernel
theorem ywr_7 : xe_look (xc 274) 7 = some (.isub, 1, 0, 0, 0) := by decide +kernel
theorem ywr_8 : xe_look (xc 274) 8 = some (.putfield 286, 3, 12, 20, 1233) := by decide +kernel
theorem ywr_11 : xe_look (xc 274) 11 = some (.iconst 0, 1, 0, 0, 0) := by decide +kernel
theorem ywr_12 : xe_look (xc 274) 12 = some (.ireturn, 1, 0, 0, 0) := by decide +kernel
def nWr : Nat := 2 ^ (cn 196 + 18) + 2 ^ (cn 196 + 25) + 2 ^ (cn 196 + 26) + 2 ^ (cn 196 + 20) + 2 ^ (cn 196 + 21) + 2 ^ cn 213 + 2 ^ cn 214 + 2 ^ cn 215
def nqk : List (Nat × Nat) := [(196, 18), (196, 25), (196, 26), (196, 20), (196, 21)]
def nqa : List Nat := [213, 214, 215]
/-- place, how many, groups, fault, number; the row, where groups began, how many ahead of them -/
abbrev nS (g0 g : pH) (p m s ft u : Int) (c gf ga : tC) : Prop := sE nqk nqa nWr g0 g [p, m, s, ft, u] [c, gf, ga]
def nB (g0 : pH) (B : tC) (n : Int) : Prop := cF g0 196 19 = n ∧ tpR B (fA g0 211) ∧ 0 ≤ n ∧ n ≤ 120
theorem eo_196 : eL[196]? = some (0, 12) := by decide +kernel
theorem gu_213 : eG (cn 213) = ((-2147483648), 2147483647, []) := by decide +kernel
theorem gu_214 : eG (cn 214) = ((-2147483648), 2147483647, []) := by decide +kernel
theorem gu_215 : eG (cn 215) = ((-2147483648), 2147483647, []) := by decide +kernel
theorem gy_196_18 : eG (cn 196 + 18) = ((-2147483648), 2147483647, []) := by decide +kernel
theorem gy_196_20 : eG (cn 196 + 20) = ((-2147483648), 2147483647, []) := by decide +kernel
theorem gy_196_21 : eG (cn 196 + 21) = ((-2147483648), 2147483647, []) := by decide +kernel
theorem gy_196_25 : eG (cn 196 + 25) = ((-2147483648), 2147483647, []) := by decide +kernel
theorem gy_196_26 : eG (cn 196 + 26) = ((-2147483648), 2147483647, []) := by decide +kernel
theorem wn_nWr_196_19 : nWr.testBit (cn 196 + 19) = false := by decide +kernel
theorem wm_nWr_211 : nWr.testBit (cn 211) = false := by decide +kernel
theorem ch_196_28 : (eG (cn 196 + 28)).2.2 = [214] := by decide +kernel
theorem cq_196_28 {d i : Nat} {lv : List (Nat × pv)} {r : List pv} {g : pH} (hG : g_I eG g) : px_push eL d none (.getfield i) 12 28 lv (pvR 196 :: r) g = some (pvR 213 :: r) := pget eo_196 (gI_r (r := 213) hG eo_196 (Nat.le_of_ble_eq_true rfl) (y := 28) rfl ch_196_28)
theorem ch_196_29 : (eG (cn 196 + 29)).2.2 = [215] := by decide +kernel
theorem cq_196_29 {d i : Nat} {lv : List (Nat × pv)} {r : List pv} {g : pH} (hG : g_I eG g) : px_push eL d none (.getfield i) 12 29 lv (pvR 196 :: r) g = some (pvR 214 :: r) := pget eo_196 (gI_r (r := 214) hG eo_196 (Nat.le_of_ble_eq_true rfl) (y := 29) rfl ch_196_29)
theorem ch_196_30 : (eG (cn 196 + 30)).2.2 = [216] := by decide +kernel
theorem cq_196_30 {d i : Nat} {lv : List (Nat × pv)} {r : List pv} {g : pH} (hG : g_I eG g) : px_push eL d none (.getfield i) 12 30 lv (pvR 196 :: r) g = some (pvR 215 :: r) := pget eo_196 (gI_r (r := 215) hG eo_196 (Nat.le_of_ble_eq_true rfl) (y := 30) rfl ch_196_30)
theorem ez_213 : eL[213]? = some (1, 60) := by decide +kernel
theorem ez_214 : eL[214]? = some (1, 4) := by decide +kernel
theorem ez_215 : eL[215]? = some (1, 4) := by decide +kernel
theorem wt_nWr_196_18 : nWr.testBit (cn 196 + 18) = true := by decide +kernel
theorem wt_nWr_196_20 : nWr.testBit (cn 196 + 20) = true := by decide +kernel
theorem wt_nWr_196_21 : nWr.testBit (cn 196 + 21) = true := by decide +kernel
theorem wt_nWr_196_25 : nWr.testBit (cn 196 + 25) = true := by decide +kernel
theorem wt_nWr_196_26 : nWr.testBit (cn 196 + 26) = true := by decide +kernel
theorem wu_nWr_213 : nWr.testBit (cn 213) = true := by decide +kernel
theorem wu_nWr_214 : nWr.testBit (cn 214) = true := by decide +kernel
theorem wu_nWr_215 : nWr.testBit (cn 215) = true := by decide +kernel
theorem ne_l {g0 g : pH} {B : tC} {n p m s ft u : Int} {c gf ga : tC} (hB : nB g0 B n) (h : nS g0 g p m s ft u c gf ga) : cF g 196 19 = n := (cF_M (S_J h).2 wn_nWr_196_19).trans hB.1
theorem an_m (x : Int) : (Int32.ofInt x &&& Int32.ofInt 255).toInt = x % 256 := by
  have e : (Int32.ofInt x &&& Int32.ofInt 255).toBitVec = BitVec.ofInt 32 x &&& 255#32 := rfl
  have h1 : (BitVec.ofInt 32 x &&& 255#32).toNat = (BitVec.ofInt 32 x).toNat % 256 := by
    rw [BitVec.toNat_and]
    exact Nat.and_two_pow_sub_one_eq_mod (n := 8) _
  have h2 : (Int32.ofInt x &&& Int32.ofInt 255).toInt = ((BitVec.ofInt 32 x &&& 255#32).toNat : Int) := by
    show (Int32.ofInt x &&& Int32.ofInt 255).toBitVec.toInt = _
    rw [e, BitVec.toInt_eq_toNat_of_lt (by rw [h1]; omega)]
  rw [h2, h1, BitVec.toNat_ofInt]
  omega
theorem hV_t {g : pH} {B : tC} {n p : Int} (h1 : fF g 18 = p) (h2 : fF g 19 = n) (h3 : tpR B (fA g 211)) (hn : n ≤ 260) (hp : 0 ≤ p) : hV g = tH B n p := by
  unfold hV tH
  rw [h1, h2]
  by_cases q : p < n
  · rw [if_pos q, if_pos q, an_m]
    exact (h3 p.toNat (by omega)).1.symm
  · rw [if_neg q, if_neg q]
theorem tp_b {B f : tC} (h : tpR B f) : ∀ j, j < 260 → 0 ≤ B j ∧ B j ≤ 255 := fun j hj => by
  have := (h j hj).1
  omega
theorem nh_run {d : Nat} {g0 g : pH} {B : tC} {n : Int} (hB : nB g0 B n) {p m s ft u : Int} {c gf ga : tC} (hS : nS g0 g p m s ft u c gf ga) (hp : 0 ≤ p) {P : Option pv × pH → Prop} (hP : P (some (oI (tH B n p)), g)) {lv : List (Nat × pv)} (l0 : px_lg lv 0 = some (pvR 196)) : t_X d 198 0 lv [] g P := by
  have e1 : fF g 18 = p := S_f hS 0 (Nat.le_of_ble_eq_true rfl)
  have e2 : fF g 19 = n := ne_l hB hS
  refine he_run (S_J hS).1 (by omega) (by have := hB.2.2.2; omega) ?_ l0
  rw [hV_t e1 e2 (by rw [fA_M (S_J hS).2 wm_nWr_211]; exact hB.2.1) (by have := hB.2.2.2; omega) hp]
  exact hP
theorem nd_run {d : Nat} (hd : 1 ≤ d) {g0 g : pH} {B : tC} {n : Int} (hB : nB g0 B n) {p m s ft u : Int} {c gf ga : tC} (hS : nS g0 g p m s ft u c gf ga) (hp : 0 ≤ p) {P : Option pv × pH → Prop} (h1 : tDg (tH B n p) → P (some (oI 1), g)) (h2 : ¬ tDg (tH B n p) → P (some (oI 0), g)) {lv : List (Nat × pv)} (l0 : px_lg lv 0 = some (pvR 196)) : t_X d 203 0 lv [] g P := by
  have hn0 := hB.2.2.1
  have hn1 := hB.2.2.2
  have hH : ∀ q, 0 ≤ q → -1 ≤ tH B n q ∧ tH B n q ≤ 255 := fun q hq => tH_b (tp_b hB.2.1) (by omega) hq
  refine t_0 ydi_0 rfl (ld_a l0) ?_
  refine t_3 ydi_1 rfl (ar := ([pvR 196], [])) (pcal_w (as := []) rfl rfl rfl eo_196) ⟨by omega, Nat.le_of_ble_eq_true rfl, Nat.le_of_ble_eq_true rfl, rfl⟩ ?_
  refine nh_run hB hS (by omega) ?_ rfl
  have b1 := hH p (by omega)
  have z1 := tH_n (B := B) (n := n) (p := p)
  show t_X d 203 4 lv [oI (tH B n p)] g P
  refine t_0 ydi_4 rfl (pq_b (by decide)) ?_
  refine tb_lt ydi_6 (by decide) ⟨by omega, by omega⟩ ⟨by omega, by omega⟩ (fun c2 => ?_) (fun c2 => ?_)
  · show t_X d 203 22 lv [] g P
    refine t_0 ydi_22 rfl rfl ?_
    refine t_5 ydi_23 rfl rfl ?_
    exact h2 (fun z => by unfold tDg at z; omega)
  · show t_X d 203 9 lv [] g P
    refine t_0 ydi_9 rfl (ld_a l0) ?_
    refine t_3 ydi_10 rfl (ar := ([pvR 196], [])) (pcal_w (as := []) rfl rfl rfl eo_196) ⟨by omega, Nat.le_of_ble_eq_true rfl, Nat.le_of_ble_eq_true rfl, rfl⟩ ?_
    refine nh_run hB hS (by omega) ?_ rfl
    show t_X d 203 13 lv [oI (tH B n p)] g P
    refine t_0 ydi_13 rfl (pq_b (by decide)) ?_
    refine tb_gt ydi_15 (by decide) ⟨by omega, by omega⟩ ⟨by omega, by omega⟩ (fun c3 => ?_) (fun c3 => ?_)
    · show t_X d 203 22 lv [] g P
      refine t_0 ydi_22 rfl rfl ?_
      refine t_5 ydi_23 rfl rfl ?_
      exact h2 (fun z => by unfold tDg at z; omega)
    · show t_X d 203 18 lv [] g P
      refine t_0 ydi_18 rfl rfl ?_
      refine t_1 ydi_19 rfl (pb_goto (pc := 19) (by decide)) ?_
      show t_X d 203 23 lv [oI 1] g P
      refine t_5 ydi_23 rfl rfl ?_
      exact h1 ⟨by omega, by omega⟩
theorem nw_run {d : Nat} {g0 g : pH} {B : tC} {n : Int} (hB : nB g0 B n) {p m s ft u : Int} {c gf ga : tC} (hS : nS g0 g p m s ft u c gf ga) {a b : Int} (ha : 1 ≤ a ∧ a ≤ 6) (hb : 0 ≤ b ∧ b ≤ 1000) {P : Option pv × pH → Prop} (hP : ∀ g1 : pH, nS g0 g1 p m s (-1000 * a - b) u c gf ga → P (some (oI 0), g1)) {lv : List (Nat × pv)} (l0 : px_lg lv 0 = some (pvR 196)) (l1 : px_lg lv 1 = some (oI a)) (l2 : px_lg lv 2 = some (oI b)) : t_X d 274 0 lv [] g P := by
  have hn0 := hB.2.2.1
  have hn1 := hB.2.2.2
  have hH : ∀ q, 0 ≤ q → -1 ≤ tH B n q ∧ tH B n q ≤ 255 := fun q hq => tH_b (tp_b hB.2.1) (by omega) hq
  refine t_0 ywr_0 rfl (ld_a l0) ?_
  refine t_0 ywr_1 rfl (pq_s (by decide)) ?_
  refine t_0 ywr_4 rfl (ld_i l1) ?_
  refine t_0 ywr_5 rfl pq_mul ?_
  refine t_0 ywr_6 rfl (ld_i l2) ?_
  refine t_0 ywr_7 rfl pq_sub ?_
  refine ts_f (n := 3) rfl rfl (by decide) ywr_8 rfl eo_196 hS wt_nWr_196_20 gy_196_20 (by decide) ⟨by omega, by omega⟩ (fun g1 hS1 => ?_)
  replace hS1 : nS g0 g1 p m s ((-1000 * a) - b) u c gf ga := hS1
  show t_X d 274 11 lv [] g1 P
  refine t_0 ywr_11 rfl rfl ?_
  refine t_5 ywr_12 rfl rfl ?_
  exact hP _ hS1
theorem ntx_run {d : Nat} (hd : 1 ≤ d) {g0 g : pH} {B : tC} {n : Int} (hB : nB g0 B n) {p m s ft u : Int} {c gf ga : tC} (hS : nS g0 g p m s ft u c gf ga) (hp : 0 ≤ p ∧ p ≤ n) {a : Int} (ha : 0 ≤ a ∧ a ≤ 255) {P : Option pv × pH → Prop} (h1 : tH B n p = a → ∀ g1 : pH, nS g0 g1 (p + 1) m s ft u c gf ga → P (some (oI 1), g1)) (h2 : tH B n p ≠ a → ∀ g1 : pH, nS g0 g1 p m s (-1000 - p) u c gf ga → P (some (oI 0), g1)) {lv : List (Nat × pv)} (l0 : px_lg lv 0 = some (pvR 196)) (l1 : px_lg lv 1 = some (oI a)) : t_X d 260 0 lv [] g P := by
  have hn0 := hB.2.2.1
  have hn1 := hB.2.2.2
  have hH : ∀ q, 0 ≤ q → -1 ≤ tH B n q ∧ tH B n q ≤ 255 := fun q hq => tH_b (tp_b hB.2.1) (by omega) hq
  refine t_0 ytk_0 rfl (ld_a l0) ?_
  refine t_3 ytk_1 rfl (ar := ([pvR 196], [])) (pcal_w (as := []) rfl rfl rfl eo_196) ⟨by omega, Nat.le_of_ble_eq_true rfl, Nat.le_of_ble_eq_true rfl, rfl⟩ ?_
  refine nh_run hB hS (by omega) ?_ rfl
  have b1 := hH p (by omega)
  have z1 := tH_n (B := B) (n := n) (p := p)
  show t_X d 260 4 lv [oI (tH B n p)] g P
  refine t_0 ytk_4 rfl (ld_i l1) ?_
  refine tb_eq ytk_5 (by decide) ⟨by omega, by omega⟩ ⟨by omega, by omega⟩ (fun c2 => ?_) (fun c2 => ?_)
  · show t_X d 260 18 lv [] g P
    refine t_0 ytk_18 rfl (ld_a l0) ?_
    refine t_0 ytk_19 rfl (ld_a l0) ?_
    refine t_0 ytk_20 rfl (pq_cv eo_196 rfl (show cF g 196 18 = p from S_f hS 0 (Nat.le_of_ble_eq_true rfl))) ?_
    show t_X d 260 23 lv [oI (p), pvR 196] g P
    refine t_0 ytk_23 rfl rfl ?_
    refine t_0 ytk_24 rfl pq_add ?_
    refine ts_f (n := 0) rfl rfl (by decide) ytk_25 rfl eo_196 hS wt_nWr_196_18 gy_196_18 (by decide) ⟨by omega, by omega⟩ (fun g3 hS3 => ?_)
    replace hS3 : nS g0 g3 (p + 1) m s ft u c gf ga := hS3
    show t_X d 260 28 lv [] g3 P
    refine t_0 ytk_28 rfl rfl ?_
    refine t_5 ytk_29 rfl rfl ?_
    exact h1 (by omega) _ hS3
  · show t_X d 260 8 lv [] g P
    refine t_0 ytk_8 rfl (ld_a l0) ?_
    refine t_0 ytk_9 rfl rfl ?_
    refine t_0 ytk_10 rfl (ld_a l0) ?_
    refine t_0 ytk_11 rfl (pq_cv eo_196 rfl (show cF g 196 18 = p from S_f hS 0 (Nat.le_of_ble_eq_true rfl))) ?_
    show t_X d 260 14 lv [oI (p), oI 1, pvR 196] g P
    refine t_3 ytk_14 rfl (ar := ([pvR 196, oI 1, oI (p)], [])) (pcal_w (as := [oI (p), oI 1]) rfl rfl rfl eo_196) ⟨by omega, Nat.le_of_ble_eq_true rfl, Nat.le_of_ble_eq_true rfl, rfl⟩ ?_
    refine nw_run hB hS ⟨by omega, by omega⟩ ⟨by omega, by omega⟩ (fun g4 hS4 => ?_) rfl rfl rfl
    replace hS4 : nS g0 g4 p m s (-1000 * 1 - p) u c gf ga := hS4
    show t_X d 260 17 lv [oI 0] g4 P
    refine t_5 ytk_17 rfl rfl ?_
    exact h2 (by omega) _ (by rw [show -1000 - p = -1000 * 1 - p by omega]; exact hS4)
set_option maxHeartbeats 2000000 in
theorem ns_run {d : Nat} (hd : 2 ≤ d) {g0 g : pH} {B : tC} {n : Int} (hB : nB g0 B n) {p m s ft u : Int} {c gf ga : tC} (hS : nS g0 g p m s ft u c gf ga) (hp : 0 ≤ p ∧ p ≤ n) {P : Option pv × pH → Prop} (hF : ∀ (g1 : pH) (f q v : Int), nS g0 g1 q m s f v c gf ga → tNf (tH B n) p f → P (some (oI 0), g1)) (hO : ∀ (g1 : pH) (v q : Int), nS g0 g1 q m s ft v c gf ga → tNu (tH B n) p v q → P (some (oI 1), g1)) {lv : List (Nat × pv)} (l0 : px_lg lv 0 = some (pvR 196)) : t_X d 240 0 lv [] g P := by
  have hn0 := hB.2.2.1
  have hn1 := hB.2.2.2
  have hH : ∀ q, 0 ≤ q → -1 ≤ tH B n q ∧ tH B n q ≤ 255 := fun q hq => tH_b (tp_b hB.2.1) (by omega) hq
  refine t_0 yrs_0 rfl (ld_a l0) ?_
  refine t_0 yrs_1 rfl (pq_cv eo_196 rfl (show cF g 196 18 = p from S_f hS 0 (Nat.le_of_ble_eq_true rfl))) ?_
  show t_X d 240 4 lv [oI (p)] g P
  refine t_2 yrs_4 rfl (w := (px_s1 lv 1 (oI (p)), [])) rfl ?_
  replace l0 : px_lg (px_s1 lv 1 (oI (p))) 0 = some (pvR 196) := s1_ne (by decide) (fun _ => rfl) l0
  have l1 : px_lg (px_s1 lv 1 (oI (p))) 1 = some (oI (p)) := s1_eq
  generalize px_s1 lv 1 (oI (p)) = lv1 at l0 l1 ⊢
  show t_X d 240 5 lv1 [] g P
  refine t_0 yrs_5 rfl (ld_a l0) ?_
  refine t_0 yrs_6 rfl rfl ?_
  refine ts_f (n := 4) rfl rfl (by decide) yrs_7 rfl eo_196 hS wt_nWr_196_21 gy_196_21 (by decide) ⟨by omega, by omega⟩ (fun g2 hS2 => ?_)
  replace hS2 : nS g0 g2 p m s ft 0 c gf ga := hS2
  show t_X d 240 10 lv1 [] g2 P
  refine t_0 yrs_10 rfl (ld_a l0) ?_
  refine t_3 yrs_11 rfl (ar := ([pvR 196], [])) (pcal_w (as := []) rfl rfl rfl eo_196) ⟨by omega, Nat.le_of_ble_eq_true rfl, Nat.le_of_ble_eq_true rfl, rfl⟩ ?_
  have b3 := hH p (by omega)
  have z3 := tH_n (B := B) (n := n) (p := p)
  refine nd_run (by omega) hB hS2 (by omega) (fun t3 => ?_) (fun t3 => ?_) rfl
  · unfold tDg at t3
    show t_X d 240 14 lv1 [oI 1] g2 P
    refine tz_eq yrs_14 (by decide) ⟨by omega, by omega⟩ (fun c4 => absurd c4 (by omega)) (fun c4 => ?_)
    show t_X d 240 17 lv1 [] g2 P
    refine t_0 yrs_17 rfl (ld_a l0) ?_
    refine t_0 yrs_18 rfl (pq_cv eo_196 rfl (show cF g2 196 18 = p from S_f hS2 0 (Nat.le_of_ble_eq_true rfl))) ?_
    show t_X d 240 21 lv1 [oI (p)] g2 P
    refine t_0 yrs_21 rfl (ld_i l1) ?_
    refine t_0 yrs_22 rfl rfl ?_
    refine t_0 yrs_23 rfl pq_add ?_
    refine tb_ge yrs_24 (by decide) ⟨by omega, by omega⟩ ⟨by omega, by omega⟩ (fun c5 => absurd c5 (by omega)) (fun c5 => ?_)
    show t_X d 240 27 lv1 [] g2 P
    refine t_0 yrs_27 rfl (ld_a l0) ?_
    refine t_0 yrs_28 rfl (pq_b (by decide)) ?_
    refine t_0 yrs_30 rfl (ld_a l0) ?_
    refine t_0 yrs_31 rfl (pq_cv eo_196 rfl (show cF g2 196 21 = 0 from S_f hS2 4 (Nat.le_of_ble_eq_true rfl))) ?_
    show t_X d 240 34 lv1 [oI 0, oI 10, pvR 196] g2 P
    refine t_0 yrs_34 rfl pq_mul ?_
    refine t_0 yrs_35 rfl (ld_a l0) ?_
    refine t_3 yrs_36 rfl (ar := ([pvR 196], [oI (10 * 0), pvR 196])) (pcal_w (as := []) rfl rfl rfl eo_196) ⟨by omega, Nat.le_of_ble_eq_true rfl, Nat.le_of_ble_eq_true rfl, rfl⟩ ?_
    refine nh_run hB hS2 (by omega) ?_ rfl
    show t_X d 240 39 lv1 [oI (tH B n p), oI (10 * 0), pvR 196] g2 P
    refine t_0 yrs_39 rfl pq_add ?_
    refine t_0 yrs_40 rfl (pq_b (by decide)) ?_
    refine t_0 yrs_42 rfl pq_sub ?_
    refine ts_f (n := 4) rfl rfl (by decide) yrs_43 rfl eo_196 hS2 wt_nWr_196_21 gy_196_21 (by decide) ⟨by omega, by omega⟩ (fun g6 hS6 => ?_)
    replace hS6 : nS g0 g6 p m s ft (((10 * 0) + (tH B n p)) - 48) c gf ga := hS6
    show t_X d 240 46 lv1 [] g6 P
    refine t_0 yrs_46 rfl (ld_a l0) ?_
    refine t_0 yrs_47 rfl (ld_a l0) ?_
    refine t_0 yrs_48 rfl (pq_cv eo_196 rfl (show cF g6 196 18 = p from S_f hS6 0 (Nat.le_of_ble_eq_true rfl))) ?_
    show t_X d 240 51 lv1 [oI (p), pvR 196] g6 P
    refine t_0 yrs_51 rfl rfl ?_
    refine t_0 yrs_52 rfl pq_add ?_
    refine ts_f (n := 0) rfl rfl (by decide) yrs_53 rfl eo_196 hS6 wt_nWr_196_18 gy_196_18 (by decide) ⟨by omega, by omega⟩ (fun g7 hS7 => ?_)
    replace hS7 : nS g0 g7 (p + 1) m s ft (((10 * 0) + (tH B n p)) - 48) c gf ga := hS7
    show t_X d 240 56 lv1 [] g7 P
    refine t_1 yrs_56 rfl (pb_goto (pc := 56) (by decide)) ?_
    show t_X d 240 10 lv1 [] g7 P
    refine t_0 yrs_10 rfl (ld_a l0) ?_
    refine t_3 yrs_11 rfl (ar := ([pvR 196], [])) (pcal_w (as := []) rfl rfl rfl eo_196) ⟨by omega, Nat.le_of_ble_eq_true rfl, Nat.le_of_ble_eq_true rfl, rfl⟩ ?_
    have b8 := hH (p + 1) (by omega)
    have z8 := tH_n (B := B) (n := n) (p := p + 1)
    refine nd_run (by omega) hB hS7 (by omega) (fun t8 => ?_) (fun t8 => ?_) rfl
    · unfold tDg at t8
      show t_X d 240 14 lv1 [oI 1] g7 P
      refine tz_eq yrs_14 (by decide) ⟨by omega, by omega⟩ (fun c9 => absurd c9 (by omega)) (fun c9 => ?_)
      show t_X d 240 17 lv1 [] g7 P
      refine t_0 yrs_17 rfl (ld_a l0) ?_
      refine t_0 yrs_18 rfl (pq_cv eo_196 rfl (show cF g7 196 18 = p + 1 from S_f hS7 0 (Nat.le_of_ble_eq_true rfl))) ?_
      show t_X d 240 21 lv1 [oI (p + 1)] g7 P
      refine t_0 yrs_21 rfl (ld_i l1) ?_
      refine t_0 yrs_22 rfl rfl ?_
      refine t_0 yrs_23 rfl pq_add ?_
      refine tb_ge yrs_24 (by decide) ⟨by omega, by omega⟩ ⟨by omega, by omega⟩ (fun c10 => absurd c10 (by omega)) (fun c10 => ?_)
      show t_X d 240 27 lv1 [] g7 P
      refine t_0 yrs_27 rfl (ld_a l0) ?_
      refine t_0 yrs_28 rfl (pq_b (by decide)) ?_
      refine t_0 yrs_30 rfl (ld_a l0) ?_
      refine t_0 yrs_31 rfl (pq_cv eo_196 rfl (show cF g7 196 21 = ((10 * 0) + (tH B n p)) - 48 from S_f hS7 4 (Nat.le_of_ble_eq_true rfl))) ?_
      show t_X d 240 34 lv1 [oI (((10 * 0) + (tH B n p)) - 48), oI 10, pvR 196] g7 P
      refine t_0 yrs_34 rfl pq_mul ?_
      refine t_0 yrs_35 rfl (ld_a l0) ?_
      refine t_3 yrs_36 rfl (ar := ([pvR 196], [oI (10 * (((10 * 0) + (tH B n p)) - 48)), pvR 196])) (pcal_w (as := []) rfl rfl rfl eo_196) ⟨by omega, Nat.le_of_ble_eq_true rfl, Nat.le_of_ble_eq_true rfl, rfl⟩ ?_
      refine nh_run hB hS7 (by omega) ?_ rfl
      show t_X d 240 39 lv1 [oI (tH B n (p + 1)), oI (10 * (((10 * 0) + (tH B n p)) - 48)), pvR 196] g7 P
      refine t_0 yrs_39 rfl pq_add ?_
      refine t_0 yrs_40 rfl (pq_b (by decide)) ?_
      refine t_0 yrs_42 rfl pq_sub ?_
      refine ts_f (n := 4) rfl rfl (by decide) yrs_43 rfl eo_196 hS7 wt_nWr_196_21 gy_196_21 (by decide) ⟨by omega, by omega⟩ (fun g11 hS11 => ?_)
      replace hS11 : nS g0 g11 (p + 1) m s ft (((10 * (((10 * 0) + (tH B n p)) - 48)) + (tH B n (p + 1))) - 48) c gf ga := hS11
      show t_X d 240 46 lv1 [] g11 P
      refine t_0 yrs_46 rfl (ld_a l0) ?_
      refine t_0 yrs_47 rfl (ld_a l0) ?_
      refine t_0 yrs_48 rfl (pq_cv eo_196 rfl (show cF g11 196 18 = p + 1 from S_f hS11 0 (Nat.le_of_ble_eq_true rfl))) ?_
      show t_X d 240 51 lv1 [oI (p + 1), pvR 196] g11 P
      refine t_0 yrs_51 rfl rfl ?_
      refine t_0 yrs_52 rfl pq_add ?_
      refine ts_f (n := 0) rfl rfl (by decide) yrs_53 rfl eo_196 hS11 wt_nWr_196_18 gy_196_18 (by decide) ⟨by omega, by omega⟩ (fun g12 hS12 => ?_)
      replace hS12 : nS g0 g12 ((p + 1) + 1) m s ft (((10 * (((10 * 0) + (tH B n p)) - 48)) + (tH B n (p + 1))) - 48) c gf ga := hS12
      show t_X d 240 56 lv1 [] g12 P
      refine t_1 yrs_56 rfl (pb_goto (pc := 56) (by decide)) ?_
      show t_X d 240 10 lv1 [] g12 P
      refine t_0 yrs_10 rfl (ld_a l0) ?_
      refine t_3 yrs_11 rfl (ar := ([pvR 196], [])) (pcal_w (as := []) rfl rfl rfl eo_196) ⟨by omega, Nat.le_of_ble_eq_true rfl, Nat.le_of_ble_eq_true rfl, rfl⟩ ?_
      have b13 := hH ((p + 1) + 1) (by omega)
      have z13 := tH_n (B := B) (n := n) (p := (p + 1) + 1)
      refine nd_run (by omega) hB hS12 (by omega) (fun t13 => ?_) (fun t13 => ?_) rfl
      · unfold tDg at t13
        show t_X d 240 14 lv1 [oI 1] g12 P
        refine tz_eq yrs_14 (by decide) ⟨by omega, by omega⟩ (fun c14 => absurd c14 (by omega)) (fun c14 => ?_)
        show t_X d 240 17 lv1 [] g12 P
        refine t_0 yrs_17 rfl (ld_a l0) ?_
        refine t_0 yrs_18 rfl (pq_cv eo_196 rfl (show cF g12 196 18 = (p + 1) + 1 from S_f hS12 0 (Nat.le_of_ble_eq_true rfl))) ?_
        show t_X d 240 21 lv1 [oI ((p + 1) + 1)] g12 P
        refine t_0 yrs_21 rfl (ld_i l1) ?_
        refine t_0 yrs_22 rfl rfl ?_
        refine t_0 yrs_23 rfl pq_add ?_
        refine tb_ge yrs_24 (by decide) ⟨by omega, by omega⟩ ⟨by omega, by omega⟩ (fun c15 => ?_) (fun c15 => absurd c15 (by omega))
        show t_X d 240 59 lv1 [] g12 P
        refine t_0 yrs_59 rfl (ld_a l0) ?_
        refine t_0 yrs_60 rfl (pq_cv eo_196 rfl (show cF g12 196 18 = (p + 1) + 1 from S_f hS12 0 (Nat.le_of_ble_eq_true rfl))) ?_
        show t_X d 240 63 lv1 [oI ((p + 1) + 1)] g12 P
        refine t_0 yrs_63 rfl (ld_i l1) ?_
        refine tb_ne yrs_64 (by decide) ⟨by omega, by omega⟩ ⟨by omega, by omega⟩ (fun c16 => ?_) (fun c16 => absurd c16 (by omega))
        show t_X d 240 77 lv1 [] g12 P
        refine t_0 yrs_77 rfl (ld_a l0) ?_
        refine t_0 yrs_78 rfl (pq_cv eo_196 rfl (show cF g12 196 21 = ((10 * (((10 * 0) + (tH B n p)) - 48)) + (tH B n (p + 1))) - 48 from S_f hS12 4 (Nat.le_of_ble_eq_true rfl))) ?_
        show t_X d 240 81 lv1 [oI (((10 * (((10 * 0) + (tH B n p)) - 48)) + (tH B n (p + 1))) - 48)] g12 P
        refine t_0 yrs_81 rfl (pq_b (by decide)) ?_
        refine tb_lt yrs_83 (by decide) ⟨by omega, by omega⟩ ⟨by omega, by omega⟩ (fun c17 => ?_) (fun c17 => ?_)
        · show t_X d 240 95 lv1 [] g12 P
          refine t_0 yrs_95 rfl rfl ?_
          refine t_1 yrs_96 rfl (pb_goto (pc := 96) (by decide)) ?_
          show t_X d 240 100 lv1 [oI 1] g12 P
          refine t_5 yrs_100 rfl rfl ?_
          refine hO _ _ _ hS12 ?_
          unfold tNu tDg
          omega
        · show t_X d 240 86 lv1 [] g12 P
          refine t_0 yrs_86 rfl (ld_a l0) ?_
          refine t_0 yrs_87 rfl rfl ?_
          refine t_0 yrs_88 rfl (ld_i l1) ?_
          refine t_3 yrs_89 rfl (ar := ([pvR 196, oI 3, oI (p)], [])) (pcal_w (as := [oI (p), oI 3]) rfl rfl rfl eo_196) ⟨by omega, Nat.le_of_ble_eq_true rfl, Nat.le_of_ble_eq_true rfl, rfl⟩ ?_
          refine nw_run hB hS12 ⟨by omega, by omega⟩ ⟨by omega, by omega⟩ (fun g18 hS18 => ?_) rfl rfl rfl
          replace hS18 : nS g0 g18 ((p + 1) + 1) m s (-1000 * 3 - p) (((10 * (((10 * 0) + (tH B n p)) - 48)) + (tH B n (p + 1))) - 48) c gf ga := hS18
          show t_X d 240 92 lv1 [oI 0] g18 P
          refine tz_eq yrs_92 (by decide) ⟨by omega, by omega⟩ (fun c19 => ?_) (fun c19 => absurd c19 (by omega))
          show t_X d 240 99 lv1 [] g18 P
          refine t_0 yrs_99 rfl rfl ?_
          refine t_5 yrs_100 rfl rfl ?_
          exact hF _ _ _ _ hS18 (by unfold tNf tDg; omega)
      · unfold tDg at t13
        show t_X d 240 14 lv1 [oI 0] g12 P
        refine tz_eq yrs_14 (by decide) ⟨by omega, by omega⟩ (fun c20 => ?_) (fun c20 => absurd c20 (by omega))
        show t_X d 240 59 lv1 [] g12 P
        refine t_0 yrs_59 rfl (ld_a l0) ?_
        refine t_0 yrs_60 rfl (pq_cv eo_196 rfl (show cF g12 196 18 = (p + 1) + 1 from S_f hS12 0 (Nat.le_of_ble_eq_true rfl))) ?_
        show t_X d 240 63 lv1 [oI ((p + 1) + 1)] g12 P
        refine t_0 yrs_63 rfl (ld_i l1) ?_
        refine tb_ne yrs_64 (by decide) ⟨by omega, by omega⟩ ⟨by omega, by omega⟩ (fun c21 => ?_) (fun c21 => absurd c21 (by omega))
        show t_X d 240 77 lv1 [] g12 P
        refine t_0 yrs_77 rfl (ld_a l0) ?_
        refine t_0 yrs_78 rfl (pq_cv eo_196 rfl (show cF g12 196 21 = ((10 * (((10 * 0) + (tH B n p)) - 48)) + (tH B n (p + 1))) - 48 from S_f hS12 4 (Nat.le_of_ble_eq_true rfl))) ?_
        show t_X d 240 81 lv1 [oI (((10 * (((10 * 0) + (tH B n p)) - 48)) + (tH B n (p + 1))) - 48)] g12 P
        refine t_0 yrs_81 rfl (pq_b (by decide)) ?_
        refine tb_lt yrs_83 (by decide) ⟨by omega, by omega⟩ ⟨by omega, by omega⟩ (fun c22 => ?_) (fun c22 => ?_)
        · show t_X d 240 95 lv1 [] g12 P
          refine t_0 yrs_95 rfl rfl ?_
          refine t_1 yrs_96 rfl (pb_goto (pc := 96) (by decide)) ?_
          show t_X d 240 100 lv1 [oI 1] g12 P
          refine t_5 yrs_100 rfl rfl ?_
          refine hO _ _ _ hS12 ?_
          unfold tNu tDg
          omega
        · show t_X d 240 86 lv1 [] g12 P
          refine t_0 yrs_86 rfl (ld_a l0) ?_
          refine t_0 yrs_87 rfl rfl ?_
          refine t_0 yrs_88 rfl (ld_i l1) ?_
          refine t_3 yrs_89 rfl (ar := ([pvR 196, oI 3, oI (p)], [])) (pcal_w (as := [oI (p), oI 3]) rfl rfl rfl eo_196) ⟨by omega, Nat.le_of_ble_eq_true rfl, Nat.le_of_ble_eq_true rfl, rfl⟩ ?_
          refine nw_run hB hS12 ⟨by omega, by omega⟩ ⟨by omega, by omega⟩ (fun g23 hS23 => ?_) rfl rfl rfl
          replace hS23 : nS g0 g23 ((p + 1) + 1) m s (-1000 * 3 - p) (((10 * (((10 * 0) + (tH B n p)) - 48)) + (tH B n (p + 1))) - 48) c gf ga := hS23
          show t_X d 240 92 lv1 [oI 0] g23 P
          refine tz_eq yrs_92 (by decide) ⟨by omega, by omega⟩ (fun c24 => ?_) (fun c24 => absurd c24 (by omega))
          show t_X d 240 99 lv1 [] g23 P
          refine t_0 yrs_99 rfl rfl ?_
          refine t_5 yrs_100 rfl rfl ?_
          exact hF _ _ _ _ hS23 (by unfold tNf tDg; omega)
    · unfold tDg at t8
      show t_X d 240 14 lv1 [oI 0] g7 P
      refine tz_eq yrs_14 (by decide) ⟨by omega, by omega⟩ (fun c25 => ?_) (fun c25 => absurd c25 (by omega))
      show t_X d 240 59 lv1 [] g7 P
      refine t_0 yrs_59 rfl (ld_a l0) ?_
      refine t_0 yrs_60 rfl (pq_cv eo_196 rfl (show cF g7 196 18 = p + 1 from S_f hS7 0 (Nat.le_of_ble_eq_true rfl))) ?_
      show t_X d 240 63 lv1 [oI (p + 1)] g7 P
      refine t_0 yrs_63 rfl (ld_i l1) ?_
      refine tb_ne yrs_64 (by decide) ⟨by omega, by omega⟩ ⟨by omega, by omega⟩ (fun c26 => ?_) (fun c26 => absurd c26 (by omega))
      show t_X d 240 77 lv1 [] g7 P
      refine t_0 yrs_77 rfl (ld_a l0) ?_
      refine t_0 yrs_78 rfl (pq_cv eo_196 rfl (show cF g7 196 21 = ((10 * 0) + (tH B n p)) - 48 from S_f hS7 4 (Nat.le_of_ble_eq_true rfl))) ?_
      show t_X d 240 81 lv1 [oI (((10 * 0) + (tH B n p)) - 48)] g7 P
      refine t_0 yrs_81 rfl (pq_b (by decide)) ?_
      refine tb_lt yrs_83 (by decide) ⟨by omega, by omega⟩ ⟨by omega, by omega⟩ (fun c27 => ?_) (fun c27 => absurd c27 (by omega))
      show t_X d 240 95 lv1 [] g7 P
      refine t_0 yrs_95 rfl rfl ?_
      refine t_1 yrs_96 rfl (pb_goto (pc := 96) (by decide)) ?_
      show t_X d 240 100 lv1 [oI 1] g7 P
      refine t_5 yrs_100 rfl rfl ?_
      refine hO _ _ _ hS7 ?_
      unfold tNu tDg
      omega
  · unfold tDg at t3
    show t_X d 240 14 lv1 [oI 0] g2 P
    refine tz_eq yrs_14 (by decide) ⟨by omega, by omega⟩ (fun c28 => ?_) (fun c28 => absurd c28 (by omega))
    show t_X d 240 59 lv1 [] g2 P
    refine t_0 yrs_59 rfl (ld_a l0) ?_
    refine t_0 yrs_60 rfl (pq_cv eo_196 rfl (show cF g2 196 18 = p from S_f hS2 0 (Nat.le_of_ble_eq_true rfl))) ?_
    show t_X d 240 63 lv1 [oI (p)] g2 P
    refine t_0 yrs_63 rfl (ld_i l1) ?_
    refine tb_ne yrs_64 (by decide) ⟨by omega, by omega⟩ ⟨by omega, by omega⟩ (fun c29 => absurd c29 (by omega)) (fun c29 => ?_)
    show t_X d 240 67 lv1 [] g2 P
    refine t_0 yrs_67 rfl (ld_a l0) ?_
    refine t_0 yrs_68 rfl rfl ?_
    refine t_0 yrs_69 rfl (ld_a l0) ?_
    refine t_0 yrs_70 rfl (pq_cv eo_196 rfl (show cF g2 196 18 = p from S_f hS2 0 (Nat.le_of_ble_eq_true rfl))) ?_
    show t_X d 240 73 lv1 [oI (p), oI 1, pvR 196] g2 P
    refine t_3 yrs_73 rfl (ar := ([pvR 196, oI 1, oI (p)], [])) (pcal_w (as := [oI (p), oI 1]) rfl rfl rfl eo_196) ⟨by omega, Nat.le_of_ble_eq_true rfl, Nat.le_of_ble_eq_true rfl, rfl⟩ ?_
    refine nw_run hB hS2 ⟨by omega, by omega⟩ ⟨by omega, by omega⟩ (fun g30 hS30 => ?_) rfl rfl rfl
    replace hS30 : nS g0 g30 p m s (-1000 * 1 - p) 0 c gf ga := hS30
    show t_X d 240 76 lv1 [oI 0] g30 P
    refine t_5 yrs_76 rfl rfl ?_
    exact hF _ _ _ _ hS30 (by unfold tNf tDg; omega)
set_option maxHeartbeats 2000000 in
theorem nl_p {d : Nat} {g0 : pH} {B : tC} {n : Int} (hB : nB g0 B n) {p p0 m s ft u a z : Int} (ha : 0 ≤ a ∧ a ≤ 31 ∧ 0 ≤ z ∧ z ≤ 31 ∧ a ≤ z) (hm : 0 ≤ m ∧ m + (z - a + 1) ≤ 60) {c0 gf ga : tC} {P : Option pv × pH → Prop} (hO : ∀ (g1 : pH) (c1 : tC), nS g0 g1 p (m + (z - a + 1)) s ft u c1 gf ga → (∀ j : Nat, (j : Int) < m → c1 j = c0 j) → (∀ i : Nat, (i : Int) < z - a + 1 → c1 (m + i).toNat = a + (i : Int)) → P (some (oI 1), g1)) : ∀ (y k : Nat) (g : pH) (lv : List (Nat × pv)) {c : tC}, z - a + 1 - k ≤ y → (k : Int) ≤ z - a + 1 → nS g0 g p m s ft u c gf ga → ((∀ j : Nat, (j : Int) < m → c j = c0 j) ∧ ∀ i : Nat, i < k → c (m + i).toNat = a + (i : Int)) → px_lg lv 0 = some (pvR 196) → px_lg lv 1 = some (oI p0) → px_lg lv 2 = some (oI a) → px_lg lv 3 = some (oI 1) → px_lg lv 4 = some (oI (z - a + 1)) → px_lg lv 5 = some (oI (k : Int)) → t_X d 239 96 lv [] g P := by
  intro y
  induction y with
  | zero =>
    intro k g lv c hy hk hS hc l0 l1 l2 l3 l4 l5
    refine t_0 yrr_96 rfl (ld_i l5) ?_
    refine t_0 yrr_98 rfl (ld_i l4) ?_
    refine tb_ge yrr_100 (by decide) ⟨by omega, by omega⟩ ⟨by omega, by omega⟩ (fun c1 => ?_) (fun c1 => absurd c1 (by omega))
    show t_X d 239 127 lv [] g P
    refine t_0 yrr_127 rfl (ld_a l0) ?_
    refine t_0 yrr_128 rfl (ld_a l0) ?_
    refine t_0 yrr_129 rfl (pq_cv eo_196 rfl (show cF g 196 25 = m from S_f hS 1 (Nat.le_of_ble_eq_true rfl))) ?_
    show t_X d 239 132 lv [oI (m), pvR 196] g P
    refine t_0 yrr_132 rfl (ld_i l4) ?_
    refine t_0 yrr_134 rfl pq_add ?_
    refine ts_f (n := 1) rfl rfl (by decide) yrr_135 rfl eo_196 hS wt_nWr_196_25 gy_196_25 (by decide) ⟨by omega, by omega⟩ (fun g2 hS2 => ?_)
    replace hS2 : nS g0 g2 p (m + (z - a + 1)) s ft u c gf ga := hS2
    show t_X d 239 138 lv [] g2 P
    refine t_0 yrr_138 rfl rfl ?_
    refine t_5 yrr_139 rfl rfl ?_
    exact hO _ _ hS2 hc.1 (fun i hi => hc.2 i (by omega))
  | succ y ih =>
    intro k g lv c hy hk hS hc l0 l1 l2 l3 l4 l5
    by_cases hkk : (k : Int) < z - a + 1
    · skip
      refine t_0 yrr_96 rfl (ld_i l5) ?_
      refine t_0 yrr_98 rfl (ld_i l4) ?_
      refine tb_ge yrr_100 (by decide) ⟨by omega, by omega⟩ ⟨by omega, by omega⟩ (fun c1 => absurd c1 (by omega)) (fun c1 => ?_)
      show t_X d 239 103 lv [] g P
      refine t_0 yrr_103 rfl (ld_a l0) ?_
      refine t_0 yrr_104 rfl (cq_196_28 (S_J hS).1) ?_
      show t_X d 239 107 lv [pvR 213] g P
      refine t_0 yrr_107 rfl (ld_a l0) ?_
      refine t_0 yrr_108 rfl (pq_cv eo_196 rfl (show cF g 196 25 = m from S_f hS 1 (Nat.le_of_ble_eq_true rfl))) ?_
      show t_X d 239 111 lv [oI (m), pvR 213] g P
      refine t_0 yrr_111 rfl (ld_i l5) ?_
      refine t_0 yrr_113 rfl pq_add ?_
      refine t_0 yrr_114 rfl (ld_i l2) ?_
      refine t_0 yrr_115 rfl (ld_i l3) ?_
      refine t_0 yrr_116 rfl (ld_i l5) ?_
      refine t_0 yrr_118 rfl pq_mul ?_
      refine t_0 yrr_119 rfl pq_add ?_
      refine ts_a (n := 0) rfl rfl (by decide) yrr_120 hS ez_213 rfl wu_nWr_213 gu_213 (by decide) ⟨by omega, by omega⟩ ⟨by omega, by omega⟩ (fun g2 hS2 => ?_)
      replace hS2 : nS g0 g2 p m s ft u (updI c (m + (k : Int)).toNat (a + (1 * (k : Int)))) gf ga := hS2
      show t_X d 239 121 lv [] g2 P
      refine t_2 yrr_121 rfl (w := (px_s1 lv 5 (oI ((k : Int) + 1)), [])) (pq_inc l5 (by decide)) ?_
      replace l0 : px_lg (px_s1 lv 5 (oI ((k : Int) + 1))) 0 = some (pvR 196) := s1_ne (by decide) (fun _ => rfl) l0
      replace l1 : px_lg (px_s1 lv 5 (oI ((k : Int) + 1))) 1 = some (oI (p0)) := s1_ne (by decide) (fun _ => rfl) l1
      replace l2 : px_lg (px_s1 lv 5 (oI ((k : Int) + 1))) 2 = some (oI (a)) := s1_ne (by decide) (fun _ => rfl) l2
      replace l3 : px_lg (px_s1 lv 5 (oI ((k : Int) + 1))) 3 = some (oI 1) := s1_ne (by decide) (fun _ => rfl) l3
      replace l4 : px_lg (px_s1 lv 5 (oI ((k : Int) + 1))) 4 = some (oI (z - a + 1)) := s1_ne (by decide) (fun _ => rfl) l4
      have l5 : px_lg (px_s1 lv 5 (oI ((k : Int) + 1))) 5 = some (oI ((k : Int) + 1)) := s1_eq
      generalize px_s1 lv 5 (oI ((k : Int) + 1)) = lv3 at l0 l1 l2 l3 l4 l5 ⊢
      show t_X d 239 124 lv3 [] g2 P
      refine t_1 yrr_124 rfl (pb_goto (pc := 124) (by decide)) ?_
      show t_X d 239 96 lv3 [] g2 P
      refine ih (k + 1) _ _ (by omega) (by omega) hS2 ⟨fun j hj => ?_, fun i hi => ?_⟩ l0 l1 l2 l3 l4 l5
      · unfold updI
        rw [if_neg (by omega)]
        exact hc.1 j hj
      · unfold updI
        by_cases e : i = k
        · subst e; rw [if_pos rfl]; omega
        · rw [if_neg (by omega)]; exact hc.2 i (by omega)
    · skip
      refine t_0 yrr_96 rfl (ld_i l5) ?_
      refine t_0 yrr_98 rfl (ld_i l4) ?_
      refine tb_ge yrr_100 (by decide) ⟨by omega, by omega⟩ ⟨by omega, by omega⟩ (fun c1 => ?_) (fun c1 => absurd c1 (by omega))
      show t_X d 239 127 lv [] g P
      refine t_0 yrr_127 rfl (ld_a l0) ?_
      refine t_0 yrr_128 rfl (ld_a l0) ?_
      refine t_0 yrr_129 rfl (pq_cv eo_196 rfl (show cF g 196 25 = m from S_f hS 1 (Nat.le_of_ble_eq_true rfl))) ?_
      show t_X d 239 132 lv [oI (m), pvR 196] g P
      refine t_0 yrr_132 rfl (ld_i l4) ?_
      refine t_0 yrr_134 rfl pq_add ?_
      refine ts_f (n := 1) rfl rfl (by decide) yrr_135 rfl eo_196 hS wt_nWr_196_25 gy_196_25 (by decide) ⟨by omega, by omega⟩ (fun g2 hS2 => ?_)
      replace hS2 : nS g0 g2 p (m + (z - a + 1)) s ft u c gf ga := hS2
      show t_X d 239 138 lv [] g2 P
      refine t_0 yrr_138 rfl rfl ?_
      refine t_5 yrr_139 rfl rfl ?_
      exact hO _ _ hS2 hc.1 (fun i hi => hc.2 i (by omega))
set_option maxHeartbeats 2000000 in
theorem nl_m {d : Nat} {g0 : pH} {B : tC} {n : Int} (hB : nB g0 B n) {p p0 m s ft u a z : Int} (ha : 0 ≤ a ∧ a ≤ 31 ∧ 0 ≤ z ∧ z ≤ 31 ∧ z < a) (hm : 0 ≤ m ∧ m + (a - z + 1) ≤ 60) {c0 gf ga : tC} {P : Option pv × pH → Prop} (hO : ∀ (g1 : pH) (c1 : tC), nS g0 g1 p (m + (a - z + 1)) s ft u c1 gf ga → (∀ j : Nat, (j : Int) < m → c1 j = c0 j) → (∀ i : Nat, (i : Int) < a - z + 1 → c1 (m + i).toNat = a - (i : Int)) → P (some (oI 1), g1)) : ∀ (y k : Nat) (g : pH) (lv : List (Nat × pv)) {c : tC}, a - z + 1 - k ≤ y → (k : Int) ≤ a - z + 1 → nS g0 g p m s ft u c gf ga → ((∀ j : Nat, (j : Int) < m → c j = c0 j) ∧ ∀ i : Nat, i < k → c (m + i).toNat = a - (i : Int)) → px_lg lv 0 = some (pvR 196) → px_lg lv 1 = some (oI p0) → px_lg lv 2 = some (oI a) → px_lg lv 3 = some (oI (-1)) → px_lg lv 4 = some (oI (a - z + 1)) → px_lg lv 5 = some (oI (k : Int)) → t_X d 239 96 lv [] g P := by
  intro y
  induction y with
  | zero =>
    intro k g lv c hy hk hS hc l0 l1 l2 l3 l4 l5
    refine t_0 yrr_96 rfl (ld_i l5) ?_
    refine t_0 yrr_98 rfl (ld_i l4) ?_
    refine tb_ge yrr_100 (by decide) ⟨by omega, by omega⟩ ⟨by omega, by omega⟩ (fun c1 => ?_) (fun c1 => absurd c1 (by omega))
    show t_X d 239 127 lv [] g P
    refine t_0 yrr_127 rfl (ld_a l0) ?_
    refine t_0 yrr_128 rfl (ld_a l0) ?_
    refine t_0 yrr_129 rfl (pq_cv eo_196 rfl (show cF g 196 25 = m from S_f hS 1 (Nat.le_of_ble_eq_true rfl))) ?_
    show t_X d 239 132 lv [oI (m), pvR 196] g P
    refine t_0 yrr_132 rfl (ld_i l4) ?_
    refine t_0 yrr_134 rfl pq_add ?_
    refine ts_f (n := 1) rfl rfl (by decide) yrr_135 rfl eo_196 hS wt_nWr_196_25 gy_196_25 (by decide) ⟨by omega, by omega⟩ (fun g2 hS2 => ?_)
    replace hS2 : nS g0 g2 p (m + (a - z + 1)) s ft u c gf ga := hS2
    show t_X d 239 138 lv [] g2 P
    refine t_0 yrr_138 rfl rfl ?_
    refine t_5 yrr_139 rfl rfl ?_
    exact hO _ _ hS2 hc.1 (fun i hi => hc.2 i (by omega))
  | succ y ih =>
    intro k g lv c hy hk hS hc l0 l1 l2 l3 l4 l5
    by_cases hkk : (k : Int) < a - z + 1
    · skip
      refine t_0 yrr_96 rfl (ld_i l5) ?_
      refine t_0 yrr_98 rfl (ld_i l4) ?_
      refine tb_ge yrr_100 (by decide) ⟨by omega, by omega⟩ ⟨by omega, by omega⟩ (fun c1 => absurd c1 (by omega)) (fun c1 => ?_)
      show t_X d 239 103 lv [] g P
      refine t_0 yrr_103 rfl (ld_a l0) ?_
      refine t_0 yrr_104 rfl (cq_196_28 (S_J hS).1) ?_
      show t_X d 239 107 lv [pvR 213] g P
      refine t_0 yrr_107 rfl (ld_a l0) ?_
      refine t_0 yrr_108 rfl (pq_cv eo_196 rfl (show cF g 196 25 = m from S_f hS 1 (Nat.le_of_ble_eq_true rfl))) ?_
      show t_X d 239 111 lv [oI (m), pvR 213] g P
      refine t_0 yrr_111 rfl (ld_i l5) ?_
      refine t_0 yrr_113 rfl pq_add ?_
      refine t_0 yrr_114 rfl (ld_i l2) ?_
      refine t_0 yrr_115 rfl (ld_i l3) ?_
      refine t_0 yrr_116 rfl (ld_i l5) ?_
      refine t_0 yrr_118 rfl pq_mul ?_
      refine t_0 yrr_119 rfl pq_add ?_
      refine ts_a (n := 0) rfl rfl (by decide) yrr_120 hS ez_213 rfl wu_nWr_213 gu_213 (by decide) ⟨by omega, by omega⟩ ⟨by omega, by omega⟩ (fun g2 hS2 => ?_)
      replace hS2 : nS g0 g2 p m s ft u (updI c (m + (k : Int)).toNat (a + ((-1) * (k : Int)))) gf ga := hS2
      show t_X d 239 121 lv [] g2 P
      refine t_2 yrr_121 rfl (w := (px_s1 lv 5 (oI ((k : Int) + 1)), [])) (pq_inc l5 (by decide)) ?_
      replace l0 : px_lg (px_s1 lv 5 (oI ((k : Int) + 1))) 0 = some (pvR 196) := s1_ne (by decide) (fun _ => rfl) l0
      replace l1 : px_lg (px_s1 lv 5 (oI ((k : Int) + 1))) 1 = some (oI (p0)) := s1_ne (by decide) (fun _ => rfl) l1
      replace l2 : px_lg (px_s1 lv 5 (oI ((k : Int) + 1))) 2 = some (oI (a)) := s1_ne (by decide) (fun _ => rfl) l2
      replace l3 : px_lg (px_s1 lv 5 (oI ((k : Int) + 1))) 3 = some (oI (-1)) := s1_ne (by decide) (fun _ => rfl) l3
      replace l4 : px_lg (px_s1 lv 5 (oI ((k : Int) + 1))) 4 = some (oI (a - z + 1)) := s1_ne (by decide) (fun _ => rfl) l4
      have l5 : px_lg (px_s1 lv 5 (oI ((k : Int) + 1))) 5 = some (oI ((k : Int) + 1)) := s1_eq
      generalize px_s1 lv 5 (oI ((k : Int) + 1)) = lv3 at l0 l1 l2 l3 l4 l5 ⊢
      show t_X d 239 124 lv3 [] g2 P
      refine t_1 yrr_124 rfl (pb_goto (pc := 124) (by decide)) ?_
      show t_X d 239 96 lv3 [] g2 P
      refine ih (k + 1) _ _ (by omega) (by omega) hS2 ⟨fun j hj => ?_, fun i hi => ?_⟩ l0 l1 l2 l3 l4 l5
      · unfold updI
        rw [if_neg (by omega)]
        exact hc.1 j hj
      · unfold updI
        by_cases e : i = k
        · subst e; rw [if_pos rfl]; omega
        · rw [if_neg (by omega)]; exact hc.2 i (by omega)
    · skip
      refine t_0 yrr_96 rfl (ld_i l5) ?_
      refine t_0 yrr_98 rfl (ld_i l4) ?_
      refine tb_ge yrr_100 (by decide) ⟨by omega, by omega⟩ ⟨by omega, by omega⟩ (fun c1 => ?_) (fun c1 => absurd c1 (by omega))
      show t_X d 239 127 lv [] g P
      refine t_0 yrr_127 rfl (ld_a l0) ?_
      refine t_0 yrr_128 rfl (ld_a l0) ?_
      refine t_0 yrr_129 rfl (pq_cv eo_196 rfl (show cF g 196 25 = m from S_f hS 1 (Nat.le_of_ble_eq_true rfl))) ?_
      show t_X d 239 132 lv [oI (m), pvR 196] g P
      refine t_0 yrr_132 rfl (ld_i l4) ?_
      refine t_0 yrr_134 rfl pq_add ?_
      refine ts_f (n := 1) rfl rfl (by decide) yrr_135 rfl eo_196 hS wt_nWr_196_25 gy_196_25 (by decide) ⟨by omega, by omega⟩ (fun g2 hS2 => ?_)
      replace hS2 : nS g0 g2 p (m + (a - z + 1)) s ft u c gf ga := hS2
      show t_X d 239 138 lv [] g2 P
      refine t_0 yrr_138 rfl rfl ?_
      refine t_5 yrr_139 rfl rfl ?_
      exact hO _ _ hS2 hc.1 (fun i hi => hc.2 i (by omega))
set_option maxHeartbeats 4000000 in
theorem nrx_run {d : Nat} (hd : 3 ≤ d) {g0 g : pH} {B : tC} {n : Int} (hB : nB g0 B n) {p m s ft u : Int} {c gf ga : tC} (hS : nS g0 g p m s ft u c gf ga) (hp : 0 ≤ p ∧ p ≤ n) (hm : 0 ≤ m ∧ m ≤ 60) (hc : ∀ j : Nat, (j : Int) < m → 0 ≤ c j ∧ c j ≤ 31) {P : Option pv × pH → Prop} (hF : ∀ (g1 : pH) (f q m1 s1 u1 : Int) (c1 gf1 : tC), nS g0 g1 q m1 s1 f u1 c1 gf1 ga → tRo (tH B n) p m c (.inl f) → P (some (oI 0), g1)) (hO : ∀ (g1 : pH) (q m1 u1 : Int) (c1 : tC), nS g0 g1 q m1 s ft u1 c1 gf ga → tRo (tH B n) p m c (.inr (q, m1, c1)) → (∀ j : Nat, (j : Int) < m1 → 0 ≤ c1 j ∧ c1 j ≤ 31) → P (some (oI 1), g1)) {lv : List (Nat × pv)} (l0 : px_lg lv 0 = some (pvR 196)) : t_X d 239 0 lv [] g P := by
  have hn0 := hB.2.2.1
  have hn1 := hB.2.2.2
  have hH : ∀ q, 0 ≤ q → -1 ≤ tH B n q ∧ tH B n q ≤ 255 := fun q hq => tH_b (tp_b hB.2.1) (by omega) hq
  refine t_0 yrr_0 rfl (ld_a l0) ?_
  refine t_0 yrr_1 rfl (pq_cv eo_196 rfl (show cF g 196 18 = p from S_f hS 0 (Nat.le_of_ble_eq_true rfl))) ?_
  show t_X d 239 4 lv [oI (p)] g P
  refine t_2 yrr_4 rfl (w := (px_s1 lv 1 (oI (p)), [])) rfl ?_
  replace l0 : px_lg (px_s1 lv 1 (oI (p))) 0 = some (pvR 196) := s1_ne (by decide) (fun _ => rfl) l0
  have l1 : px_lg (px_s1 lv 1 (oI (p))) 1 = some (oI (p)) := s1_eq
  generalize px_s1 lv 1 (oI (p)) = lv1 at l0 l1 ⊢
  show t_X d 239 5 lv1 [] g P
  refine t_0 yrr_5 rfl (ld_a l0) ?_
  refine t_3 yrr_6 rfl (ar := ([pvR 196], [])) (pcal_w (as := []) rfl rfl rfl eo_196) ⟨by omega, Nat.le_of_ble_eq_true rfl, Nat.le_of_ble_eq_true rfl, rfl⟩ ?_
  refine ns_run (by omega) hB hS ⟨by omega, by omega⟩ (fun g2 f2 q2 v2 hS2 t2 => ?_) (fun g2 v2 q2 hS2 t2 => ?_) rfl
  · replace hS2 : nS g0 g2 q2 m s f2 v2 c gf ga := hS2
    show t_X d 239 9 lv1 [oI 0] g2 P
    refine tz_ne yrr_9 (by decide) ⟨by omega, by omega⟩ (fun c3 => absurd c3 (by omega)) (fun c3 => ?_)
    show t_X d 239 12 lv1 [] g2 P
    refine t_0 yrr_12 rfl rfl ?_
    refine t_5 yrr_13 rfl rfl ?_
    exact hF _ _ _ _ _ _ _ _ hS2 (Or.inl ⟨_, t2, rfl⟩)
  · replace hS2 : nS g0 g2 q2 m s ft v2 c gf ga := hS2
    have u2 := tNu_b t2
    have x2 := tNu_n t2
    show t_X d 239 9 lv1 [oI 1] g2 P
    refine tz_ne yrr_9 (by decide) ⟨by omega, by omega⟩ (fun c4 => ?_) (fun c4 => absurd c4 (by omega))
    show t_X d 239 14 lv1 [] g2 P
    refine t_0 yrr_14 rfl (ld_a l0) ?_
    refine t_0 yrr_15 rfl (pq_cv eo_196 rfl (show cF g2 196 21 = v2 from S_f hS2 4 (Nat.le_of_ble_eq_true rfl))) ?_
    show t_X d 239 18 lv1 [oI (v2)] g2 P
    refine t_2 yrr_18 rfl (w := (px_s1 lv1 2 (oI (v2)), [])) rfl ?_
    replace l0 : px_lg (px_s1 lv1 2 (oI (v2))) 0 = some (pvR 196) := s1_ne (by decide) (fun _ => rfl) l0
    replace l1 : px_lg (px_s1 lv1 2 (oI (v2))) 1 = some (oI (p)) := s1_ne (by decide) (fun _ => rfl) l1
    have l2 : px_lg (px_s1 lv1 2 (oI (v2))) 2 = some (oI (v2)) := s1_eq
    generalize px_s1 lv1 2 (oI (v2)) = lv5 at l0 l1 l2 ⊢
    show t_X d 239 19 lv5 [] g2 P
    refine t_0 yrr_19 rfl (ld_a l0) ?_
    refine t_3 yrr_20 rfl (ar := ([pvR 196], [])) (pcal_w (as := []) rfl rfl rfl eo_196) ⟨by omega, Nat.le_of_ble_eq_true rfl, Nat.le_of_ble_eq_true rfl, rfl⟩ ?_
    refine nh_run hB hS2 (by omega) ?_ rfl
    have b6 := hH q2 (by omega)
    have z6 := tH_n (B := B) (n := n) (p := q2)
    show t_X d 239 23 lv5 [oI (tH B n q2)] g2 P
    refine t_0 yrr_23 rfl (pq_b (by decide)) ?_
    refine tb_ne yrr_25 (by decide) ⟨by omega, by omega⟩ ⟨by omega, by omega⟩ (fun c7 => ?_) (fun c7 => ?_)
    · show t_X d 239 47 lv5 [] g2 P
      refine t_0 yrr_47 rfl (ld_a l0) ?_
      refine t_0 yrr_48 rfl (pq_cv eo_196 rfl (show cF g2 196 21 = v2 from S_f hS2 4 (Nat.le_of_ble_eq_true rfl))) ?_
      show t_X d 239 51 lv5 [oI (v2)] g2 P
      refine t_0 yrr_51 rfl (ld_i l2) ?_
      refine tb_ge yrr_52 (by decide) ⟨by omega, by omega⟩ ⟨by omega, by omega⟩ (fun c8 => ?_) (fun c8 => absurd c8 (by omega))
      show t_X d 239 59 lv5 [] g2 P
      refine t_0 yrr_59 rfl rfl ?_
      refine t_2 yrr_60 rfl (w := (px_s1 lv5 3 (oI 1), [])) rfl ?_
      replace l0 : px_lg (px_s1 lv5 3 (oI 1)) 0 = some (pvR 196) := s1_ne (by decide) (fun _ => rfl) l0
      replace l1 : px_lg (px_s1 lv5 3 (oI 1)) 1 = some (oI (p)) := s1_ne (by decide) (fun _ => rfl) l1
      replace l2 : px_lg (px_s1 lv5 3 (oI 1)) 2 = some (oI (v2)) := s1_ne (by decide) (fun _ => rfl) l2
      have l3 : px_lg (px_s1 lv5 3 (oI 1)) 3 = some (oI 1) := s1_eq
      generalize px_s1 lv5 3 (oI 1) = lv9 at l0 l1 l2 l3 ⊢
      show t_X d 239 61 lv9 [] g2 P
      refine t_0 yrr_61 rfl (ld_a l0) ?_
      refine t_0 yrr_62 rfl (pq_cv eo_196 rfl (show cF g2 196 21 = v2 from S_f hS2 4 (Nat.le_of_ble_eq_true rfl))) ?_
      show t_X d 239 65 lv9 [oI (v2)] g2 P
      refine t_0 yrr_65 rfl (ld_i l2) ?_
      refine t_0 yrr_66 rfl pq_sub ?_
      refine t_0 yrr_67 rfl (ld_i l3) ?_
      refine t_0 yrr_68 rfl pq_mul ?_
      refine t_0 yrr_69 rfl rfl ?_
      refine t_0 yrr_70 rfl pq_add ?_
      refine t_2 yrr_71 rfl (w := (px_s1 lv9 4 (oI (((v2 - v2) * 1) + 1)), [])) rfl ?_
      replace l0 : px_lg (px_s1 lv9 4 (oI (((v2 - v2) * 1) + 1))) 0 = some (pvR 196) := s1_ne (by decide) (fun _ => rfl) l0
      replace l1 : px_lg (px_s1 lv9 4 (oI (((v2 - v2) * 1) + 1))) 1 = some (oI (p)) := s1_ne (by decide) (fun _ => rfl) l1
      replace l2 : px_lg (px_s1 lv9 4 (oI (((v2 - v2) * 1) + 1))) 2 = some (oI (v2)) := s1_ne (by decide) (fun _ => rfl) l2
      replace l3 : px_lg (px_s1 lv9 4 (oI (((v2 - v2) * 1) + 1))) 3 = some (oI 1) := s1_ne (by decide) (fun _ => rfl) l3
      have l4 : px_lg (px_s1 lv9 4 (oI (((v2 - v2) * 1) + 1))) 4 = some (oI (((v2 - v2) * 1) + 1)) := s1_eq
      generalize px_s1 lv9 4 (oI (((v2 - v2) * 1) + 1)) = lv10 at l0 l1 l2 l3 l4 ⊢
      show t_X d 239 73 lv10 [] g2 P
      refine t_0 yrr_73 rfl (ld_a l0) ?_
      refine t_0 yrr_74 rfl (pq_cv eo_196 rfl (show cF g2 196 25 = m from S_f hS2 1 (Nat.le_of_ble_eq_true rfl))) ?_
      show t_X d 239 77 lv10 [oI (m)] g2 P
      refine t_0 yrr_77 rfl (ld_i l4) ?_
      refine t_0 yrr_79 rfl pq_add ?_
      refine t_0 yrr_80 rfl (pq_b (by decide)) ?_
      refine tb_le yrr_82 (by decide) ⟨by omega, by omega⟩ ⟨by omega, by omega⟩ (fun c11 => ?_) (fun c11 => ?_)
      · show t_X d 239 93 lv10 [] g2 P
        refine t_0 yrr_93 rfl rfl ?_
        refine t_2 yrr_94 rfl (w := (px_s1 lv10 5 (oI 0), [])) rfl ?_
        replace l0 : px_lg (px_s1 lv10 5 (oI 0)) 0 = some (pvR 196) := s1_ne (by decide) (fun _ => rfl) l0
        replace l1 : px_lg (px_s1 lv10 5 (oI 0)) 1 = some (oI (p)) := s1_ne (by decide) (fun _ => rfl) l1
        replace l2 : px_lg (px_s1 lv10 5 (oI 0)) 2 = some (oI (v2)) := s1_ne (by decide) (fun _ => rfl) l2
        replace l3 : px_lg (px_s1 lv10 5 (oI 0)) 3 = some (oI 1) := s1_ne (by decide) (fun _ => rfl) l3
        replace l4 : px_lg (px_s1 lv10 5 (oI 0)) 4 = some (oI (((v2 - v2) * 1) + 1)) := s1_ne (by decide) (fun _ => rfl) l4
        have l5 : px_lg (px_s1 lv10 5 (oI 0)) 5 = some (oI 0) := s1_eq
        generalize px_s1 lv10 5 (oI 0) = lv12 at l0 l1 l2 l3 l4 l5 ⊢
        show t_X d 239 96 lv12 [] g2 P
        replace l4 : px_lg lv12 4 = some (oI (v2 - v2 + 1)) := l4.trans (congrArg (fun x => some (oI x)) (by omega))
        refine nl_p hB (a := v2) (z := v2) (m := m) ⟨by omega, by omega, by omega, by omega, by omega⟩ ⟨by omega, by omega⟩ (c0 := c) (fun g1 c1 h1 h2 h3 => ?_) 40 0 _ _ (by omega) (by omega) hS2 ⟨fun j _ => rfl, fun i hi => absurd hi (by omega)⟩ l0 l1 l2 l3 l4 l5
        have ew : tW v2 v2 = v2 - v2 + 1 := by unfold tW; rw [if_pos (by omega)]
        rw [← ew] at h1 h3
        refine hO _ _ _ _ _ h1 (Or.inr ⟨_, _, t2, Or.inl ⟨by omega, Or.inr ⟨by omega, _, rfl, h2, fun k hk => by rw [h3 k hk, if_pos (by omega)]⟩⟩⟩) (fun j hj => ?_)
        by_cases e : (j : Int) < m
        · rw [h2 j e]; exact hc j e
        · have := h3 (j - m).toNat (by omega)
          rw [show (m + ((j - m).toNat : Int)).toNat = j by omega] at this
          omega
      · show t_X d 239 85 lv10 [] g2 P
        refine t_0 yrr_85 rfl (ld_a l0) ?_
        refine t_0 yrr_86 rfl (pq_b (by decide)) ?_
        refine t_0 yrr_88 rfl (ld_i l1) ?_
        refine t_3 yrr_89 rfl (ar := ([pvR 196, oI 6, oI (p)], [])) (pcal_w (as := [oI (p), oI 6]) rfl rfl rfl eo_196) ⟨by omega, Nat.le_of_ble_eq_true rfl, Nat.le_of_ble_eq_true rfl, rfl⟩ ?_
        refine nw_run hB hS2 ⟨by omega, by omega⟩ ⟨by omega, by omega⟩ (fun g13 hS13 => ?_) rfl rfl rfl
        replace hS13 : nS g0 g13 q2 m s (-1000 * 6 - p) v2 c gf ga := hS13
        show t_X d 239 92 lv10 [oI 0] g13 P
        refine t_5 yrr_92 rfl rfl ?_
        have ew : tW v2 v2 = v2 - v2 + 1 := by unfold tW; rw [if_pos (by omega)]
        exact hF _ _ _ _ _ _ _ _ hS13 (Or.inr ⟨_, _, t2, Or.inl ⟨by omega, Or.inl ⟨by omega, by rw [show -1000 * 6 - p = -6000 - p by omega]⟩⟩⟩)
    · show t_X d 239 28 lv5 [] g2 P
      refine t_0 yrr_28 rfl (ld_a l0) ?_
      refine t_0 yrr_29 rfl (ld_a l0) ?_
      refine t_0 yrr_30 rfl (pq_cv eo_196 rfl (show cF g2 196 18 = q2 from S_f hS2 0 (Nat.le_of_ble_eq_true rfl))) ?_
      show t_X d 239 33 lv5 [oI (q2), pvR 196] g2 P
      refine t_0 yrr_33 rfl rfl ?_
      refine t_0 yrr_34 rfl pq_add ?_
      refine ts_f (n := 0) rfl rfl (by decide) yrr_35 rfl eo_196 hS2 wt_nWr_196_18 gy_196_18 (by decide) ⟨by omega, by omega⟩ (fun g14 hS14 => ?_)
      replace hS14 : nS g0 g14 (q2 + 1) m s ft v2 c gf ga := hS14
      show t_X d 239 38 lv5 [] g14 P
      refine t_0 yrr_38 rfl (ld_a l0) ?_
      refine t_3 yrr_39 rfl (ar := ([pvR 196], [])) (pcal_w (as := []) rfl rfl rfl eo_196) ⟨by omega, Nat.le_of_ble_eq_true rfl, Nat.le_of_ble_eq_true rfl, rfl⟩ ?_
      refine ns_run (by omega) hB hS14 ⟨by omega, by omega⟩ (fun g15 f15 q15 v15 hS15 t15 => ?_) (fun g15 v15 q15 hS15 t15 => ?_) rfl
      · replace hS15 : nS g0 g15 q15 m s f15 v15 c gf ga := hS15
        show t_X d 239 42 lv5 [oI 0] g15 P
        refine tz_ne yrr_42 (by decide) ⟨by omega, by omega⟩ (fun c16 => absurd c16 (by omega)) (fun c16 => ?_)
        show t_X d 239 45 lv5 [] g15 P
        refine t_0 yrr_45 rfl rfl ?_
        refine t_5 yrr_46 rfl rfl ?_
        exact hF _ _ _ _ _ _ _ _ hS15 (Or.inr ⟨_, _, t2, Or.inr ⟨by omega, Or.inl ⟨_, t15, rfl⟩⟩⟩)
      · replace hS15 : nS g0 g15 q15 m s ft v15 c gf ga := hS15
        have u15 := tNu_b t15
        have x15 := tNu_n t15
        show t_X d 239 42 lv5 [oI 1] g15 P
        refine tz_ne yrr_42 (by decide) ⟨by omega, by omega⟩ (fun c17 => ?_) (fun c17 => absurd c17 (by omega))
        show t_X d 239 47 lv5 [] g15 P
        refine t_0 yrr_47 rfl (ld_a l0) ?_
        refine t_0 yrr_48 rfl (pq_cv eo_196 rfl (show cF g15 196 21 = v15 from S_f hS15 4 (Nat.le_of_ble_eq_true rfl))) ?_
        show t_X d 239 51 lv5 [oI (v15)] g15 P
        refine t_0 yrr_51 rfl (ld_i l2) ?_
        refine tb_ge yrr_52 (by decide) ⟨by omega, by omega⟩ ⟨by omega, by omega⟩ (fun c18 => ?_) (fun c18 => ?_)
        · show t_X d 239 59 lv5 [] g15 P
          refine t_0 yrr_59 rfl rfl ?_
          refine t_2 yrr_60 rfl (w := (px_s1 lv5 3 (oI 1), [])) rfl ?_
          replace l0 : px_lg (px_s1 lv5 3 (oI 1)) 0 = some (pvR 196) := s1_ne (by decide) (fun _ => rfl) l0
          replace l1 : px_lg (px_s1 lv5 3 (oI 1)) 1 = some (oI (p)) := s1_ne (by decide) (fun _ => rfl) l1
          replace l2 : px_lg (px_s1 lv5 3 (oI 1)) 2 = some (oI (v2)) := s1_ne (by decide) (fun _ => rfl) l2
          have l3 : px_lg (px_s1 lv5 3 (oI 1)) 3 = some (oI 1) := s1_eq
          generalize px_s1 lv5 3 (oI 1) = lv19 at l0 l1 l2 l3 ⊢
          show t_X d 239 61 lv19 [] g15 P
          refine t_0 yrr_61 rfl (ld_a l0) ?_
          refine t_0 yrr_62 rfl (pq_cv eo_196 rfl (show cF g15 196 21 = v15 from S_f hS15 4 (Nat.le_of_ble_eq_true rfl))) ?_
          show t_X d 239 65 lv19 [oI (v15)] g15 P
          refine t_0 yrr_65 rfl (ld_i l2) ?_
          refine t_0 yrr_66 rfl pq_sub ?_
          refine t_0 yrr_67 rfl (ld_i l3) ?_
          refine t_0 yrr_68 rfl pq_mul ?_
          refine t_0 yrr_69 rfl rfl ?_
          refine t_0 yrr_70 rfl pq_add ?_
          refine t_2 yrr_71 rfl (w := (px_s1 lv19 4 (oI (((v15 - v2) * 1) + 1)), [])) rfl ?_
          replace l0 : px_lg (px_s1 lv19 4 (oI (((v15 - v2) * 1) + 1))) 0 = some (pvR 196) := s1_ne (by decide) (fun _ => rfl) l0
          replace l1 : px_lg (px_s1 lv19 4 (oI (((v15 - v2) * 1) + 1))) 1 = some (oI (p)) := s1_ne (by decide) (fun _ => rfl) l1
          replace l2 : px_lg (px_s1 lv19 4 (oI (((v15 - v2) * 1) + 1))) 2 = some (oI (v2)) := s1_ne (by decide) (fun _ => rfl) l2
          replace l3 : px_lg (px_s1 lv19 4 (oI (((v15 - v2) * 1) + 1))) 3 = some (oI 1) := s1_ne (by decide) (fun _ => rfl) l3
          have l4 : px_lg (px_s1 lv19 4 (oI (((v15 - v2) * 1) + 1))) 4 = some (oI (((v15 - v2) * 1) + 1)) := s1_eq
          generalize px_s1 lv19 4 (oI (((v15 - v2) * 1) + 1)) = lv20 at l0 l1 l2 l3 l4 ⊢
          show t_X d 239 73 lv20 [] g15 P
          refine t_0 yrr_73 rfl (ld_a l0) ?_
          refine t_0 yrr_74 rfl (pq_cv eo_196 rfl (show cF g15 196 25 = m from S_f hS15 1 (Nat.le_of_ble_eq_true rfl))) ?_
          show t_X d 239 77 lv20 [oI (m)] g15 P
          refine t_0 yrr_77 rfl (ld_i l4) ?_
          refine t_0 yrr_79 rfl pq_add ?_
          refine t_0 yrr_80 rfl (pq_b (by decide)) ?_
          refine tb_le yrr_82 (by decide) ⟨by omega, by omega⟩ ⟨by omega, by omega⟩ (fun c21 => ?_) (fun c21 => ?_)
          · show t_X d 239 93 lv20 [] g15 P
            refine t_0 yrr_93 rfl rfl ?_
            refine t_2 yrr_94 rfl (w := (px_s1 lv20 5 (oI 0), [])) rfl ?_
            replace l0 : px_lg (px_s1 lv20 5 (oI 0)) 0 = some (pvR 196) := s1_ne (by decide) (fun _ => rfl) l0
            replace l1 : px_lg (px_s1 lv20 5 (oI 0)) 1 = some (oI (p)) := s1_ne (by decide) (fun _ => rfl) l1
            replace l2 : px_lg (px_s1 lv20 5 (oI 0)) 2 = some (oI (v2)) := s1_ne (by decide) (fun _ => rfl) l2
            replace l3 : px_lg (px_s1 lv20 5 (oI 0)) 3 = some (oI 1) := s1_ne (by decide) (fun _ => rfl) l3
            replace l4 : px_lg (px_s1 lv20 5 (oI 0)) 4 = some (oI (((v15 - v2) * 1) + 1)) := s1_ne (by decide) (fun _ => rfl) l4
            have l5 : px_lg (px_s1 lv20 5 (oI 0)) 5 = some (oI 0) := s1_eq
            generalize px_s1 lv20 5 (oI 0) = lv22 at l0 l1 l2 l3 l4 l5 ⊢
            show t_X d 239 96 lv22 [] g15 P
            replace l4 : px_lg lv22 4 = some (oI (v15 - v2 + 1)) := l4.trans (congrArg (fun x => some (oI x)) (by omega))
            refine nl_p hB (a := v2) (z := v15) (m := m) ⟨by omega, by omega, by omega, by omega, by omega⟩ ⟨by omega, by omega⟩ (c0 := c) (fun g1 c1 h1 h2 h3 => ?_) 40 0 _ _ (by omega) (by omega) hS15 ⟨fun j _ => rfl, fun i hi => absurd hi (by omega)⟩ l0 l1 l2 l3 l4 l5
            have ew : tW v2 v15 = v15 - v2 + 1 := by unfold tW; rw [if_pos (by omega)]
            rw [← ew] at h1 h3
            refine hO _ _ _ _ _ h1 (Or.inr ⟨_, _, t2, Or.inr ⟨by omega, Or.inr ⟨_, _, t15, Or.inr ⟨by omega, _, rfl, h2, fun k hk => by rw [h3 k hk, if_pos (by omega)]⟩⟩⟩⟩) (fun j hj => ?_)
            by_cases e : (j : Int) < m
            · rw [h2 j e]; exact hc j e
            · have := h3 (j - m).toNat (by omega)
              rw [show (m + ((j - m).toNat : Int)).toNat = j by omega] at this
              omega
          · show t_X d 239 85 lv20 [] g15 P
            refine t_0 yrr_85 rfl (ld_a l0) ?_
            refine t_0 yrr_86 rfl (pq_b (by decide)) ?_
            refine t_0 yrr_88 rfl (ld_i l1) ?_
            refine t_3 yrr_89 rfl (ar := ([pvR 196, oI 6, oI (p)], [])) (pcal_w (as := [oI (p), oI 6]) rfl rfl rfl eo_196) ⟨by omega, Nat.le_of_ble_eq_true rfl, Nat.le_of_ble_eq_true rfl, rfl⟩ ?_
            refine nw_run hB hS15 ⟨by omega, by omega⟩ ⟨by omega, by omega⟩ (fun g23 hS23 => ?_) rfl rfl rfl
            replace hS23 : nS g0 g23 q15 m s (-1000 * 6 - p) v15 c gf ga := hS23
            show t_X d 239 92 lv20 [oI 0] g23 P
            refine t_5 yrr_92 rfl rfl ?_
            have ew : tW v2 v15 = v15 - v2 + 1 := by unfold tW; rw [if_pos (by omega)]
            exact hF _ _ _ _ _ _ _ _ hS23 (Or.inr ⟨_, _, t2, Or.inr ⟨by omega, Or.inr ⟨_, _, t15, Or.inl ⟨by omega, by rw [show -1000 * 6 - p = -6000 - p by omega]⟩⟩⟩⟩)
        · show t_X d 239 55 lv5 [] g15 P
          refine t_0 yrr_55 rfl rfl ?_
          refine t_1 yrr_56 rfl (pb_goto (pc := 56) (by decide)) ?_
          show t_X d 239 60 lv5 [oI (-1)] g15 P
          refine t_2 yrr_60 rfl (w := (px_s1 lv5 3 (oI (-1)), [])) rfl ?_
          replace l0 : px_lg (px_s1 lv5 3 (oI (-1))) 0 = some (pvR 196) := s1_ne (by decide) (fun _ => rfl) l0
          replace l1 : px_lg (px_s1 lv5 3 (oI (-1))) 1 = some (oI (p)) := s1_ne (by decide) (fun _ => rfl) l1
          replace l2 : px_lg (px_s1 lv5 3 (oI (-1))) 2 = some (oI (v2)) := s1_ne (by decide) (fun _ => rfl) l2
          have l3 : px_lg (px_s1 lv5 3 (oI (-1))) 3 = some (oI (-1)) := s1_eq
          generalize px_s1 lv5 3 (oI (-1)) = lv24 at l0 l1 l2 l3 ⊢
          show t_X d 239 61 lv24 [] g15 P
          refine t_0 yrr_61 rfl (ld_a l0) ?_
          refine t_0 yrr_62 rfl (pq_cv eo_196 rfl (show cF g15 196 21 = v15 from S_f hS15 4 (Nat.le_of_ble_eq_true rfl))) ?_
          show t_X d 239 65 lv24 [oI (v15)] g15 P
          refine t_0 yrr_65 rfl (ld_i l2) ?_
          refine t_0 yrr_66 rfl pq_sub ?_
          refine t_0 yrr_67 rfl (ld_i l3) ?_
          refine t_0 yrr_68 rfl pq_mul ?_
          refine t_0 yrr_69 rfl rfl ?_
          refine t_0 yrr_70 rfl pq_add ?_
          refine t_2 yrr_71 rfl (w := (px_s1 lv24 4 (oI (((v15 - v2) * (-1)) + 1)), [])) rfl ?_
          replace l0 : px_lg (px_s1 lv24 4 (oI (((v15 - v2) * (-1)) + 1))) 0 = some (pvR 196) := s1_ne (by decide) (fun _ => rfl) l0
          replace l1 : px_lg (px_s1 lv24 4 (oI (((v15 - v2) * (-1)) + 1))) 1 = some (oI (p)) := s1_ne (by decide) (fun _ => rfl) l1
          replace l2 : px_lg (px_s1 lv24 4 (oI (((v15 - v2) * (-1)) + 1))) 2 = some (oI (v2)) := s1_ne (by decide) (fun _ => rfl) l2
          replace l3 : px_lg (px_s1 lv24 4 (oI (((v15 - v2) * (-1)) + 1))) 3 = some (oI (-1)) := s1_ne (by decide) (fun _ => rfl) l3
          have l4 : px_lg (px_s1 lv24 4 (oI (((v15 - v2) * (-1)) + 1))) 4 = some (oI (((v15 - v2) * (-1)) + 1)) := s1_eq
          generalize px_s1 lv24 4 (oI (((v15 - v2) * (-1)) + 1)) = lv25 at l0 l1 l2 l3 l4 ⊢
          show t_X d 239 73 lv25 [] g15 P
          refine t_0 yrr_73 rfl (ld_a l0) ?_
          refine t_0 yrr_74 rfl (pq_cv eo_196 rfl (show cF g15 196 25 = m from S_f hS15 1 (Nat.le_of_ble_eq_true rfl))) ?_
          show t_X d 239 77 lv25 [oI (m)] g15 P
          refine t_0 yrr_77 rfl (ld_i l4) ?_
          refine t_0 yrr_79 rfl pq_add ?_
          refine t_0 yrr_80 rfl (pq_b (by decide)) ?_
          refine tb_le yrr_82 (by decide) ⟨by omega, by omega⟩ ⟨by omega, by omega⟩ (fun c26 => ?_) (fun c26 => ?_)
          · show t_X d 239 93 lv25 [] g15 P
            refine t_0 yrr_93 rfl rfl ?_
            refine t_2 yrr_94 rfl (w := (px_s1 lv25 5 (oI 0), [])) rfl ?_
            replace l0 : px_lg (px_s1 lv25 5 (oI 0)) 0 = some (pvR 196) := s1_ne (by decide) (fun _ => rfl) l0
            replace l1 : px_lg (px_s1 lv25 5 (oI 0)) 1 = some (oI (p)) := s1_ne (by decide) (fun _ => rfl) l1
            replace l2 : px_lg (px_s1 lv25 5 (oI 0)) 2 = some (oI (v2)) := s1_ne (by decide) (fun _ => rfl) l2
            replace l3 : px_lg (px_s1 lv25 5 (oI 0)) 3 = some (oI (-1)) := s1_ne (by decide) (fun _ => rfl) l3
            replace l4 : px_lg (px_s1 lv25 5 (oI 0)) 4 = some (oI (((v15 - v2) * (-1)) + 1)) := s1_ne (by decide) (fun _ => rfl) l4
            have l5 : px_lg (px_s1 lv25 5 (oI 0)) 5 = some (oI 0) := s1_eq
            generalize px_s1 lv25 5 (oI 0) = lv27 at l0 l1 l2 l3 l4 l5 ⊢
            show t_X d 239 96 lv27 [] g15 P
            replace l4 : px_lg lv27 4 = some (oI (v2 - v15 + 1)) := l4.trans (congrArg (fun x => some (oI x)) (by omega))
            refine nl_m hB (a := v2) (z := v15) (m := m) ⟨by omega, by omega, by omega, by omega, by omega⟩ ⟨by omega, by omega⟩ (c0 := c) (fun g1 c1 h1 h2 h3 => ?_) 40 0 _ _ (by omega) (by omega) hS15 ⟨fun j _ => rfl, fun i hi => absurd hi (by omega)⟩ l0 l1 l2 l3 l4 l5
            have ew : tW v2 v15 = v2 - v15 + 1 := by unfold tW; rw [if_neg (by omega)]
            rw [← ew] at h1 h3
            refine hO _ _ _ _ _ h1 (Or.inr ⟨_, _, t2, Or.inr ⟨by omega, Or.inr ⟨_, _, t15, Or.inr ⟨by omega, _, rfl, h2, fun k hk => by rw [h3 k hk, if_neg (by omega)]⟩⟩⟩⟩) (fun j hj => ?_)
            by_cases e : (j : Int) < m
            · rw [h2 j e]; exact hc j e
            · have := h3 (j - m).toNat (by omega)
              rw [show (m + ((j - m).toNat : Int)).toNat = j by omega] at this
              omega
          · show t_X d 239 85 lv25 [] g15 P
            refine t_0 yrr_85 rfl (ld_a l0) ?_
            refine t_0 yrr_86 rfl (pq_b (by decide)) ?_
            refine t_0 yrr_88 rfl (ld_i l1) ?_
            refine t_3 yrr_89 rfl (ar := ([pvR 196, oI 6, oI (p)], [])) (pcal_w (as := [oI (p), oI 6]) rfl rfl rfl eo_196) ⟨by omega, Nat.le_of_ble_eq_true rfl, Nat.le_of_ble_eq_true rfl, rfl⟩ ?_
            refine nw_run hB hS15 ⟨by omega, by omega⟩ ⟨by omega, by omega⟩ (fun g28 hS28 => ?_) rfl rfl rfl
            replace hS28 : nS g0 g28 q15 m s (-1000 * 6 - p) v15 c gf ga := hS28
            show t_X d 239 92 lv25 [oI 0] g28 P
            refine t_5 yrr_92 rfl rfl ?_
            have ew : tW v2 v15 = v2 - v15 + 1 := by unfold tW; rw [if_neg (by omega)]
            exact hF _ _ _ _ _ _ _ _ hS28 (Or.inr ⟨_, _, t2, Or.inr ⟨by omega, Or.inr ⟨_, _, t15, Or.inl ⟨by omega, by rw [show -1000 * 6 - p = -6000 - p by omega]⟩⟩⟩⟩)
theorem no_run {d : Nat} {g0 g : pH} {B : tC} {n : Int} (hB : nB g0 B n) {p m s ft u : Int} {c gf ga : tC} (hS : nS g0 g p m s ft u c gf ga) (hp : 0 ≤ p ∧ p ≤ n) (hm : 0 ≤ m ∧ m ≤ 60) (hs : 0 ≤ s ∧ s ≤ 4) {P : Option pv × pH → Prop} (hF : s = 4 → ∀ g1 : pH, nS g0 g1 p m s (-5000 - p) u c gf ga → P (some (oI 0), g1)) (hO : s < 4 → ∀ g1 : pH, nS g0 g1 (p + 1) m (s + 1) ft u c (updI gf s.toNat p) (updI ga s.toNat m) → P (some (oI 1), g1)) {lv : List (Nat × pv)} (l0 : px_lg lv 0 = some (pvR 196)) (hd : 1 ≤ d) : t_X d 230 0 lv [] g P := by
  have hn0 := hB.2.2.1
  have hn1 := hB.2.2.2
  have hH : ∀ q, 0 ≤ q → -1 ≤ tH B n q ∧ tH B n q ≤ 255 := fun q hq => tH_b (tp_b hB.2.1) (by omega) hq
  refine t_0 yog_0 rfl (ld_a l0) ?_
  refine t_0 yog_1 rfl (pq_cv eo_196 rfl (show cF g 196 26 = s from S_f hS 2 (Nat.le_of_ble_eq_true rfl))) ?_
  show t_X d 230 4 lv [oI (s)] g P
  refine t_0 yog_4 rfl rfl ?_
  refine tb_ne yog_5 (by decide) ⟨by omega, by omega⟩ ⟨by omega, by omega⟩ (fun c1 => ?_) (fun c1 => ?_)
  · show t_X d 230 18 lv [] g P
    refine t_0 yog_18 rfl (ld_a l0) ?_
    refine t_0 yog_19 rfl (cq_196_29 (S_J hS).1) ?_
    show t_X d 230 22 lv [pvR 214] g P
    refine t_0 yog_22 rfl (ld_a l0) ?_
    refine t_0 yog_23 rfl (pq_cv eo_196 rfl (show cF g 196 26 = s from S_f hS 2 (Nat.le_of_ble_eq_true rfl))) ?_
    show t_X d 230 26 lv [oI (s), pvR 214] g P
    refine t_0 yog_26 rfl (ld_a l0) ?_
    refine t_0 yog_27 rfl (pq_cv eo_196 rfl (show cF g 196 18 = p from S_f hS 0 (Nat.le_of_ble_eq_true rfl))) ?_
    show t_X d 230 30 lv [oI (p), oI (s), pvR 214] g P
    refine ts_a (n := 1) rfl rfl (by decide) yog_30 hS ez_214 rfl wu_nWr_214 gu_214 (by decide) ⟨by omega, by omega⟩ ⟨by omega, by omega⟩ (fun g2 hS2 => ?_)
    replace hS2 : nS g0 g2 p m s ft u c (updI gf s.toNat p) ga := hS2
    show t_X d 230 31 lv [] g2 P
    refine t_0 yog_31 rfl (ld_a l0) ?_
    refine t_0 yog_32 rfl (cq_196_30 (S_J hS2).1) ?_
    show t_X d 230 35 lv [pvR 215] g2 P
    refine t_0 yog_35 rfl (ld_a l0) ?_
    refine t_0 yog_36 rfl (pq_cv eo_196 rfl (show cF g2 196 26 = s from S_f hS2 2 (Nat.le_of_ble_eq_true rfl))) ?_
    show t_X d 230 39 lv [oI (s), pvR 215] g2 P
    refine t_0 yog_39 rfl (ld_a l0) ?_
    refine t_0 yog_40 rfl (pq_cv eo_196 rfl (show cF g2 196 25 = m from S_f hS2 1 (Nat.le_of_ble_eq_true rfl))) ?_
    show t_X d 230 43 lv [oI (m), oI (s), pvR 215] g2 P
    refine ts_a (n := 2) rfl rfl (by decide) yog_43 hS2 ez_215 rfl wu_nWr_215 gu_215 (by decide) ⟨by omega, by omega⟩ ⟨by omega, by omega⟩ (fun g3 hS3 => ?_)
    replace hS3 : nS g0 g3 p m s ft u c (updI gf s.toNat p) (updI ga s.toNat m) := hS3
    show t_X d 230 44 lv [] g3 P
    refine t_0 yog_44 rfl (ld_a l0) ?_
    refine t_0 yog_45 rfl (ld_a l0) ?_
    refine t_0 yog_46 rfl (pq_cv eo_196 rfl (show cF g3 196 26 = s from S_f hS3 2 (Nat.le_of_ble_eq_true rfl))) ?_
    show t_X d 230 49 lv [oI (s), pvR 196] g3 P
    refine t_0 yog_49 rfl rfl ?_
    refine t_0 yog_50 rfl pq_add ?_
    refine ts_f (n := 2) rfl rfl (by decide) yog_51 rfl eo_196 hS3 wt_nWr_196_26 gy_196_26 (by decide) ⟨by omega, by omega⟩ (fun g4 hS4 => ?_)
    replace hS4 : nS g0 g4 p m (s + 1) ft u c (updI gf s.toNat p) (updI ga s.toNat m) := hS4
    show t_X d 230 54 lv [] g4 P
    refine t_0 yog_54 rfl (ld_a l0) ?_
    refine t_0 yog_55 rfl (ld_a l0) ?_
    refine t_0 yog_56 rfl (pq_cv eo_196 rfl (show cF g4 196 18 = p from S_f hS4 0 (Nat.le_of_ble_eq_true rfl))) ?_
    show t_X d 230 59 lv [oI (p), pvR 196] g4 P
    refine t_0 yog_59 rfl rfl ?_
    refine t_0 yog_60 rfl pq_add ?_
    refine ts_f (n := 0) rfl rfl (by decide) yog_61 rfl eo_196 hS4 wt_nWr_196_18 gy_196_18 (by decide) ⟨by omega, by omega⟩ (fun g5 hS5 => ?_)
    replace hS5 : nS g0 g5 (p + 1) m (s + 1) ft u c (updI gf s.toNat p) (updI ga s.toNat m) := hS5
    show t_X d 230 64 lv [] g5 P
    refine t_0 yog_64 rfl rfl ?_
    refine t_5 yog_65 rfl rfl ?_
    exact hO (by omega) _ hS5
  · show t_X d 230 8 lv [] g P
    refine t_0 yog_8 rfl (ld_a l0) ?_
    refine t_0 yog_9 rfl rfl ?_
    refine t_0 yog_10 rfl (ld_a l0) ?_
    refine t_0 yog_11 rfl (pq_cv eo_196 rfl (show cF g 196 18 = p from S_f hS 0 (Nat.le_of_ble_eq_true rfl))) ?_
    show t_X d 230 14 lv [oI (p), oI 5, pvR 196] g P
    refine t_3 yog_14 rfl (ar := ([pvR 196, oI 5, oI (p)], [])) (pcal_w (as := [oI (p), oI 5]) rfl rfl rfl eo_196) ⟨by omega, Nat.le_of_ble_eq_true rfl, Nat.le_of_ble_eq_true rfl, rfl⟩ ?_
    refine nw_run hB hS ⟨by omega, by omega⟩ ⟨by omega, by omega⟩ (fun g6 hS6 => ?_) rfl rfl rfl
    replace hS6 : nS g0 g6 p m s (-1000 * 5 - p) u c gf ga := hS6
    show t_X d 230 17 lv [oI 0] g6 P
    refine t_5 yog_17 rfl rfl ?_
    exact hF (by omega) _ (by rw [show -5000 - p = -1000 * 5 - p by omega]; exact hS6)
set_option maxHeartbeats 2000000 in
theorem nc_l {d : Nat} {g0 : pH} {B : tC} {n : Int} (hB : nB g0 B n) {p m s ft u A w t : Int} (hA : 0 ≤ A ∧ 0 < w ∧ w ≤ w * t ∧ A + w * t ≤ 60) {c0 gf ga : tC} {P : Option pv × pH → Prop} (hO : ∀ (g1 : pH) (c1 : tC), nS g0 g1 p (A + w * t) s ft u c1 gf ga → (∀ j : Nat, (j : Int) < A + w → c1 j = c0 j) → (∀ j : Nat, A + w ≤ (j : Int) → (j : Int) < A + w * t → c1 j = c1 (j - w).toNat) → P (some (oI 1), g1)) : ∀ (y k : Nat) (g : pH) (lv : List (Nat × pv)) {c : tC}, w * t - (w + (k : Int)) ≤ y → w + (k : Int) ≤ w * t → nS g0 g p m s ft u c gf ga → ((∀ j : Nat, (j : Int) < A + w → c j = c0 j) ∧ ∀ j : Nat, A + w ≤ (j : Int) → (j : Int) < A + (w + (k : Int)) → c j = c (j - w).toNat) → px_lg lv 0 = some (pvR 196) → px_lg lv 1 = some (oI t) → px_lg lv 2 = some (oI A) → px_lg lv 3 = some (oI w) → px_lg lv 4 = some (oI (w + (k : Int))) → t_X d 175 110 lv [] g P := by
  intro y
  induction y with
  | zero =>
    intro k g lv c hy hk hS hc l0 l1 l2 l3 l4
    refine t_0 ycg_110 rfl (ld_i l4) ?_
    refine t_0 ycg_112 rfl (ld_i l3) ?_
    refine t_0 ycg_113 rfl (ld_i l1) ?_
    refine t_0 ycg_114 rfl pq_mul ?_
    refine tb_ge ycg_115 (by decide) ⟨by omega, by omega⟩ ⟨by omega, by omega⟩ (fun c1 => ?_) (fun c1 => absurd c1 (by omega))
    show t_X d 175 144 lv [] g P
    refine t_0 ycg_144 rfl (ld_a l0) ?_
    refine t_0 ycg_145 rfl (ld_i l2) ?_
    refine t_0 ycg_146 rfl (ld_i l3) ?_
    refine t_0 ycg_147 rfl (ld_i l1) ?_
    refine t_0 ycg_148 rfl pq_mul ?_
    refine t_0 ycg_149 rfl pq_add ?_
    refine ts_f (n := 1) rfl rfl (by decide) ycg_150 rfl eo_196 hS wt_nWr_196_25 gy_196_25 (by decide) ⟨by omega, by omega⟩ (fun g2 hS2 => ?_)
    replace hS2 : nS g0 g2 p (A + (w * t)) s ft u c gf ga := hS2
    show t_X d 175 153 lv [] g2 P
    refine t_0 ycg_153 rfl rfl ?_
    refine t_5 ycg_154 rfl rfl ?_
    exact hO _ _ hS2 hc.1 (fun j h1 h2 => hc.2 j h1 (by omega))
  | succ y ih =>
    intro k g lv c hy hk hS hc l0 l1 l2 l3 l4
    by_cases hkk : w + (k : Int) < w * t
    · skip
      refine t_0 ycg_110 rfl (ld_i l4) ?_
      refine t_0 ycg_112 rfl (ld_i l3) ?_
      refine t_0 ycg_113 rfl (ld_i l1) ?_
      refine t_0 ycg_114 rfl pq_mul ?_
      refine tb_ge ycg_115 (by decide) ⟨by omega, by omega⟩ ⟨by omega, by omega⟩ (fun c1 => absurd c1 (by omega)) (fun c1 => ?_)
      show t_X d 175 118 lv [] g P
      refine t_0 ycg_118 rfl (ld_a l0) ?_
      refine t_0 ycg_119 rfl (cq_196_28 (S_J hS).1) ?_
      show t_X d 175 122 lv [pvR 213] g P
      refine t_0 ycg_122 rfl (ld_i l2) ?_
      refine t_0 ycg_123 rfl (ld_i l4) ?_
      refine t_0 ycg_125 rfl pq_add ?_
      refine t_0 ycg_126 rfl (ld_a l0) ?_
      refine t_0 ycg_127 rfl (cq_196_28 (S_J hS).1) ?_
      show t_X d 175 130 lv [pvR 213, oI (A + (w + (k : Int))), pvR 213] g P
      refine t_0 ycg_130 rfl (ld_i l2) ?_
      refine t_0 ycg_131 rfl (ld_i l4) ?_
      refine t_0 ycg_133 rfl pq_add ?_
      refine t_0 ycg_134 rfl (ld_i l3) ?_
      refine t_0 ycg_135 rfl pq_sub ?_
      have r2 := pb_a (S_J hS).1 ez_213 (j := ((A + (w + (k : Int))) - w).toNat) (by omega) gu_213 (show fA g 213 = c from S_a hS 0 (Nat.le_of_ble_eq_true rfl))
      refine t_0 ycg_136 rfl (pq_iv ez_213 rfl ⟨by omega, by omega⟩ (show fA g 213 = c from S_a hS 0 (Nat.le_of_ble_eq_true rfl))) ?_
      show t_X d 175 137 lv [oI (c (((A + (w + (k : Int))) - w).toNat)), oI (A + (w + (k : Int))), pvR 213] g P
      refine ts_a (n := 0) rfl rfl (by decide) ycg_137 hS ez_213 rfl wu_nWr_213 gu_213 (by decide) ⟨by omega, by omega⟩ ⟨by omega, by omega⟩ (fun g3 hS3 => ?_)
      replace hS3 : nS g0 g3 p m s ft u (updI c (A + (w + (k : Int))).toNat (c (((A + (w + (k : Int))) - w).toNat))) gf ga := hS3
      show t_X d 175 138 lv [] g3 P
      refine t_2 ycg_138 rfl (w := (px_s1 lv 4 (oI ((w + (k : Int)) + 1)), [])) (pq_inc l4 (by decide)) ?_
      replace l0 : px_lg (px_s1 lv 4 (oI ((w + (k : Int)) + 1))) 0 = some (pvR 196) := s1_ne (by decide) (fun _ => rfl) l0
      replace l1 : px_lg (px_s1 lv 4 (oI ((w + (k : Int)) + 1))) 1 = some (oI (t)) := s1_ne (by decide) (fun _ => rfl) l1
      replace l2 : px_lg (px_s1 lv 4 (oI ((w + (k : Int)) + 1))) 2 = some (oI (A)) := s1_ne (by decide) (fun _ => rfl) l2
      replace l3 : px_lg (px_s1 lv 4 (oI ((w + (k : Int)) + 1))) 3 = some (oI (w)) := s1_ne (by decide) (fun _ => rfl) l3
      have l4 : px_lg (px_s1 lv 4 (oI ((w + (k : Int)) + 1))) 4 = some (oI ((w + (k : Int)) + 1)) := s1_eq
      generalize px_s1 lv 4 (oI ((w + (k : Int)) + 1)) = lv4 at l0 l1 l2 l3 l4 ⊢
      show t_X d 175 141 lv4 [] g3 P
      refine t_1 ycg_141 rfl (pb_goto (pc := 141) (by decide)) ?_
      show t_X d 175 110 lv4 [] g3 P
      refine ih (k + 1) _ _ (by omega) (by omega) hS3 ⟨fun j hj => ?_, fun j hj1 hj2 => ?_⟩ l0 l1 l2 l3 (l4.trans (congrArg (fun x => some (oI x)) (by omega)))
      · unfold updI
        rw [if_neg (by omega)]
        exact hc.1 j hj
      · unfold updI
        by_cases e : j = (A + (w + (k : Int))).toNat
        · rw [if_pos e, if_neg (by omega)]; exact congrArg c (by omega)
        · rw [if_neg e, if_neg (by omega)]; exact hc.2 j hj1 (by omega)
    · skip
      refine t_0 ycg_110 rfl (ld_i l4) ?_
      refine t_0 ycg_112 rfl (ld_i l3) ?_
      refine t_0 ycg_113 rfl (ld_i l1) ?_
      refine t_0 ycg_114 rfl pq_mul ?_
      refine tb_ge ycg_115 (by decide) ⟨by omega, by omega⟩ ⟨by omega, by omega⟩ (fun c1 => ?_) (fun c1 => absurd c1 (by omega))
      show t_X d 175 144 lv [] g P
      refine t_0 ycg_144 rfl (ld_a l0) ?_
      refine t_0 ycg_145 rfl (ld_i l2) ?_
      refine t_0 ycg_146 rfl (ld_i l3) ?_
      refine t_0 ycg_147 rfl (ld_i l1) ?_
      refine t_0 ycg_148 rfl pq_mul ?_
      refine t_0 ycg_149 rfl pq_add ?_
      refine ts_f (n := 1) rfl rfl (by decide) ycg_150 rfl eo_196 hS wt_nWr_196_25 gy_196_25 (by decide) ⟨by omega, by omega⟩ (fun g2 hS2 => ?_)
      replace hS2 : nS g0 g2 p (A + (w * t)) s ft u c gf ga := hS2
      show t_X d 175 153 lv [] g2 P
      refine t_0 ycg_153 rfl rfl ?_
      refine t_5 ycg_154 rfl rfl ?_
      exact hO _ _ hS2 hc.1 (fun j h1 h2 => hc.2 j h1 (by omega))
set_option maxHeartbeats 4000000 in
theorem nc_run {d : Nat} (hd : 3 ≤ d) {g0 g : pH} {B : tC} {n : Int} (hB : nB g0 B n) {p m s ft u : Int} {c gf ga : tC} (hS : nS g0 g p m s ft u c gf ga) (hp : 0 ≤ p ∧ p ≤ n) (hh : tH B n p = 41) {p0 m0 : Int} (hm : 0 ≤ m0 ∧ m0 < m ∧ m ≤ 60) (hp0 : 0 ≤ p0 ∧ p0 ≤ 120) (hs : 0 < s ∧ s ≤ 4) (hgf : gf (s - 1).toNat = p0) (hga : ga (s - 1).toNat = m0) (hc : ∀ j : Nat, (j : Int) < m → 0 ≤ c j ∧ c j ≤ 31) {P : Option pv × pH → Prop} (hF : ∀ (g1 : pH) (f q s1 u1 : Int), nS g0 g1 q m s1 f u1 c gf ga → tEn (tH B n) p0 m0 p m c (.inl f) → P (some (oI 0), g1)) (hO : ∀ (g1 : pH) (m2 : Int) (c2 : tC), nS g0 g1 (p + 2) m2 (s - 1) ft u c2 gf ga → tEn (tH B n) p0 m0 p m c (.inr (p + 2, m2, c2)) → (∀ j : Nat, (j : Int) < m2 → 0 ≤ c2 j ∧ c2 j ≤ 31) → P (some (oI 1), g1)) {lv : List (Nat × pv)} (l0 : px_lg lv 0 = some (pvR 196)) : t_X d 175 0 lv [] g P := by
  have hn0 := hB.2.2.1
  have hn1 := hB.2.2.2
  have hH : ∀ q, 0 ≤ q → -1 ≤ tH B n q ∧ tH B n q ≤ 255 := fun q hq => tH_b (tp_b hB.2.1) (by omega) hq
  have z0 := tH_n (B := B) (n := n) (p := p)
  refine t_0 ycg_0 rfl (ld_a l0) ?_
  refine t_0 ycg_1 rfl (ld_a l0) ?_
  refine t_0 ycg_2 rfl (pq_cv eo_196 rfl (show cF g 196 18 = p from S_f hS 0 (Nat.le_of_ble_eq_true rfl))) ?_
  show t_X d 175 5 lv [oI (p), pvR 196] g P
  refine t_0 ycg_5 rfl rfl ?_
  refine t_0 ycg_6 rfl pq_add ?_
  refine ts_f (n := 0) rfl rfl (by decide) ycg_7 rfl eo_196 hS wt_nWr_196_18 gy_196_18 (by decide) ⟨by omega, by omega⟩ (fun g1 hS1 => ?_)
  replace hS1 : nS g0 g1 (p + 1) m s ft u c gf ga := hS1
  show t_X d 175 10 lv [] g1 P
  refine t_0 ycg_10 rfl (ld_a l0) ?_
  refine t_3 ycg_11 rfl (ar := ([pvR 196], [])) (pcal_w (as := []) rfl rfl rfl eo_196) ⟨by omega, Nat.le_of_ble_eq_true rfl, Nat.le_of_ble_eq_true rfl, rfl⟩ ?_
  have b2 := hH (p + 1) (by omega)
  have z2 := tH_n (B := B) (n := n) (p := p + 1)
  refine nd_run (by omega) hB hS1 (by omega) (fun t2 => ?_) (fun t2 => ?_) rfl
  · unfold tDg at t2
    show t_X d 175 14 lv [oI 1] g1 P
    refine tz_eq ycg_14 (by decide) ⟨by omega, by omega⟩ (fun c3 => absurd c3 (by omega)) (fun c3 => ?_)
    show t_X d 175 17 lv [] g1 P
    refine t_0 ycg_17 rfl (ld_a l0) ?_
    refine t_3 ycg_18 rfl (ar := ([pvR 196], [])) (pcal_w (as := []) rfl rfl rfl eo_196) ⟨by omega, Nat.le_of_ble_eq_true rfl, Nat.le_of_ble_eq_true rfl, rfl⟩ ?_
    refine nh_run hB hS1 (by omega) ?_ rfl
    show t_X d 175 21 lv [oI (tH B n (p + 1))] g1 P
    refine t_0 ycg_21 rfl (pq_b (by decide)) ?_
    refine tb_ge ycg_23 (by decide) ⟨by omega, by omega⟩ ⟨by omega, by omega⟩ (fun c4 => ?_) (fun c4 => ?_)
    · show t_X d 175 36 lv [] g1 P
      refine t_0 ycg_36 rfl (ld_a l0) ?_
      refine t_3 ycg_37 rfl (ar := ([pvR 196], [])) (pcal_w (as := []) rfl rfl rfl eo_196) ⟨by omega, Nat.le_of_ble_eq_true rfl, Nat.le_of_ble_eq_true rfl, rfl⟩ ?_
      refine nh_run hB hS1 (by omega) ?_ rfl
      show t_X d 175 40 lv [oI (tH B n (p + 1))] g1 P
      refine t_0 ycg_40 rfl (pq_b (by decide)) ?_
      refine t_0 ycg_42 rfl pq_sub ?_
      refine t_2 ycg_43 rfl (w := (px_s1 lv 1 (oI ((tH B n (p + 1)) - 48)), [])) rfl ?_
      replace l0 : px_lg (px_s1 lv 1 (oI ((tH B n (p + 1)) - 48))) 0 = some (pvR 196) := s1_ne (by decide) (fun _ => rfl) l0
      have l1 : px_lg (px_s1 lv 1 (oI ((tH B n (p + 1)) - 48))) 1 = some (oI ((tH B n (p + 1)) - 48)) := s1_eq
      generalize px_s1 lv 1 (oI ((tH B n (p + 1)) - 48)) = lv5 at l0 l1 ⊢
      show t_X d 175 44 lv5 [] g1 P
      refine t_0 ycg_44 rfl (ld_a l0) ?_
      refine t_0 ycg_45 rfl (ld_a l0) ?_
      refine t_0 ycg_46 rfl (pq_cv eo_196 rfl (show cF g1 196 18 = p + 1 from S_f hS1 0 (Nat.le_of_ble_eq_true rfl))) ?_
      show t_X d 175 49 lv5 [oI (p + 1), pvR 196] g1 P
      refine t_0 ycg_49 rfl rfl ?_
      refine t_0 ycg_50 rfl pq_add ?_
      refine ts_f (n := 0) rfl rfl (by decide) ycg_51 rfl eo_196 hS1 wt_nWr_196_18 gy_196_18 (by decide) ⟨by omega, by omega⟩ (fun g6 hS6 => ?_)
      replace hS6 : nS g0 g6 ((p + 1) + 1) m s ft u c gf ga := hS6
      show t_X d 175 54 lv5 [] g6 P
      refine t_0 ycg_54 rfl (ld_a l0) ?_
      refine t_0 ycg_55 rfl (ld_a l0) ?_
      refine t_0 ycg_56 rfl (pq_cv eo_196 rfl (show cF g6 196 26 = s from S_f hS6 2 (Nat.le_of_ble_eq_true rfl))) ?_
      show t_X d 175 59 lv5 [oI (s), pvR 196] g6 P
      refine t_0 ycg_59 rfl rfl ?_
      refine t_0 ycg_60 rfl pq_sub ?_
      refine ts_f (n := 2) rfl rfl (by decide) ycg_61 rfl eo_196 hS6 wt_nWr_196_26 gy_196_26 (by decide) ⟨by omega, by omega⟩ (fun g7 hS7 => ?_)
      replace hS7 : nS g0 g7 ((p + 1) + 1) m (s - 1) ft u c gf ga := hS7
      show t_X d 175 64 lv5 [] g7 P
      refine t_0 ycg_64 rfl (ld_a l0) ?_
      refine t_0 ycg_65 rfl (cq_196_30 (S_J hS7).1) ?_
      show t_X d 175 68 lv5 [pvR 215] g7 P
      refine t_0 ycg_68 rfl (ld_a l0) ?_
      refine t_0 ycg_69 rfl (pq_cv eo_196 rfl (show cF g7 196 26 = s - 1 from S_f hS7 2 (Nat.le_of_ble_eq_true rfl))) ?_
      show t_X d 175 72 lv5 [oI (s - 1), pvR 215] g7 P
      have x8 : ga (s - 1).toNat = m0 := hga
      refine t_0 ycg_72 rfl (pq_iv ez_215 rfl ⟨by omega, by omega⟩ (show fA g7 215 = ga from S_a hS7 2 (Nat.le_of_ble_eq_true rfl))) ?_
      rw [x8]
      show t_X d 175 73 lv5 [oI (m0)] g7 P
      refine t_2 ycg_73 rfl (w := (px_s1 lv5 2 (oI (m0)), [])) rfl ?_
      replace l0 : px_lg (px_s1 lv5 2 (oI (m0))) 0 = some (pvR 196) := s1_ne (by decide) (fun _ => rfl) l0
      replace l1 : px_lg (px_s1 lv5 2 (oI (m0))) 1 = some (oI ((tH B n (p + 1)) - 48)) := s1_ne (by decide) (fun _ => rfl) l1
      have l2 : px_lg (px_s1 lv5 2 (oI (m0))) 2 = some (oI (m0)) := s1_eq
      generalize px_s1 lv5 2 (oI (m0)) = lv9 at l0 l1 l2 ⊢
      show t_X d 175 74 lv9 [] g7 P
      refine t_0 ycg_74 rfl (ld_a l0) ?_
      refine t_0 ycg_75 rfl (pq_cv eo_196 rfl (show cF g7 196 25 = m from S_f hS7 1 (Nat.le_of_ble_eq_true rfl))) ?_
      show t_X d 175 78 lv9 [oI (m)] g7 P
      refine t_0 ycg_78 rfl (ld_i l2) ?_
      refine t_0 ycg_79 rfl pq_sub ?_
      refine t_2 ycg_80 rfl (w := (px_s1 lv9 3 (oI (m - m0)), [])) rfl ?_
      replace l0 : px_lg (px_s1 lv9 3 (oI (m - m0))) 0 = some (pvR 196) := s1_ne (by decide) (fun _ => rfl) l0
      replace l1 : px_lg (px_s1 lv9 3 (oI (m - m0))) 1 = some (oI ((tH B n (p + 1)) - 48)) := s1_ne (by decide) (fun _ => rfl) l1
      replace l2 : px_lg (px_s1 lv9 3 (oI (m - m0))) 2 = some (oI (m0)) := s1_ne (by decide) (fun _ => rfl) l2
      have l3 : px_lg (px_s1 lv9 3 (oI (m - m0))) 3 = some (oI (m - m0)) := s1_eq
      generalize px_s1 lv9 3 (oI (m - m0)) = lv10 at l0 l1 l2 l3 ⊢
      show t_X d 175 81 lv10 [] g7 P
      have m1 : (m - m0) * 1 ≤ (m - m0) * ((tH B n (p + 1)) - 48) := Int.mul_le_mul_of_nonneg_left (by omega) (by omega)
      have m2 : (m - m0) * ((tH B n (p + 1)) - 48) ≤ (m - m0) * 9 := Int.mul_le_mul_of_nonneg_left (by omega) (by omega)
      refine t_0 ycg_81 rfl (ld_i l2) ?_
      refine t_0 ycg_82 rfl (ld_i l3) ?_
      refine t_0 ycg_83 rfl (ld_i l1) ?_
      refine t_0 ycg_84 rfl pq_mul ?_
      refine t_0 ycg_85 rfl pq_add ?_
      refine t_0 ycg_86 rfl (pq_b (by decide)) ?_
      refine tb_le ycg_88 (by decide) ⟨by omega, by omega⟩ ⟨by omega, by omega⟩ (fun c11 => ?_) (fun c11 => ?_)
      · show t_X d 175 107 lv10 [] g7 P
        refine t_0 ycg_107 rfl (ld_i l3) ?_
        refine t_2 ycg_108 rfl (w := (px_s1 lv10 4 (oI (m - m0)), [])) rfl ?_
        replace l0 : px_lg (px_s1 lv10 4 (oI (m - m0))) 0 = some (pvR 196) := s1_ne (by decide) (fun _ => rfl) l0
        replace l1 : px_lg (px_s1 lv10 4 (oI (m - m0))) 1 = some (oI ((tH B n (p + 1)) - 48)) := s1_ne (by decide) (fun _ => rfl) l1
        replace l2 : px_lg (px_s1 lv10 4 (oI (m - m0))) 2 = some (oI (m0)) := s1_ne (by decide) (fun _ => rfl) l2
        replace l3 : px_lg (px_s1 lv10 4 (oI (m - m0))) 3 = some (oI (m - m0)) := s1_ne (by decide) (fun _ => rfl) l3
        have l4 : px_lg (px_s1 lv10 4 (oI (m - m0))) 4 = some (oI (m - m0)) := s1_eq
        generalize px_s1 lv10 4 (oI (m - m0)) = lv12 at l0 l1 l2 l3 l4 ⊢
        show t_X d 175 110 lv12 [] g7 P
        refine nc_l hB (t := (tH B n (p + 1)) - 48) (A := m0) (w := m - m0) ⟨by omega, by omega, by omega, by omega⟩ (c0 := c) (fun g9 c9 h1 h2 h3 => ?_) 60 0 _ _ (by omega) (by omega) hS7 ⟨fun j _ => rfl, fun j h1 h2 => absurd h2 (by omega)⟩ l0 l1 l2 l3 (l4.trans (congrArg (fun x => some (oI x)) (by omega)))
        refine hO _ _ _ (show nS g0 g9 (p + 2) (m0 + (m - m0) * (tH B n (p + 1) - 48)) (s - 1) ft u c9 gf ga by rw [show p + 2 = p + 1 + 1 by omega]; exact h1) (Or.inr (Or.inr ⟨hh, ⟨by omega, by omega⟩, Or.inr ⟨by omega, _, rfl, fun j hj => h2 j (by omega), fun j hj1 hj2 => h3 j (by omega) hj2⟩⟩)) (fun j => ?_)
        induction j using Nat.strongRecOn with
        | ind j ihj =>
          intro hj
          by_cases e : (j : Int) < m
          · rw [h2 j (by omega)]; exact hc j e
          · rw [h3 j (by omega) hj]; exact ihj _ (by omega) (by omega)
      · show t_X d 175 91 lv10 [] g7 P
        refine t_0 ycg_91 rfl (ld_a l0) ?_
        refine t_0 ycg_92 rfl (pq_b (by decide)) ?_
        refine t_0 ycg_94 rfl (ld_a l0) ?_
        refine t_0 ycg_95 rfl (cq_196_29 (S_J hS7).1) ?_
        show t_X d 175 98 lv10 [pvR 214, oI 6, pvR 196] g7 P
        refine t_0 ycg_98 rfl (ld_a l0) ?_
        refine t_0 ycg_99 rfl (pq_cv eo_196 rfl (show cF g7 196 26 = s - 1 from S_f hS7 2 (Nat.le_of_ble_eq_true rfl))) ?_
        show t_X d 175 102 lv10 [oI (s - 1), pvR 214, oI 6, pvR 196] g7 P
        have x13 : gf (s - 1).toNat = p0 := hgf
        refine t_0 ycg_102 rfl (pq_iv ez_214 rfl ⟨by omega, by omega⟩ (show fA g7 214 = gf from S_a hS7 1 (Nat.le_of_ble_eq_true rfl))) ?_
        rw [x13]
        show t_X d 175 103 lv10 [oI (p0), oI 6, pvR 196] g7 P
        refine t_3 ycg_103 rfl (ar := ([pvR 196, oI 6, oI (p0)], [])) (pcal_w (as := [oI (p0), oI 6]) rfl rfl rfl eo_196) ⟨by omega, Nat.le_of_ble_eq_true rfl, Nat.le_of_ble_eq_true rfl, rfl⟩ ?_
        refine nw_run hB hS7 ⟨by omega, by omega⟩ ⟨by omega, by omega⟩ (fun g14 hS14 => ?_) rfl rfl rfl
        replace hS14 : nS g0 g14 ((p + 1) + 1) m (s - 1) (-1000 * 6 - p0) u c gf ga := hS14
        show t_X d 175 106 lv10 [oI 0] g14 P
        refine t_5 ycg_106 rfl rfl ?_
        exact hF _ _ _ _ _ hS14 (Or.inr (Or.inr ⟨hh, ⟨by omega, by omega⟩, Or.inl ⟨by omega, by rw [show -1000 * 6 - p0 = -6000 - p0 by omega]⟩⟩))
    · show t_X d 175 26 lv [] g1 P
      refine t_0 ycg_26 rfl (ld_a l0) ?_
      refine t_0 ycg_27 rfl rfl ?_
      refine t_0 ycg_28 rfl (ld_a l0) ?_
      refine t_0 ycg_29 rfl (pq_cv eo_196 rfl (show cF g1 196 18 = p + 1 from S_f hS1 0 (Nat.le_of_ble_eq_true rfl))) ?_
      show t_X d 175 32 lv [oI (p + 1), oI 1, pvR 196] g1 P
      refine t_3 ycg_32 rfl (ar := ([pvR 196, oI 1, oI (p + 1)], [])) (pcal_w (as := [oI (p + 1), oI 1]) rfl rfl rfl eo_196) ⟨by omega, Nat.le_of_ble_eq_true rfl, Nat.le_of_ble_eq_true rfl, rfl⟩ ?_
      refine nw_run hB hS1 ⟨by omega, by omega⟩ ⟨by omega, by omega⟩ (fun g15 hS15 => ?_) rfl rfl rfl
      replace hS15 : nS g0 g15 (p + 1) m s (-1000 * 1 - (p + 1)) u c gf ga := hS15
      show t_X d 175 35 lv [oI 0] g15 P
      refine t_5 ycg_35 rfl rfl ?_
      exact hF _ _ _ _ _ hS15 (Or.inr (Or.inl ⟨hh, by omega, by rw [show -1000 * 1 - (p + 1) = -1000 - (p + 1) by omega]⟩))
  · unfold tDg at t2
    show t_X d 175 14 lv [oI 0] g1 P
    refine tz_eq ycg_14 (by decide) ⟨by omega, by omega⟩ (fun c16 => ?_) (fun c16 => absurd c16 (by omega))
    show t_X d 175 26 lv [] g1 P
    refine t_0 ycg_26 rfl (ld_a l0) ?_
    refine t_0 ycg_27 rfl rfl ?_
    refine t_0 ycg_28 rfl (ld_a l0) ?_
    refine t_0 ycg_29 rfl (pq_cv eo_196 rfl (show cF g1 196 18 = p + 1 from S_f hS1 0 (Nat.le_of_ble_eq_true rfl))) ?_
    show t_X d 175 32 lv [oI (p + 1), oI 1, pvR 196] g1 P
    refine t_3 ycg_32 rfl (ar := ([pvR 196, oI 1, oI (p + 1)], [])) (pcal_w (as := [oI (p + 1), oI 1]) rfl rfl rfl eo_196) ⟨by omega, Nat.le_of_ble_eq_true rfl, Nat.le_of_ble_eq_true rfl, rfl⟩ ?_
    refine nw_run hB hS1 ⟨by omega, by omega⟩ ⟨by omega, by omega⟩ (fun g17 hS17 => ?_) rfl rfl rfl
    replace hS17 : nS g0 g17 (p + 1) m s (-1000 * 1 - (p + 1)) u c gf ga := hS17
    show t_X d 175 35 lv [oI 0] g17 P
    refine t_5 ycg_35 rfl rfl ?_
    exact hF _ _ _ _ _ hS17 (Or.inr (Or.inl ⟨hh, by omega, by rw [show -1000 * 1 - (p + 1) = -1000 - (p + 1) by omega]⟩))
