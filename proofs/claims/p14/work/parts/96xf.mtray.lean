section
/-! reference: the tray's text, exactly (printed by wip/e2/u2.py) -/
theorem ycg_0 : xe_look (xc 175) 0 = some (.aload_n 0, 1, 0, 0, 0) := by decide +kernel
theorem ycg_1 : xe_look (xc 175) 1 = some (.aload_n 0, 1, 0, 0, 0) := by decide +kernel
theorem ycg_2 : xe_look (xc 175) 2 = some (.getfield 242, 3, 12, 18, 1135) := by decide +kernel
theorem ycg_5 : xe_look (xc 175) 5 = some (.iconst 1, 1, 0, 0, 0) := by decide +kernel
theorem ycg_6 : xe_look (xc 175) 6 = some (.iadd, 1, 0, 0, 0) := by decide +kernel
theorem ycg_7 : xe_look (xc 175) 7 = some (.putfield 242, 3, 12, 18, 1135) := by decide +kernel
theorem ycg_10 : xe_look (xc 175) 10 = some (.aload_n 0, 1, 0, 0, 0) := by decide +kernel
theorem ycg_11 : xe_look (xc 175) 11 = some (.invokevirtual 248, 3, 0, 203, 1136) := by decide +kernel
theorem ycg_14 : xe_look (xc 175) 14 = some (.ifCond .eq 12, 3, 0, 0, 0) := by decide +kernel
theorem ycg_17 : xe_look (xc 175) 17 = some (.aload_n 0, 1, 0, 0, 0) := by decide +kernel
theorem ycg_18 : xe_look (xc 175) 18 = some (.invokevirtual 252, 3, 0, 198, 1137) := by decide +kernel
theorem ycg_21 : xe_look (xc 175) 21 = some (.bipush 50, 2, 0, 0, 0) := by decide +kernel
theorem ycg_23 : xe_look (xc 175) 23 = some (.if_icmp .ge 13, 3, 0, 0, 0) := by decide +kernel
theorem ycg_26 : xe_look (xc 175) 26 = some (.aload_n 0, 1, 0, 0, 0) := by decide +kernel
theorem ycg_27 : xe_look (xc 175) 27 = some (.iconst 1, 1, 0, 0, 0) := by decide +kernel
theorem ycg_28 : xe_look (xc 175) 28 = some (.aload_n 0, 1, 0, 0, 0) := by decide +kernel
theorem ycg_29 : xe_look (xc 175) 29 = some (.getfield 242, 3, 12, 18, 1135) := by decide +kernel
theorem ycg_32 : xe_look (xc 175) 32 = some (.invokevirtual 256, 3, 0, 274, 1138) := by decide +kernel
theorem ycg_35 : xe_look (xc 175) 35 = some (.ireturn, 1, 0, 0, 0) := by decide +kernel
theorem ycg_36 : xe_look (xc 175) 36 = some (.aload_n 0, 1, 0, 0, 0) := by decide +kernel
theorem ycg_37 : xe_look (xc 175) 37 = some (.invokevirtual 252, 3, 0, 198, 1137) := by decide +kernel
theorem ycg_40 : xe_look (xc 175) 40 = some (.bipush 48, 2, 0, 0, 0) := by decide +kernel
theorem ycg_42 : xe_look (xc 175) 42 = some (.isub, 1, 0, 0, 0) := by decide +kernel
theorem ycg_43 : xe_look (xc 175) 43 = some (.istore_n 1, 1, 0, 0, 0) := by decide +kernel
theorem ycg_44 : xe_look (xc 175) 44 = some (.aload_n 0, 1, 0, 0, 0) := by decide +kernel
theorem ycg_45 : xe_look (xc 175) 45 = some (.aload_n 0, 1, 0, 0, 0) := by decide +kernel
theorem ycg_46 : xe_look (xc 175) 46 = some (.getfield 242, 3, 12, 18, 1135) := by decide +kernel
theorem ycg_49 : xe_look (xc 175) 49 = some (.iconst 1, 1, 0, 0, 0) := by decide +kernel
theorem ycg_50 : xe_look (xc 175) 50 = some (.iadd, 1, 0, 0, 0) := by decide +kernel
theorem ycg_51 : xe_look (xc 175) 51 = some (.putfield 242, 3, 12, 18, 1135) := by decide +kernel
theorem ycg_54 : xe_look (xc 175) 54 = some (.aload_n 0, 1, 0, 0, 0) := by decide +kernel
theorem ycg_55 : xe_look (xc 175) 55 = some (.aload_n 0, 1, 0, 0, 0) := by decide +kernel
theorem ycg_56 : xe_look (xc 175) 56 = some (.getfield 265, 3, 12, 26, 1139) := by decide +kernel
theorem ycg_59 : xe_look (xc 175) 59 = some (.iconst 1, 1, 0, 0, 0) := by decide +kernel
theorem ycg_60 : xe_look (xc 175) 60 = some (.isub, 1, 0, 0, 0) := by decide +kernel
theorem ycg_61 : xe_look (xc 175) 61 = some (.putfield 265, 3, 12, 26, 1139) := by decide +kernel
theorem ycg_64 : xe_look (xc 175) 64 = some (.aload_n 0, 1, 0, 0, 0) := by decide +kernel
theorem ycg_65 : xe_look (xc 175) 65 = some (.getfield 65, 3, 12, 30, 1140) := by decide +kernel
theorem ycg_68 : xe_look (xc 175) 68 = some (.aload_n 0, 1, 0, 0, 0) := by decide +kernel
theorem ycg_69 : xe_look (xc 175) 69 = some (.getfield 265, 3, 12, 26, 1139) := by decide +kernel
theorem ycg_72 : xe_look (xc 175) 72 = some (.iaload, 1, 0, 0, 0) := by decide +kernel
theorem ycg_73 : xe_look (xc 175) 73 = some (.istore_n 2, 1, 0, 0, 0) := by decide +kernel
theorem ycg_74 : xe_look (xc 175) 74 = some (.aload_n 0, 1, 0, 0, 0) := by decide +kernel
theorem ycg_75 : xe_look (xc 175) 75 = some (.getfield 262, 3, 12, 25, 1141) := by decide +kernel
theorem ycg_78 : xe_look (xc 175) 78 = some (.iload_n 2, 1, 0, 0, 0) := by decide +kernel
theorem ycg_79 : xe_look (xc 175) 79 = some (.isub, 1, 0, 0, 0) := by decide +kernel
theorem ycg_80 : xe_look (xc 175) 80 = some (.istore_n 3, 1, 0, 0, 0) := by decide +kernel
theorem ycg_81 : xe_look (xc 175) 81 = some (.iload_n 2, 1, 0, 0, 0) := by decide +kernel
theorem ycg_82 : xe_look (xc 175) 82 = some (.iload_n 3, 1, 0, 0, 0) := by decide +kernel
theorem ycg_83 : xe_look (xc 175) 83 = some (.iload_n 1, 1, 0, 0, 0) := by decide +kernel
theorem ycg_84 : xe_look (xc 175) 84 = some (.imul, 1, 0, 0, 0) := by decide +kernel
theorem ycg_85 : xe_look (xc 175) 85 = some (.iadd, 1, 0, 0, 0) := by decide +kernel
theorem ycg_86 : xe_look (xc 175) 86 = some (.bipush 60, 2, 0, 0, 0) := by decide +kernel
theorem ycg_88 : xe_look (xc 175) 88 = some (.if_icmp .le 19, 3, 0, 0, 0) := by decide +kernel
theorem ycg_91 : xe_look (xc 175) 91 = some (.aload_n 0, 1, 0, 0, 0) := by decide +kernel
theorem ycg_92 : xe_look (xc 175) 92 = some (.bipush 6, 2, 0, 0, 0) := by decide +kernel
theorem ycg_94 : xe_look (xc 175) 94 = some (.aload_n 0, 1, 0, 0, 0) := by decide +kernel
theorem ycg_95 : xe_look (xc 175) 95 = some (.getfield 62, 3, 12, 29, 1142) := by decide +kernel
theorem ycg_98 : xe_look (xc 175) 98 = some (.aload_n 0, 1, 0, 0, 0) := by decide +kernel
theorem ycg_99 : xe_look (xc 175) 99 = some (.getfield 265, 3, 12, 26, 1139) := by decide +kernel
theorem ycg_102 : xe_look (xc 175) 102 = some (.iaload, 1, 0, 0, 0) := by decide +kernel
theorem ycg_103 : xe_look (xc 175) 103 = some (.invokevirtual 256, 3, 0, 274, 1138) := by decide +kernel
theorem ycg_106 : xe_look (xc 175) 106 = some (.ireturn, 1, 0, 0, 0) := by decide +kernel
theorem ycg_107 : xe_look (xc 175) 107 = some (.iload_n 3, 1, 0, 0, 0) := by decide +kernel
theorem ycg_108 : xe_look (xc 175) 108 = some (.istore 4, 2, 0, 0, 0) := by decide +kernel
theorem ycg_110 : xe_look (xc 175) 110 = some (.iload 4, 2, 0, 0, 0) := by decide +kernel
theorem ycg_112 : xe_look (xc 175) 112 = some (.iload_n 3, 1, 0, 0, 0) := by decide +kernel
theorem ycg_113 : xe_look (xc 175) 113 = some (.iload_n 1, 1, 0, 0, 0) := by decide +kernel
theorem ycg_114 : xe_look (xc 175) 114 = some (.imul, 1, 0, 0, 0) := by decide +kernel
theorem ycg_115 : xe_look (xc 175) 115 = some (.if_icmp .ge 29, 3, 0, 0, 0) := by decide +kernel
theorem ycg_118 : xe_look (xc 175) 118 = some (.aload_n 0, 1, 0, 0, 0) := by decide +kernel
theorem ycg_119 : xe_look (xc 175) 119 = some (.getfield 59, 3, 12, 28, 1143) := by decide +kernel
theorem ycg_122 : xe_look (xc 175) 122 = some (.iload_n 2, 1, 0, 0, 0) := by decide +kernel
theorem ycg_123 : xe_look (xc 175) 123 = some (.iload 4, 2, 0, 0, 0) := by decide +kernel
theorem ycg_125 : xe_look (xc 175) 125 = some (.iadd, 1, 0, 0, 0) := by decide +kernel
theorem ycg_126 : xe_look (xc 175) 126 = some (.aload_n 0, 1, 0, 0, 0) := by decide +kernel
theorem ycg_127 : xe_look (xc 175) 127 = some (.getfield 59, 3, 12, 28, 1143) := by decide +kernel
theorem ycg_130 : xe_look (xc 175) 130 = some (.iload_n 2, 1, 0, 0, 0) := by decide +kernel
theorem ycg_131 : xe_look (xc 175) 131 = some (.iload 4, 2, 0, 0, 0) := by decide +kernel
theorem ycg_133 : xe_look (xc 175) 133 = some (.iadd, 1, 0, 0, 0) := by decide +kernel
theorem ycg_134 : xe_look (xc 175) 134 = some (.iload_n 3, 1, 0, 0, 0) := by decide +kernel
theorem ycg_135 : xe_look (xc 175) 135 = some (.isub, 1, 0, 0, 0) := by decide +kernel
theorem ycg_136 : xe_look (xc 175) 136 = some (.iaload, 1, 0, 0, 0) := by decide +kernel
theorem ycg_137 : xe_look (xc 175) 137 = some (.iastore, 1, 0, 0, 0) := by decide +kernel
theorem ycg_138 : xe_look (xc 175) 138 = some (.iinc 4 1, 3, 0, 0, 0) := by decide +kernel
theorem ycg_141 : xe_look (xc 175) 141 = some (.goto (-31), 3, 0, 0, 0) := by decide +kernel
theorem ycg_144 : xe_look (xc 175) 144 = some (.aload_n 0, 1, 0, 0, 0) := by decide +kernel
theorem ycg_145 : xe_look (xc 175) 145 = some (.iload_n 2, 1, 0, 0, 0) := by decide +kernel
theorem ycg_146 : xe_look (xc 175) 146 = some (.iload_n 3, 1, 0, 0, 0) := by decide +kernel
theorem ycg_147 : xe_look (xc 175) 147 = some (.iload_n 1, 1, 0, 0, 0) := by decide +kernel
theorem ycg_148 : xe_look (xc 175) 148 = some (.imul, 1, 0, 0, 0) := by decide +kernel
theorem ycg_149 : xe_look (xc 175) 149 = some (.iadd, 1, 0, 0, 0) := by decide +kernel
theorem ycg_150 : xe_look (xc 175) 150 = some (.putfield 262, 3, 12, 25, 1141) := by decide +kernel
theorem ycg_153 : xe_look (xc 175) 153 = some (.iconst 1, 1, 0, 0, 0) := by decide +kernel
theorem ycg_154 : xe_look (xc 175) 154 = some (.ireturn, 1, 0, 0, 0) := by decide +kernel
theorem ydi_0 : xe_look (xc 203) 0 = some (.aload_n 0, 1, 0, 0, 0) := by decide +kernel
theorem ydi_1 : xe_look (xc 203) 1 = some (.invokevirtual 252, 3, 0, 198, 1137) := by decide +kernel
theorem ydi_4 : xe_look (xc 203) 4 = some (.bipush 48, 2, 0, 0, 0) := by decide +kernel
theorem ydi_6 : xe_look (xc 203) 6 = some (.if_icmp .lt 16, 3, 0, 0, 0) := by decide +kernel
theorem ydi_9 : xe_look (xc 203) 9 = some (.aload_n 0, 1, 0, 0, 0) := by decide +kernel
theorem ydi_10 : xe_look (xc 203) 10 = some (.invokevirtual 252, 3, 0, 198, 1137) := by decide +kernel
theorem ydi_13 : xe_look (xc 203) 13 = some (.bipush 57, 2, 0, 0, 0) := by decide +kernel
theorem ydi_15 : xe_look (xc 203) 15 = some (.if_icmp .gt 7, 3, 0, 0, 0) := by decide +kernel
theorem ydi_18 : xe_look (xc 203) 18 = some (.iconst 1, 1, 0, 0, 0) := by decide +kernel
theorem ydi_19 : xe_look (xc 203) 19 = some (.goto 4, 3, 0, 0, 0) := by decide +kernel
theorem ydi_22 : xe_look (xc 203) 22 = some (.iconst 0, 1, 0, 0, 0) := by decide +kernel
theorem ydi_23 : xe_look (xc 203) 23 = some (.ireturn, 1, 0, 0, 0) := by decide +kernel
theorem yog_0 : xe_look (xc 230) 0 = some (.aload_n 0, 1, 0, 0, 0) := by decide +kernel
theorem yog_1 : xe_look (xc 230) 1 = some (.getfield 265, 3, 12, 26, 1139) := by decide +kernel
theorem yog_4 : xe_look (xc 230) 4 = some (.iconst 4, 1, 0, 0, 0) := by decide +kernel
theorem yog_5 : xe_look (xc 230) 5 = some (.if_icmp .ne 13, 3, 0, 0, 0) := by decide +kernel
theorem yog_8 : xe_look (xc 230) 8 = some (.aload_n 0, 1, 0, 0, 0) := by decide +kernel
theorem yog_9 : xe_look (xc 230) 9 = some (.iconst 5, 1, 0, 0, 0) := by decide +kernel
theorem yog_10 : xe_look (xc 230) 10 = some (.aload_n 0, 1, 0, 0, 0) := by decide +kernel
theorem yog_11 : xe_look (xc 230) 11 = some (.getfield 242, 3, 12, 18, 1135) := by decide +kernel
theorem yog_14 : xe_look (xc 230) 14 = some (.invokevirtual 256, 3, 0, 274, 1138) := by decide +kernel
theorem yog_17 : xe_look (xc 230) 17 = some (.ireturn, 1, 0, 0, 0) := by decide +kernel
theorem yog_18 : xe_look (xc 230) 18 = some (.aload_n 0, 1, 0, 0, 0) := by decide +kernel
theorem yog_19 : xe_look (xc 230) 19 = some (.getfield 62, 3, 12, 29, 1142) := by decide +kernel
theorem yog_22 : xe_look (xc 230) 22 = some (.aload_n 0, 1, 0, 0, 0) := by decide +kernel
theorem yog_23 : xe_look (xc 230) 23 = some (.getfield 265, 3, 12, 26, 1139) := by decide +kernel
theorem yog_26 : xe_look (xc 230) 26 = some (.aload_n 0, 1, 0, 0, 0) := by decide +kernel
theorem yog_27 : xe_look (xc 230) 27 = some (.getfield 242, 3, 12, 18, 1135) := by decide +kernel
theorem yog_30 : xe_look (xc 230) 30 = some (.iastore, 1, 0, 0, 0) := by decide +kernel
theorem yog_31 : xe_look (xc 230) 31 = some (.aload_n 0, 1, 0, 0, 0) := by decide +kernel
theorem yog_32 : xe_look (xc 230) 32 = some (.getfield 65, 3, 12, 30, 1140) := by decide +kernel
theorem yog_35 : xe_look (xc 230) 35 = some (.aload_n 0, 1, 0, 0, 0) := by decide +kernel
theorem yog_36 : xe_look (xc 230) 36 = some (.getfield 265, 3, 12, 26, 1139) := by decide +kernel
theorem yog_39 : xe_look (xc 230) 39 = some (.aload_n 0, 1, 0, 0, 0) := by decide +kernel
theorem yog_40 : xe_look (xc 230) 40 = some (.getfield 262, 3, 12, 25, 1141) := by decide +kernel
theorem yog_43 : xe_look (xc 230) 43 = some (.iastore, 1, 0, 0, 0) := by decide +kernel
theorem yog_44 : xe_look (xc 230) 44 = some (.aload_n 0, 1, 0, 0, 0) := by decide +kernel
theorem yog_45 : xe_look (xc 230) 45 = some (.aload_n 0, 1, 0, 0, 0) := by decide +kernel
theorem yog_46 : xe_look (xc 230) 46 = some (.getfield 265, 3, 12, 26, 1139) := by decide +kernel
theorem yog_49 : xe_look (xc 230) 49 = some (.iconst 1, 1, 0, 0, 0) := by decide +kernel
theorem yog_50 : xe_look (xc 230) 50 = some (.iadd, 1, 0, 0, 0) := by decide +kernel
theorem yog_51 : xe_look (xc 230) 51 = some (.putfield 265, 3, 12, 26, 1139) := by decide +kernel
theorem yog_54 : xe_look (xc 230) 54 = some (.aload_n 0, 1, 0, 0, 0) := by decide +kernel
theorem yog_55 : xe_look (xc 230) 55 = some (.aload_n 0, 1, 0, 0, 0) := by decide +kernel
theorem yog_56 : xe_look (xc 230) 56 = some (.getfield 242, 3, 12, 18, 1135) := by decide +kernel
theorem yog_59 : xe_look (xc 230) 59 = some (.iconst 1, 1, 0, 0, 0) := by decide +kernel
theorem yog_60 : xe_look (xc 230) 60 = some (.iadd, 1, 0, 0, 0) := by decide +kernel
theorem yog_61 : xe_look (xc 230) 61 = some (.putfield 242, 3, 12, 18, 1135) := by decide +kernel
theorem yog_64 : xe_look (xc 230) 64 = some (.iconst 1, 1, 0, 0, 0) := by decide +kernel
theorem yog_65 : xe_look (xc 230) 65 = some (.ireturn, 1, 0, 0, 0) := by decide +kernel
theorem yrr_0 : xe_look (xc 239) 0 = some (.aload_n 0, 1, 0, 0, 0) := by decide +kernel
theorem yrr_1 : xe_look (xc 239) 1 = some (.getfield 242, 3, 12, 18, 1135) := by decide +kernel
theorem yrr_4 : xe_look (xc 239) 4 = some (.istore_n 1, 1, 0, 0, 0) := by decide +kernel
theorem yrr_5 : xe_look (xc 239) 5 = some (.aload_n 0, 1, 0, 0, 0) := by decide +kernel
theorem yrr_6 : xe_look (xc 239) 6 = some (.invokevirtual 259, 3, 0, 240, 1268) := by decide +kernel
theorem yrr_9 : xe_look (xc 239) 9 = some (.ifCond .ne 5, 3, 0, 0, 0) := by decide +kernel
theorem yrr_12 : xe_look (xc 239) 12 = some (.iconst 0, 1, 0, 0, 0) := by decide +kernel
theorem yrr_13 : xe_look (xc 239) 13 = some (.ireturn, 1, 0, 0, 0) := by decide +kernel
theorem yrr_14 : xe_look (xc 239) 14 = some (.aload_n 0, 1, 0, 0, 0) := by decide +kernel
theorem yrr_15 : xe_look (xc 239) 15 = some (.getfield 245, 3, 12, 21, 1263) := by decide +kernel
theorem yrr_18 : xe_look (xc 239) 18 = some (.istore_n 2, 1, 0, 0, 0) := by decide +kernel
theorem yrr_19 : xe_look (xc 239) 19 = some (.aload_n 0, 1, 0, 0, 0) := by decide +kernel
theorem yrr_20 : xe_look (xc 239) 20 = some (.invokevirtual 252, 3, 0, 198, 1137) := by decide +kernel
theorem yrr_23 : xe_look (xc 239) 23 = some (.bipush 45, 2, 0, 0, 0) := by decide +kernel
theorem yrr_25 : xe_look (xc 239) 25 = some (.if_icmp .ne 22, 3, 0, 0, 0) := by decide +kernel
theorem yrr_28 : xe_look (xc 239) 28 = some (.aload_n 0, 1, 0, 0, 0) := by decide +kernel
theorem yrr_29 : xe_look (xc 239) 29 = some (.aload_n 0, 1, 0, 0, 0) := by decide +kernel
theorem yrr_30 : xe_look (xc 239) 30 = some (.getfield 242, 3, 12, 18, 1135) := by decide +kernel
theorem yrr_33 : xe_look (xc 239) 33 = some (.iconst 1, 1, 0, 0, 0) := by decide +kernel
theorem yrr_34 : xe_look (xc 239) 34 = some (.iadd, 1, 0, 0, 0) := by decide +kernel
theorem yrr_35 : xe_look (xc 239) 35 = some (.putfield 242, 3, 12, 18, 1135) := by decide +kernel
theorem yrr_38 : xe_look (xc 239) 38 = some (.aload_n 0, 1, 0, 0, 0) := by decide +kernel
theorem yrr_39 : xe_look (xc 239) 39 = some (.invokevirtual 259, 3, 0, 240, 1268) := by decide +kernel
theorem yrr_42 : xe_look (xc 239) 42 = some (.ifCond .ne 5, 3, 0, 0, 0) := by decide +kernel
theorem yrr_45 : xe_look (xc 239) 45 = some (.iconst 0, 1, 0, 0, 0) := by decide +kernel
theorem yrr_46 : xe_look (xc 239) 46 = some (.ireturn, 1, 0, 0, 0) := by decide +kernel
theorem yrr_47 : xe_look (xc 239) 47 = some (.aload_n 0, 1, 0, 0, 0) := by decide +kernel
theorem yrr_48 : xe_look (xc 239) 48 = some (.getfield 245, 3, 12, 21, 1263) := by decide +kernel
theorem yrr_51 : xe_look (xc 239) 51 = some (.iload_n 2, 1, 0, 0, 0) := by decide +kernel
theorem yrr_52 : xe_look (xc 239) 52 = some (.if_icmp .ge 7, 3, 0, 0, 0) := by decide +kernel
theorem yrr_55 : xe_look (xc 239) 55 = some (.iconst (-1), 1, 0, 0, 0) := by decide +kernel
theorem yrr_56 : xe_look (xc 239) 56 = some (.goto 4, 3, 0, 0, 0) := by decide +kernel
theorem yrr_59 : xe_look (xc 239) 59 = some (.iconst 1, 1, 0, 0, 0) := by decide +kernel
theorem yrr_60 : xe_look (xc 239) 60 = some (.istore_n 3, 1, 0, 0, 0) := by decide +kernel
theorem yrr_61 : xe_look (xc 239) 61 = some (.aload_n 0, 1, 0, 0, 0) := by decide +kernel
theorem yrr_62 : xe_look (xc 239) 62 = some (.getfield 245, 3, 12, 21, 1263) := by decide +kernel
theorem yrr_65 : xe_look (xc 239) 65 = some (.iload_n 2, 1, 0, 0, 0) := by decide +kernel
theorem yrr_66 : xe_look (xc 239) 66 = some (.isub, 1, 0, 0, 0) := by decide +kernel
theorem yrr_67 : xe_look (xc 239) 67 = some (.iload_n 3, 1, 0, 0, 0) := by decide +kernel
theorem yrr_68 : xe_look (xc 239) 68 = some (.imul, 1, 0, 0, 0) := by decide +kernel
theorem yrr_69 : xe_look (xc 239) 69 = some (.iconst 1, 1, 0, 0, 0) := by decide +kernel
theorem yrr_70 : xe_look (xc 239) 70 = some (.iadd, 1, 0, 0, 0) := by decide +kernel
theorem yrr_71 : xe_look (xc 239) 71 = some (.istore 4, 2, 0, 0, 0) := by decide +kernel
theorem yrr_73 : xe_look (xc 239) 73 = some (.aload_n 0, 1, 0, 0, 0) := by decide +kernel
theorem yrr_74 : xe_look (xc 239) 74 = some (.getfield 262, 3, 12, 25, 1141) := by decide +kernel
theorem yrr_77 : xe_look (xc 239) 77 = some (.iload 4, 2, 0, 0, 0) := by decide +kernel
theorem yrr_79 : xe_look (xc 239) 79 = some (.iadd, 1, 0, 0, 0) := by decide +kernel
theorem yrr_80 : xe_look (xc 239) 80 = some (.bipush 60, 2, 0, 0, 0) := by decide +kernel
theorem yrr_82 : xe_look (xc 239) 82 = some (.if_icmp .le 11, 3, 0, 0, 0) := by decide +kernel
theorem yrr_85 : xe_look (xc 239) 85 = some (.aload_n 0, 1, 0, 0, 0) := by decide +kernel
theorem yrr_86 : xe_look (xc 239) 86 = some (.bipush 6, 2, 0, 0, 0) := by decide +kernel
theorem yrr_88 : xe_look (xc 239) 88 = some (.iload_n 1, 1, 0, 0, 0) := by decide +kernel
theorem yrr_89 : xe_look (xc 239) 89 = some (.invokevirtual 256, 3, 0, 274, 1138) := by decide +kernel
theorem yrr_92 : xe_look (xc 239) 92 = some (.ireturn, 1, 0, 0, 0) := by decide +kernel
theorem yrr_93 : xe_look (xc 239) 93 = some (.iconst 0, 1, 0, 0, 0) := by decide +kernel
theorem yrr_94 : xe_look (xc 239) 94 = some (.istore 5, 2, 0, 0, 0) := by decide +kernel
theorem yrr_96 : xe_look (xc 239) 96 = some (.iload 5, 2, 0, 0, 0) := by decide +kernel
theorem yrr_98 : xe_look (xc 239) 98 = some (.iload 4, 2, 0, 0, 0) := by decide +kernel
theorem yrr_100 : xe_look (xc 239) 100 = some (.if_icmp .ge 27, 3, 0, 0, 0) := by decide +kernel
theorem yrr_103 : xe_look (xc 239) 103 = some (.aload_n 0, 1, 0, 0, 0) := by decide +kernel
theorem yrr_104 : xe_look (xc 239) 104 = some (.getfield 59, 3, 12, 28, 1143) := by decide +kernel
theorem yrr_107 : xe_look (xc 239) 107 = some (.aload_n 0, 1, 0, 0, 0) := by decide +kernel
theorem yrr_108 : xe_look (xc 239) 108 = some (.getfield 262, 3, 12, 25, 1141) := by decide +kernel
theorem yrr_111 : xe_look (xc 239) 111 = some (.iload 5, 2, 0, 0, 0) := by decide +kernel
theorem yrr_113 : xe_look (xc 239) 113 = some (.iadd, 1, 0, 0, 0) := by decide +kernel
theorem yrr_114 : xe_look (xc 239) 114 = some (.iload_n 2, 1, 0, 0, 0) := by decide +kernel
theorem yrr_115 : xe_look (xc 239) 115 = some (.iload_n 3, 1, 0, 0, 0) := by decide +kernel
theorem yrr_116 : xe_look (xc 239) 116 = some (.iload 5, 2, 0, 0, 0) := by decide +kernel
theorem yrr_118 : xe_look (xc 239) 118 = some (.imul, 1, 0, 0, 0) := by decide +kernel
theorem yrr_119 : xe_look (xc 239) 119 = some (.iadd, 1, 0, 0, 0) := by decide +kernel
theorem yrr_120 : xe_look (xc 239) 120 = some (.iastore, 1, 0, 0, 0) := by decide +kernel
theorem yrr_121 : xe_look (xc 239) 121 = some (.iinc 5 1, 3, 0, 0, 0) := by decide +kernel
theorem yrr_124 : xe_look (xc 239) 124 = some (.goto (-28), 3, 0, 0, 0) := by decide +kernel
theorem yrr_127 : xe_look (xc 239) 127 = some (.aload_n 0, 1, 0, 0, 0) := by decide +kernel
theorem yrr_128 : xe_look (xc 239) 128 = some (.aload_n 0, 1, 0, 0, 0) := by decide +kernel
theorem yrr_129 : xe_look (xc 239) 129 = some (.getfield 262, 3, 12, 25, 1141) := by decide +kernel
theorem yrr_132 : xe_look (xc 239) 132 = some (.iload 4, 2, 0, 0, 0) := by decide +kernel
theorem yrr_134 : xe_look (xc 239) 134 = some (.iadd, 1, 0, 0, 0) := by decide +kernel
theorem yrr_135 : xe_look (xc 239) 135 = some (.putfield 262, 3, 12, 25, 1141) := by decide +kernel
theorem yrr_138 : xe_look (xc 239) 138 = some (.iconst 1, 1, 0, 0, 0) := by decide +kernel
theorem yrr_139 : xe_look (xc 239) 139 = some (.ireturn, 1, 0, 0, 0) := by decide +kernel
theorem yrs_0 : xe_look (xc 240) 0 = some (.aload_n 0, 1, 0, 0, 0) := by decide +kernel
theorem yrs_1 : xe_look (xc 240) 1 = some (.getfield 242, 3, 12, 18, 1135) := by decide +kernel
theorem yrs_4 : xe_look (xc 240) 4 = some (.istore_n 1, 1, 0, 0, 0) := by decide +kernel
theorem yrs_5 : xe_look (xc 240) 5 = some (.aload_n 0, 1, 0, 0, 0) := by decide +kernel
theorem yrs_6 : xe_look (xc 240) 6 = some (.iconst 0, 1, 0, 0, 0) := by decide +kernel
theorem yrs_7 : xe_look (xc 240) 7 = some (.putfield 245, 3, 12, 21, 1263) := by decide +kernel
theorem yrs_10 : xe_look (xc 240) 10 = some (.aload_n 0, 1, 0, 0, 0) := by decide +kernel
theorem yrs_11 : xe_look (xc 240) 11 = some (.invokevirtual 248, 3, 0, 203, 1136) := by decide +kernel
theorem yrs_14 : xe_look (xc 240) 14 = some (.ifCond .eq 45, 3, 0, 0, 0) := by decide +kernel
theorem yrs_17 : xe_look (xc 240) 17 = some (.aload_n 0, 1, 0, 0, 0) := by decide +kernel
theorem yrs_18 : xe_look (xc 240) 18 = some (.getfield 242, 3, 12, 18, 1135) := by decide +kernel
theorem yrs_21 : xe_look (xc 240) 21 = some (.iload_n 1, 1, 0, 0, 0) := by decide +kernel
theorem yrs_22 : xe_look (xc 240) 22 = some (.iconst 2, 1, 0, 0, 0) := by decide +kernel
theorem yrs_23 : xe_look (xc 240) 23 = some (.iadd, 1, 0, 0, 0) := by decide +kernel
theorem yrs_24 : xe_look (xc 240) 24 = some (.if_icmp .ge 35, 3, 0, 0, 0) := by decide +kernel
theorem yrs_27 : xe_look (xc 240) 27 = some (.aload_n 0, 1, 0, 0, 0) := by decide +kernel
theorem yrs_28 : xe_look (xc 240) 28 = some (.bipush 10, 2, 0, 0, 0) := by decide +kernel
theorem yrs_30 : xe_look (xc 240) 30 = some (.aload_n 0, 1, 0, 0, 0) := by decide +kernel
theorem yrs_31 : xe_look (xc 240) 31 = some (.getfield 245, 3, 12, 21, 1263) := by decide +kernel
theorem yrs_34 : xe_look (xc 240) 34 = some (.imul, 1, 0, 0, 0) := by decide +kernel
theorem yrs_35 : xe_look (xc 240) 35 = some (.aload_n 0, 1, 0, 0, 0) := by decide +kernel
theorem yrs_36 : xe_look (xc 240) 36 = some (.invokevirtual 252, 3, 0, 198, 1137) := by decide +kernel
theorem yrs_39 : xe_look (xc 240) 39 = some (.iadd, 1, 0, 0, 0) := by decide +kernel
theorem yrs_40 : xe_look (xc 240) 40 = some (.bipush 48, 2, 0, 0, 0) := by decide +kernel
theorem yrs_42 : xe_look (xc 240) 42 = some (.isub, 1, 0, 0, 0) := by decide +kernel
theorem yrs_43 : xe_look (xc 240) 43 = some (.putfield 245, 3, 12, 21, 1263) := by decide +kernel
theorem yrs_46 : xe_look (xc 240) 46 = some (.aload_n 0, 1, 0, 0, 0) := by decide +kernel
theorem yrs_47 : xe_look (xc 240) 47 = some (.aload_n 0, 1, 0, 0, 0) := by decide +kernel
theorem yrs_48 : xe_look (xc 240) 48 = some (.getfield 242, 3, 12, 18, 1135) := by decide +kernel
theorem yrs_51 : xe_look (xc 240) 51 = some (.iconst 1, 1, 0, 0, 0) := by decide +kernel
theorem yrs_52 : xe_look (xc 240) 52 = some (.iadd, 1, 0, 0, 0) := by decide +kernel
theorem yrs_53 : xe_look (xc 240) 53 = some (.putfield 242, 3, 12, 18, 1135) := by decide +kernel
theorem yrs_56 : xe_look (xc 240) 56 = some (.goto (-46), 3, 0, 0, 0) := by decide +kernel
theorem yrs_59 : xe_look (xc 240) 59 = some (.aload_n 0, 1, 0, 0, 0) := by decide +kernel
theorem yrs_60 : xe_look (xc 240) 60 = some (.getfield 242, 3, 12, 18, 1135) := by decide +kernel
theorem yrs_63 : xe_look (xc 240) 63 = some (.iload_n 1, 1, 0, 0, 0) := by decide +kernel
theorem yrs_64 : xe_look (xc 240) 64 = some (.if_icmp .ne 13, 3, 0, 0, 0) := by decide +kernel
theorem yrs_67 : xe_look (xc 240) 67 = some (.aload_n 0, 1, 0, 0, 0) := by decide +kernel
theorem yrs_68 : xe_look (xc 240) 68 = some (.iconst 1, 1, 0, 0, 0) := by decide +kernel
theorem yrs_69 : xe_look (xc 240) 69 = some (.aload_n 0, 1, 0, 0, 0) := by decide +kernel
theorem yrs_70 : xe_look (xc 240) 70 = some (.getfield 242, 3, 12, 18, 1135) := by decide +kernel
theorem yrs_73 : xe_look (xc 240) 73 = some (.invokevirtual 256, 3, 0, 274, 1138) := by decide +kernel
theorem yrs_76 : xe_look (xc 240) 76 = some (.ireturn, 1, 0, 0, 0) := by decide +kernel
theorem yrs_77 : xe_look (xc 240) 77 = some (.aload_n 0, 1, 0, 0, 0) := by decide +kernel
theorem yrs_78 : xe_look (xc 240) 78 = some (.getfield 245, 3, 12, 21, 1263) := by decide +kernel
theorem yrs_81 : xe_look (xc 240) 81 = some (.bipush 32, 2, 0, 0, 0) := by decide +kernel
theorem yrs_83 : xe_look (xc 240) 83 = some (.if_icmp .lt 12, 3, 0, 0, 0) := by decide +kernel
theorem yrs_86 : xe_look (xc 240) 86 = some (.aload_n 0, 1, 0, 0, 0) := by decide +kernel
theorem yrs_87 : xe_look (xc 240) 87 = some (.iconst 3, 1, 0, 0, 0) := by decide +kernel
theorem yrs_88 : xe_look (xc 240) 88 = some (.iload_n 1, 1, 0, 0, 0) := by decide +kernel
theorem yrs_89 : xe_look (xc 240) 89 = some (.invokevirtual 256, 3, 0, 274, 1138) := by decide +kernel
theorem yrs_92 : xe_look (xc 240) 92 = some (.ifCond .eq 7, 3, 0, 0, 0) := by decide +kernel
theorem yrs_95 : xe_look (xc 240) 95 = some (.iconst 1, 1, 0, 0, 0) := by decide +kernel
theorem yrs_96 : xe_look (xc 240) 96 = some (.goto 4, 3, 0, 0, 0) := by decide +kernel
theorem yrs_99 : xe_look (xc 240) 99 = some (.iconst 0, 1, 0, 0, 0) := by decide +kernel
theorem yrs_100 : xe_look (xc 240) 100 = some (.ireturn, 1, 0, 0, 0) := by decide +kernel
theorem ytk_0 : xe_look (xc 260) 0 = some (.aload_n 0, 1, 0, 0, 0) := by decide +kernel
theorem ytk_1 : xe_look (xc 260) 1 = some (.invokevirtual 252, 3, 0, 198, 1137) := by decide +kernel
theorem ytk_4 : xe_look (xc 260) 4 = some (.iload_n 1, 1, 0, 0, 0) := by decide +kernel
theorem ytk_5 : xe_look (xc 260) 5 = some (.if_icmp .eq 13, 3, 0, 0, 0) := by decide +kernel
theorem ytk_8 : xe_look (xc 260) 8 = some (.aload_n 0, 1, 0, 0, 0) := by decide +kernel
theorem ytk_9 : xe_look (xc 260) 9 = some (.iconst 1, 1, 0, 0, 0) := by decide +kernel
theorem ytk_10 : xe_look (xc 260) 10 = some (.aload_n 0, 1, 0, 0, 0) := by decide +kernel
theorem ytk_11 : xe_look (xc 260) 11 = some (.getfield 242, 3, 12, 18, 1135) := by decide +kernel
theorem ytk_14 : xe_look (xc 260) 14 = some (.invokevirtual 256, 3, 0, 274, 1138) := by decide +kernel
theorem ytk_17 : xe_look (xc 260) 17 = some (.ireturn, 1, 0, 0, 0) := by decide +kernel
theorem ytk_18 : xe_look (xc 260) 18 = some (.aload_n 0, 1, 0, 0, 0) := by decide +kernel
theorem ytk_19 : xe_look (xc 260) 19 = some (.aload_n 0, 1, 0, 0, 0) := by decide +kernel
theorem ytk_20 : xe_look (xc 260) 20 = some (.getfield 242, 3, 12, 18, 1135) := by decide +kernel
theorem ytk_23 : xe_look (xc 260) 23 = some (.iconst 1, 1, 0, 0, 0) := by decide +kernel
theorem ytk_24 : xe_look (xc 260) 24 = some (.iadd, 1, 0, 0, 0) := by decide +kernel
theorem ytk_25 : xe_look (xc 260) 25 = some (.putfield 242, 3, 12, 18, 1135) := by decide +kernel
theorem ytk_28 : xe_look (xc 260) 28 = some (.iconst 1, 1, 0, 0, 0) := by decide +kernel
theorem ytk_29 : xe_look (xc 260) 29 = some (.ireturn, 1, 0, 0, 0) := by decide +kernel
theorem ywr_0 : xe_look (xc 274) 0 = some (.aload_n 0, 1, 0, 0, 0) := by decide +kernel
theorem ywr_1 : xe_look (xc 274) 1 = some (.sipush (-1000), 3, 0, 0, 0) := by decide +kernel
theorem ywr_4 : xe_look (xc 274) 4 = some (.iload_n 1, 1, 0, 0, 0) := by decide +kernel
theorem ywr_5 : xe_look (xc 274) 5 = some (.imul, 1, 0, 0, 0) := by decide +kernel
theorem ywr_6 : xe_look (xc 274) 6 = some (.iload_n 2, 1, 0, 0, 0) := by decide +kernel
theorem ywr_7 : xe_look (xc 274) 7 = some (.isub, 1, 0, 0, 0) := by decide +kernel
theorem ywr_8 : xe_look (xc 274) 8 = some (.putfield 286, 3, 12, 20, 1233) := by decide +kernel
theorem ywr_11 : xe_look (xc 274) 11 = some (.iconst 0, 1, 0, 0, 0) := by decide +kernel
theorem ywr_12 : xe_look (xc 274) 12 = some (.ireturn, 1, 0, 0, 0) := by decide +kernel
def nWr : Nat := 2 ^ (cn 196 + 18) + 2 ^ (cn 196 + 25) + 2 ^ (cn 196 + 26) + 2 ^ (cn 196 + 20) + 2 ^ (cn 196 + 21) + 2 ^ cn 213 + 2 ^ cn 214 + 2 ^ cn 215
def nqk : List (Nat × Nat) := [(196, 18), (196, 25), (196, 26), (196, 20), (196, 21)]
def nqa : List Nat := [213, 214, 215]
/-- place, how many, groups, fault, number; the row, where groups began, how many ahead of them -/
abbrev nS (g0 g : pH) (p m s ft u : Int) (c gf ga : tC) : Prop := sE nqk nqa nWr g0 g [p, m, s, ft, u] [c, gf, ga]
def nB (g0 : pH) (B : tC) (n : Int) : Prop := cF g0 196 19 = n ∧ tpR B (fA g0 211) ∧ 0 ≤ n ∧ n ≤ 120
theorem eo_196 : eL[196]? = some (0, 12) := by decide +kernel
theorem gu_213 : eG (cn 213) = ((-2147483648), 2147483647, []) := by decide +kernel
theorem gu_214 : eG (cn 214) = ((-2147483648), 2147483647, []) := by decide +kernel
theorem gu_215 : eG (cn 215) = ((-2147483648), 2147483647, []) := by decide +kernel
theorem gy_196_18 : eG (cn 196 + 18) = ((-2147483648), 2147483647, []) := by decide +kernel
theorem gy_196_20 : eG (cn 196 + 20) = ((-2147483648), 2147483647, []) := by decide +kernel
theorem gy_196_21 : eG (cn 196 + 21) = ((-2147483648), 2147483647, []) := by decide +kernel
theorem gy_196_25 : eG (cn 196 + 25) = ((-2147483648), 2147483647, []) := by decide +kernel
theorem gy_196_26 : eG (cn 196 + 26) = ((-2147483648), 2147483647, []) := by decide +kernel
theorem wn_nWr_196_19 : nWr.testBit (cn 196 + 19) = false := by decide +kernel
theorem wm_nWr_211 : nWr.testBit (cn 211) = false := by decide +kernel
theorem ch_196_28 : (eG (cn 196 + 28)).2.2 = [214] := by decide +kernel
theorem cq_196_28 {d i : Nat} {lv : List (Nat × pv)} {r : List pv} {g : pH} (hG : g_I eG g) : px_push eL d none (.getfield i) 12 28 lv (pvR 196 :: r) g = some (pvR 213 :: r) := pget eo_196 (gI_r (r := 213) hG eo_196 (Nat.le_of_ble_eq_true rfl) (y := 28) rfl ch_196_28)
theorem ch_196_29 : (eG (cn 196 + 29)).2.2 = [215] := by decide +kernel
theorem cq_196_29 {d i : Nat} {lv : List (Nat × pv)} {r : List pv} {g : pH} (hG : g_I eG g) : px_push eL d none (.getfield i) 12 29 lv (pvR 196 :: r) g = some (pvR 214 :: r) := pget eo_196 (gI_r (r := 214) hG eo_196 (Nat.le_of_ble_eq_true rfl) (y := 29) rfl ch_196_29)
theorem ch_196_30 : (eG (cn 196 + 30)).2.2 = [216] := by decide +kernel
theorem cq_196_30 {d i : Nat} {lv : List (Nat × pv)} {r : List pv} {g : pH} (hG : g_I eG g) : px_push eL d none (.getfield i) 12 30 lv (pvR 196 :: r) g = some (pvR 215 :: r) := pget eo_196 (gI_r (r := 215) hG eo_196 (Nat.le_of_ble_eq_true rfl) (y := 30) rfl ch_196_30)
theorem ez_213 : eL[213]? = some (1, 60) := by decide +kernel
theorem ez_214 : eL[214]? = some (1, 4) := by decide +kernel
theorem ez_215 : eL[215]? = some (1, 4) := by decide +kernel
theorem wt_nWr_196_18 : nWr.testBit (cn 196 + 18) = true := by decide +kernel
theorem wt_nWr_196_20 : nWr.testBit (cn 196 + 20) = true := by decide +kernel
theorem wt_nWr_196_21 : nWr.testBit (cn 196 + 21) = true := by decide +kernel
theorem wt_nWr_196_25 : nWr.testBit (cn 196 + 25) = true := by decide +kernel
theorem wt_nWr_196_26 : nWr.testBit (cn 196 + 26) = true := by decide +kernel
theorem wu_nWr_213 : nWr.testBit (cn 213) = true := by decide +kernel
theorem wu_nWr_214 : nWr.testBit (cn 214) = true := by decide +kernel
theorem wu_nWr_215 : nWr.testBit (cn 215) = true := by decide +kernel
theorem ne_l {g0 g : pH} {B : tC} {n p m s ft u : Int} {c gf ga : tC} (hB : nB g0 B n) (h : nS g0 g p m s ft u c gf ga) : cF g 196 19 = n := (cF_M (S_J h).2 wn_nWr_196_19).trans hB.1
theorem an_m (x : Int) : (Int32.ofInt x &&& Int32.ofInt 255).toInt = x % 256 := by
  have e : (Int32.ofInt x &&& Int32.ofInt 255).toBitVec = BitVec.ofInt 32 x &&& 255#32 := rfl
  have h1 : (BitVec.ofInt 32 x &&& 255#32).toNat = (BitVec.ofInt 32 x).toNat % 256 := by
    rw [BitVec.toNat_and]
    exact Nat.and_two_pow_sub_one_eq_mod (n := 8) _
  have h2 : (Int32.ofInt x &&& Int32.ofInt 255).toInt = ((BitVec.ofInt 32 x &&& 255#32).toNat : Int) := by
    show (Int32.ofInt x &&& Int32.ofInt 255).toBitVec.toInt = _
    rw [e, BitVec.toInt_eq_toNat_of_lt (by rw [h1]; omega)]
  rw [h2, h1, BitVec.toNat_ofInt]
  omega
theorem hV_t {g : pH} {B : tC} {n p : Int} (h1 : fF g 18 = p) (h2 : fF g 19 = n) (h3 : tpR B (fA g 211)) (hn : n ≤ 260) (hp : 0 ≤ p) : hV g = tH B n p := by
  unfold hV tH
  rw [h1, h2]
  by_cases q : p < n
  · rw [if_pos q, if_pos q, an_m]
    exact (h3 p.toNat (by omega)).1.symm
  · rw [if_neg q, if_neg q]
theorem tp_b {B f : tC} (h : tpR B f) : ∀ j, j < 260 → 0 ≤ B j ∧ B j ≤ 255 := fun j hj => by
  have := (h j hj).1
  omega
theorem nh_run {d : Nat} {g0 g : pH} {B : tC} {n : Int} (hB : nB g0 B n) {p m s ft u : Int} {c gf ga : tC} (hS : nS g0 g p m s ft u c gf ga) (hp : 0 ≤ p) {P : Option pv × pH → Prop} (hP : P (some (oI (tH B n p)), g)) {lv : List (Nat × pv)} (l0 : px_lg lv 0 = some (pvR 196)) : t_X d 198 0 lv [] g P := by
  have e1 : fF g 18 = p := S_f hS 0 (Nat.le_of_ble_eq_true rfl)
  have e2 : fF g 19 = n := ne_l hB hS
  refine he_run (S_J hS).1 (by omega) (by have := hB.2.2.2; omega) ?_ l0
  rw [hV_t e1 e2 (by rw [fA_M (S_J hS).2 wm_nWr_211]; exact hB.2.1) (by have := hB.2.2.2; omega) hp]
  exact hP
theorem nd_run {d : Nat} (hd : 1 ≤ d) {g0 g : pH} {B : tC} {n : Int} (hB : nB g0 B n) {p m s ft u : Int} {c gf ga : tC} (hS : nS g0 g p m s ft u c gf ga) (hp : 0 ≤ p) {P : Option pv × pH → Prop} (h1 : tDg (tH B n p) → P (some (oI 1), g)) (h2 : ¬ tDg (tH B n p) → P (some (oI 0), g)) {lv : List (Nat × pv)} (l0 : px_lg lv 0 = some (pvR 196)) : t_X d 203 0 lv [] g P := by
  have hn0 := hB.2.2.1
  have hn1 := hB.2.2.2
  have hH : ∀ q, 0 ≤ q → -1 ≤ tH B n q ∧ tH B n q ≤ 255 := fun q hq => tH_b (tp_b hB.2.1) (by omega) hq
  refine t_0 ydi_0 rfl (ld_a l0) ?_
  refine t_3 ydi_1 rfl (ar := ([pvR 196], [])) (pcal_w (as := []) rfl rfl rfl eo_196) ⟨by omega, Nat.le_of_ble_eq_true rfl, Nat.le_of_ble_eq_true rfl, rfl⟩ ?_
  refine nh_run hB hS (by omega) ?_ rfl
  have b1 := hH p (by omega)
  have z1 := tH_n (B := B) (n := n) (p := p)
  show t_X d 203 4 lv [oI (tH B n p)] g P
  refine t_0 ydi_4 rfl (pq_b (by decide)) ?_
  refine tb_lt ydi_6 (by decide) ⟨by omega, by omega⟩ ⟨by omega, by omega⟩ (fun c2 => ?_) (fun c2 => ?_)
  · show t_X d 203 22 lv [] g P
    refine t_0 ydi_22 rfl rfl ?_
    refine t_5 ydi_23 rfl rfl ?_
    exact h2 (fun z => by unfold tDg at z; omega)
  · show t_X d 203 9 lv [] g P
    refine t_0 ydi_9 rfl (ld_a l0) ?_
    refine t_3 ydi_10 rfl (ar := ([pvR 196], [])) (pcal_w (as := []) rfl rfl rfl eo_196) ⟨by omega, Nat.le_of_ble_eq_true rfl, Nat.le_of_ble_eq_true rfl, rfl⟩ ?_
    refine nh_run hB hS (by omega) ?_ rfl
    show t_X d 203 13 lv [oI (tH B n p)] g P
    refine t_0 ydi_13 rfl (pq_b (by decide)) ?_
    refine tb_gt ydi_15 (by decide) ⟨by omega, by omega⟩ ⟨by omega, by omega⟩ (fun c3 => ?_) (fun c3 => ?_)
    · show t_X d 203 22 lv [] g P
      refine t_0 ydi_22 rfl rfl ?_
      refine t_5 ydi_23 rfl rfl ?_
      exact h2 (fun z => by unfold tDg at z; omega)
    · show t_X d 203 18 lv [] g P
      refine t_0 ydi_18 rfl rfl ?_
      refine t_1 ydi_19 rfl (pb_goto (pc := 19) (by decide)) ?_
      show t_X d 203 23 lv [oI 1] g P
      refine t_5 ydi_23 rfl rfl ?_
      exact h1 ⟨by omega, by omega⟩
theorem nw_run {d : Nat} {g0 g : pH} {B : tC} {n : Int} (hB : nB g0 B n) {p m s ft u : Int} {c gf ga : tC} (hS : nS g0 g p m s ft u c gf ga) {a b : Int} (ha : 1 ≤ a ∧ a ≤ 6) (hb : 0 ≤ b ∧ b ≤ 1000) {P : Option pv × pH → Prop} (hP : ∀ g1 : pH, nS g0 g1 p m s (-1000 * a - b) u c gf ga → P (some (oI 0), g1)) {lv : List (Nat × pv)} (l0 : px_lg lv 0 = some (pvR 196)) (l1 : px_lg lv 1 = some (oI a)) (l2 : px_lg lv 2 = some (oI b)) : t_X d 274 0 lv [] g P := by
  have hn0 := hB.2.2.1
  have hn1 := hB.2.2.2
  have hH : ∀ q, 0 ≤ q → -1 ≤ tH B n q ∧ tH B n q ≤ 255 := fun q hq => tH_b (tp_b hB.2.1) (by omega) hq
  refine t_0 ywr_0 rfl (ld_a l0) ?_
  refine t_0 ywr_1 rfl (pq_s (by decide)) ?_
  refine t_0 ywr_4 rfl (ld_i l1) ?_
  refine t_0 ywr_5 rfl pq_mul ?_
  refine t_0 ywr_6 rfl (ld_i l2) ?_
  refine t_0 ywr_7 rfl pq_sub ?_
  refine ts_f (n := 3) rfl rfl (by decide) ywr_8 rfl eo_196 hS wt_nWr_196_20 gy_196_20 (by decide) ⟨by omega, by omega⟩ (fun g1 hS1 => ?_)
  replace hS1 : nS g0 g1 p m s ((-1000 * a) - b) u c gf ga := hS1
  show t_X d 274 11 lv [] g1 P
  refine t_0 ywr_11 rfl rfl ?_
  refine t_5 ywr_12 rfl rfl ?_
  exact hP _ hS1
theorem ntx_run {d : Nat} (hd : 1 ≤ d) {g0 g : pH} {B : tC} {n : Int} (hB : nB g0 B n) {p m s ft u : Int} {c gf ga : tC} (hS : nS g0 g p m s ft u c gf ga) (hp : 0 ≤ p ∧ p ≤ n) {a : Int} (ha : 0 ≤ a ∧ a ≤ 255) {P : Option pv × pH → Prop} (h1 : tH B n p = a → ∀ g1 : pH, nS g0 g1 (p + 1) m s ft u c gf ga → P (some (oI 1), g1)) (h2 : tH B n p ≠ a → ∀ g1 : pH, nS g0 g1 p m s (-1000 - p) u c gf ga → P (some (oI 0), g1)) {lv : List (Nat × pv)} (l0 : px_lg lv 0 = some (pvR 196)) (l1 : px_lg lv 1 = some (oI a)) : t_X d 260 0 lv [] g P := by
  have hn0 := hB.2.2.1
  have hn1 := hB.2.2.2
  have hH : ∀ q, 0 ≤ q → -1 ≤ tH B n q ∧ tH B n q ≤ 255 := fun q hq => tH_b (tp_b hB.2.1) (by omega) hq
  refine t_0 ytk_0 rfl (ld_a l0) ?_
  refine t_3 ytk_1 rfl (ar := ([pvR 196], [])) (pcal_w (as := []) rfl rfl rfl eo_196) ⟨by omega, Nat.le_of_ble_eq_true rfl, Nat.le_of_ble_eq_true rfl, rfl⟩ ?_
  refine nh_run hB hS (by omega) ?_ rfl
  have b1 := hH p (by omega)
  have z1 := tH_n (B := B) (n := n) (p := p)
  show t_X d 260 4 lv [oI (tH B n p)] g P
  refine t_0 ytk_4 rfl (ld_i l1) ?_
  refine tb_eq ytk_5 (by decide) ⟨by omega, by omega⟩ ⟨by omega, by omega⟩ (fun c2 => ?_) (fun c2 => ?_)
  · show t_X d 260 18 lv [] g P
    refine t_0 ytk_18 rfl (ld_a l0) ?_
    refine t_0 ytk_19 rfl (ld_a l0) ?_
    refine t_0 ytk_20 rfl (pq_cv eo_196 rfl (show cF g 196 18 = p from S_f hS 0 (Nat.le_of_ble_eq_true rfl))) ?_
    show t_X d 260 23 lv [oI (p), pvR 196] g P
    refine t_0 ytk_23 rfl rfl ?_
    refine t_0 ytk_24 rfl pq_add ?_
    refine ts_f (n := 0) rfl rfl (by decide) ytk_25 rfl eo_196 hS wt_nWr_196_18 gy_196_18 (by decide) ⟨by omega, by omega⟩ (fun g3 hS3 => ?_)
    replace hS3 : nS g0 g3 (p + 1) m s ft u c gf ga := hS3
    show t_X d 260 28 lv [] g3 P
    refine t_0 ytk_28 rfl rfl ?_
    refine t_5 ytk_29 rfl rfl ?_
    exact h1 (by omega) _ hS3
  · show t_X d 260 8 lv [] g P
    refine t_0 ytk_8 rfl (ld_a l0) ?_
    refine t_0 ytk_9 rfl rfl ?_
    refine t_0 ytk_10 rfl (ld_a l0) ?_
    refine t_0 ytk_11 rfl (pq_cv eo_196 rfl (show cF g 196 18 = p from S_f hS 0 (Nat.le_of_ble_eq_true rfl))) ?_
    show t_X d 260 14 lv [oI (p), oI 1, pvR 196] g P
    refine t_3 ytk_14 rfl (ar := ([pvR 196, oI 1, oI (p)], [])) (pcal_w (as := [oI (p), oI 1]) rfl rfl rfl eo_196) ⟨by omega, Nat.le_of_ble_eq_true rfl, Nat.le_of_ble_eq_true rfl, rfl⟩ ?_
    refine nw_run hB hS ⟨by omega, by omega⟩ ⟨by omega, by omega⟩ (fun g4 hS4 => ?_) rfl rfl rfl
    replace hS4 : nS g0 g4 p m s (-1000 * 1 - p) u c gf ga := hS4
    show t_X d 260 17 lv [oI 0] g4 P
    refine t_5 ytk_17 rfl rfl ?_
    exact h2 (by omega) _ (by rw [show -1000 - p = -1000 * 1 - p by omega]; exact hS4)
set_option maxHeartbeats 2000000 in
theorem ns_run {d : Nat} (hd : 2 ≤ d) {g0 g : pH} {B : tC} {n : Int} (hB : nB g0 B n) {p m s ft u : Int} {c gf ga : tC} (hS : nS g0 g p m s ft u c gf ga) (hp : 0 ≤ p ∧ p ≤ n) {P : Option pv × pH → Prop} (hF : ∀ (g1 : pH) (f q v : Int), nS g0 g1 q m s f v c gf ga → tNf (tH B n) p f → P (some (oI 0), g1)) (hO : ∀ (g1 : pH) (v q : Int), nS g0 g1 q m s ft v c gf ga → tNu (tH B n) p v q → P (some (oI 1), g1)) {lv : List (Nat × pv)} (l0 : px_lg lv 0 = some (pvR 196)) : t_X d 240 0 lv [] g P := by
  have hn0 := hB.2.2.1
  have hn1 := hB.2.2.2
  have hH : ∀ q, 0 ≤ q → -1 ≤ tH B n q ∧ tH B n q ≤ 255 := fun q hq => tH_b (tp_b hB.2.1) (by omega) hq
  refine t_0 yrs_0 rfl (ld_a l0) ?_
  refine t_0 yrs_1 rfl (pq_cv eo_196 rfl (show cF g 196 18 = p from S_f hS 0 (Nat.le_of_ble_eq_true rfl))) ?_
  show t_X d 240 4 lv [oI (p)] g P
  refine t_2 yrs_4 rfl (w := (px_s1 lv 1 (oI (p)), [])) rfl ?_
  replace l0 : px_lg (px_s1 lv 1 (oI (p))) 0 = some (pvR 196) := s1_ne (by decide) (fun _ => rfl) l0
  have l1 : px_lg (px_s1 lv 1 (oI (p))) 1 = some (oI (p)) := s1_eq
  generalize px_s1 lv 1 (oI (p)) = lv1 at l0 l1 ⊢
  show t_X d 240 5 lv1 [] g P
  refine t_0 yrs_5 rfl (ld_a l0) ?_
  refine t_0 yrs_6 rfl rfl ?_
  refine ts_f (n := 4) rfl rfl (by decide) yrs_7 rfl eo_196 hS wt_nWr_196_21 gy_196_21 (by decide) ⟨by omega, by omega⟩ (fun g2 hS2 => ?_)
  replace hS2 : nS g0 g2 p m s ft 0 c gf ga := hS2
  show t_X d 240 10 lv1 [] g2 P
  refine t_0 yrs_10 rfl (ld_a l0) ?_
  refine t_3 yrs_11 rfl (ar := ([pvR 196], [])) (pcal_w (as := []) rfl rfl rfl eo_196) ⟨by omega, Nat.le_of_ble_eq_true rfl, Nat.le_of_ble_eq_true rfl, rfl⟩ ?_
  have b3 := hH p (by omega)
  have z3 := tH_n (B := B) (n := n) (p := p)
  refine nd_run (by omega) hB hS2 (by omega) (fun t3 => ?_) (fun t3 => ?_) rfl
  · unfold tDg at t3
    show t_X d 240 14 lv1 [oI 1] g2 P
    refine tz_eq yrs_14 (by decide) ⟨by omega, by omega⟩ (fun c4 => absurd c4 (by omega)) (fun c4 => ?_)
    show t_X d 240 17 lv1 [] g2 P
    refine t_0 yrs_17 rfl (ld_a l0) ?_
    refine t_0 yrs_18 rfl (pq_cv eo_196 rfl (show cF g2 196 18 = p from S_f hS2 0 (Nat.le_of_ble_eq_true rfl))) ?_
    show t_X d 240 21 lv1 [oI (p)] g2 P
    refine t_0 yrs_21 rfl (ld_i l1) ?_
    refine t_0 yrs_22 rfl rfl ?_
    refine t_0 yrs_23 rfl pq_add ?_
    refine tb_ge yrs_24 (by decide) ⟨by omega, by omega⟩ ⟨by omega, by omega⟩ (fun c5 => absurd c5 (by omega)) (fun c5 => ?_)
    show t_X d 240 27 lv1 [] g2 P
    refine t_0 yrs_27 rfl (ld_a l0) ?_
    refine t_0 yrs_28 rfl (pq_b (by decide)) ?_
    refine t_0 yrs_30 rfl (ld_a l0) ?_
    refine t_0 yrs_31 rfl (pq_cv eo_196 rfl (show cF g2 196 21 = 0 from S_f hS2 4 (Nat.le_of_ble_eq_true rfl))) ?_
    show t_X d 240 34 lv1 [oI 0, oI 10, pvR 196] g2 P
    refine t_0 yrs_34 rfl pq_mul ?_
    refine t_0 yrs_35 rfl (ld_a l0) ?_
    refine t_3 yrs_36 rfl (ar := ([pvR 196], [oI (10 * 0), pvR 196])) (pcal_w (as := []) rfl rfl rfl eo_196) ⟨by omega, Nat.le_of_ble_eq_true rfl, Nat.le_of_ble_eq_true rfl, rfl⟩ ?_
    refine nh_run hB hS2 (by omega) ?_ rfl
    show t_X d 240 39 lv1 [oI (tH B n p), oI (10 * 0), pvR 196] g2 P
    refine t_0 yrs_39 rfl pq_add ?_
    refine t_0 yrs_40 rfl (pq_b (by decide)) ?_
    refine t_0 yrs_42 rfl pq_sub ?_
    refine ts_f (n := 4) rfl rfl (by decide) yrs_43 rfl eo_196 hS2 wt_nWr_196_21 gy_196_21 (by decide) ⟨by omega, by omega⟩ (fun g6 hS6 => ?_)
    replace hS6 : nS g0 g6 p m s ft (((10 * 0) + (tH B n p)) - 48) c gf ga := hS6
    show t_X d 240 46 lv1 [] g6 P
    refine t_0 yrs_46 rfl (ld_a l0) ?_
    refine t_0 yrs_47 rfl (ld_a l0) ?_
    refine t_0 yrs_48 rfl (pq_cv eo_196 rfl (show cF g6 196 18 = p from S_f hS6 0 (Nat.le_of_ble_eq_true rfl))) ?_
    show t_X d 240 51 lv1 [oI (p), pvR 196] g6 P
    refine t_0 yrs_51 rfl rfl ?_
    refine t_0 yrs_52 rfl pq_add ?_
    refine ts_f (n := 0) rfl rfl (by decide) yrs_53 rfl eo_196 hS6 wt_nWr_196_18 gy_196_18 (by decide) ⟨by omega, by omega⟩ (fun g7 hS7 => ?_)
    replace hS7 : nS g0 g7 (p + 1) m s ft (((10 * 0) + (tH B n p)) - 48) c gf ga := hS7
    show t_X d 240 56 lv1 [] g7 P
    refine t_1 yrs_56 rfl (pb_goto (pc := 56) (by decide)) ?_
    show t_X d 240 10 lv1 [] g7 P
    refine t_0 yrs_10 rfl (ld_a l0) ?_
    refine t_3 yrs_11 rfl (ar := ([pvR 196], [])) (pcal_w (as := []) rfl rfl rfl eo_196) ⟨by omega, Nat.le_of_ble_eq_true rfl, Nat.le_of_ble_eq_true rfl, rfl⟩ ?_
    have b8 := hH (p + 1) (by omega)
    have z8 := tH_n (B := B) (n := n) (p := p + 1)
    refine nd_run (by omega) hB hS7 (by omega) (fun t8 => ?_) (fun t8 => ?_) rfl
    · unfold tDg at t8
      show t_X d 240 14 lv1 [oI 1] g7 P
      refine tz_eq yrs_14 (by decide) ⟨by omega, by omega⟩ (fun c9 => absurd c9 (by omega)) (fun c9 => ?_)
      show t_X d 240 17 lv1 [] g7 P
      refine t_0 yrs_17 rfl (ld_a l0) ?_
      refine t_0 yrs_18 rfl (pq_cv eo_196 rfl (show cF g7 196 18 = p + 1 from S_f hS7 0 (Nat.le_of_ble_eq_true rfl))) ?_
      show t_X d 240 21 lv1 [oI (p + 1)] g7 P
      refine t_0 yrs_21 rfl (ld_i l1) ?_
      refine t_0 yrs_22 rfl rfl ?_
      refine t_0 yrs_23 rfl pq_add ?_
      refine tb_ge yrs_24 (by decide) ⟨by omega, by omega⟩ ⟨by omega, by omega⟩ (fun c10 => absurd c10 (by omega)) (fun c10 => ?_)
      show t_X d 240 27 lv1 [] g7 P
      refine t_0 yrs_27 rfl (ld_a l0) ?_
      refine t_0 yrs_28 rfl (pq_b (by decide)) ?_
      refine t_0 yrs_30 rfl (ld_a l0) ?_
      refine t_0 yrs_31 rfl (pq_cv eo_196 rfl (show cF g7 196 21 = ((10 * 0) + (tH B n p)) - 48 from S_f hS7 4 (Nat.le_of_ble_eq_true rfl))) ?_
      show t_X d 240 34 lv1 [oI (((10 * 0) + (tH B n p)) - 48), oI 10, pvR 196] g7 P
      refine t_0 yrs_34 rfl pq_mul ?_
      refine t_0 yrs_35 rfl (ld_a l0) ?_
      refine t_3 yrs_36 rfl (ar := ([pvR 196], [oI (10 * (((10 * 0) + (tH B n p)) - 48)), pvR 196])) (pcal_w (as := []) rfl rfl rfl eo_196) ⟨by omega, Nat.le_of_ble_eq_true rfl, Nat.le_of_ble_eq_true rfl, rfl⟩ ?_
      refine nh_run hB hS7 (by omega) ?_ rfl
      show t_X d 240 39 lv1 [oI (tH B n (p + 1)), oI (10 * (((10 * 0) + (tH B n p)) - 48)), pvR 196] g7 P
      refine t_0 yrs_39 rfl pq_add ?_
      refine t_0 yrs_40 rfl (pq_b (by decide)) ?_
      refine t_0 yrs_42 rfl pq_sub ?_
      refine ts_f (n := 4) rfl rfl (by decide) yrs_43 rfl eo_196 hS7 wt_nWr_196_21 gy_196_21 (by decide) ⟨by omega, by omega⟩ (fun g11 hS11 => ?_)
      replace hS11 : nS g0 g11 (p + 1) m s ft (((10 * (((10 * 0) + (tH B n p)) - 48)) + (tH B n (p + 1))) - 48) c gf ga := hS11
      show t_X d 240 46 lv1 [] g11 P
      refine t_0 yrs_46 rfl (ld_a l0) ?_
      refine t_0 yrs_47 rfl (ld_a l0) ?_
      refine t_0 yrs_48 rfl (pq_cv eo_196 rfl (show cF g11 196 18 = p + 1 from S_f hS11 0 (Nat.le_of_ble_eq_true rfl))) ?_
      show t_X d 240 51 lv1 [oI (p + 1), pvR 196] g11 P
      refine t_0 yrs_51 rfl rfl ?_
      refine t_0 yrs_52 rfl pq_add ?_
      refine ts_f (n := 0) rfl rfl (by decide) yrs_53 rfl eo_196 hS11 wt_nWr_196_18 gy_196_18 (by decide) ⟨by omega, by omega⟩ (fun g12 hS12 => ?_)
      replace hS12 : nS g0 g12 ((p + 1) + 1) m s ft (((10 * (((10 * 0) + (tH B n p)) - 48)) + (tH B n (p + 1))) - 48) c gf ga := hS12
      show t_X d 240 56 lv1 [] g12 P
      refine t_1 yrs_56 rfl (pb_goto (pc := 56) (by decide)) ?_
      show t_X d 240 10 lv1 [] g12 P
      refine t_0 yrs_10 rfl (ld_a l0) ?_
      refine t_3 yrs_11 rfl (ar := ([pvR 196], [])) (pcal_w (as := []) rfl rfl rfl eo_196) ⟨by omega, Nat.le_of_ble_eq_true rfl, Nat.le_of_ble_eq_true rfl, rfl⟩ ?_
      have b13 := hH ((p + 1) + 1) (by omega)
      have z13 := tH_n (B := B) (n := n) (p := (p + 1) + 1)
      refine nd_run (by omega) hB hS12 (by omega) (fun t13 => ?_) (fun t13 => ?_) rfl
      · unfold tDg at t13
        show t_X d 240 14 lv1 [oI 1] g12 P
        refine tz_eq yrs_14 (by decide) ⟨by omega, by omega⟩ (fun c14 => absurd c14 (by omega)) (fun c14 => ?_)
        show t_X d 240 17 lv1 [] g12 P
        refine t_0 yrs_17 rfl (ld_a l0) ?_
        refine t_0 yrs_18 rfl (pq_cv eo_196 rfl (show cF g12 196 18 = (p + 1) + 1 from S_f hS12 0 (Nat.le_of_ble_eq_true rfl))) ?_
        show t_X d 240 21 lv1 [oI ((p + 1) + 1)] g12 P
        refine t_0 yrs_21 rfl (ld_i l1) ?_
        refine t_0 yrs_22 rfl rfl ?_
        refine t_0 yrs_23 rfl pq_add ?_
        refine tb_ge yrs_24 (by decide) ⟨by omega, by omega⟩ ⟨by omega, by omega⟩ (fun c15 => ?_) (fun c15 => absurd c15 (by omega))
        show t_X d 240 59 lv1 [] g12 P
        refine t_0 yrs_59 rfl (ld_a l0) ?_
        refine t_0 yrs_60 rfl (pq_cv eo_196 rfl (show cF g12 196 18 = (p + 1) + 1 from S_f hS12 0 (Nat.le_of_ble_eq_true rfl))) ?_
        show t_X d 240 63 lv1 [oI ((p + 1) + 1)] g12 P
        refine t_0 yrs_63 rfl (ld_i l1) ?_
        refine tb_ne yrs_64 (by decide) ⟨by omega, by omega⟩ ⟨by omega, by omega⟩ (fun c16 => ?_) (fun c16 => absurd c16 (by omega))
        show t_X d 240 77 lv1 [] g12 P
        refine t_0 yrs_77 rfl (ld_a l0) ?_
        refine t_0 yrs_78 rfl (pq_cv eo_196 rfl (show cF g12 196 21 = ((10 * (((10 * 0) + (tH B n p)) - 48)) + (tH B n (p + 1))) - 48 from S_f hS12 4 (Nat.le_of_ble_eq_true rfl))) ?_
        show t_X d 240 81 lv1 [oI (((10 * (((10 * 0) + (tH B n p)) - 48)) + (tH B n (p + 1))) - 48)] g12 P
        refine t_0 yrs_81 rfl (pq_b (by decide)) ?_
        refine tb_lt yrs_83 (by decide) ⟨by omega, by omega⟩ ⟨by omega, by omega⟩ (fun c17 => ?_) (fun c17 => ?_)
        · show t_X d 240 95 lv1 [] g12 P
          refine t_0 yrs_95 rfl rfl ?_
          refine t_1 yrs_96 rfl (pb_goto (pc := 96) (by decide)) ?_
          show t_X d 240 100 lv1 [oI 1] g12 P
          refine t_5 yrs_100 rfl rfl ?_
          refine hO _ _ _ hS12 ?_
          unfold tNu tDg
          omega
        · show t_X d 240 86 lv1 [] g12 P
          refine t_0 yrs_86 rfl (ld_a l0) ?_
          refine t_0 yrs_87 rfl rfl ?_
          refine t_0 yrs_88 rfl (ld_i l1) ?_
          refine t_3 yrs_89 rfl (ar := ([pvR 196, oI 3, oI (p)], [])) (pcal_w (as := [oI (p), oI 3]) rfl rfl rfl eo_196) ⟨by omega, Nat.le_of_ble_eq_true rfl, Nat.le_of_ble_eq_true rfl, rfl⟩ ?_
          refine nw_run hB hS12 ⟨by omega, by omega⟩ ⟨by omega, by omega⟩ (fun g18 hS18 => ?_) rfl rfl rfl
          replace hS18 : nS g0 g18 ((p + 1) + 1) m s (-1000 * 3 - p) (((10 * (((10 * 0) + (tH B n p)) - 48)) + (tH B n (p + 1))) - 48) c gf ga := hS18
          show t_X d 240 92 lv1 [oI 0] g18 P
          refine tz_eq yrs_92 (by decide) ⟨by omega, by omega⟩ (fun c19 => ?_) (fun c19 => absurd c19 (by omega))
          show t_X d 240 99 lv1 [] g18 P
          refine t_0 yrs_99 rfl rfl ?_
          refine t_5 yrs_100 rfl rfl ?_
          exact hF _ _ _ _ hS18 (by unfold tNf tDg; omega)
      · unfold tDg at t13
        show t_X d 240 14 lv1 [oI 0] g12 P
        refine tz_eq yrs_14 (by decide) ⟨by omega, by omega⟩ (fun c20 => ?_) (fun c20 => absurd c20 (by omega))
        show t_X d 240 59 lv1 [] g12 P
        refine t_0 yrs_59 rfl (ld_a l0) ?_
        refine t_0 yrs_60 rfl (pq_cv eo_196 rfl (show cF g12 196 18 = (p + 1) + 1 from S_f hS12 0 (Nat.le_of_ble_eq_true rfl))) ?_
        show t_X d 240 63 lv1 [oI ((p + 1) + 1)] g12 P
        refine t_0 yrs_63 rfl (ld_i l1) ?_
        refine tb_ne yrs_64 (by decide) ⟨by omega, by omega⟩ ⟨by omega, by omega⟩ (fun c21 => ?_) (fun c21 => absurd c21 (by omega))
        show t_X d 240 77 lv1 [] g12 P
        refine t_0 yrs_77 rfl (ld_a l0) ?_
        refine t_0 yrs_78 rfl (pq_cv eo_196 rfl (show cF g12 196 21 = ((10 * (((10 * 0) + (tH B n p)) - 48)) + (tH B n (p + 1))) - 48 from S_f hS12 4 (Nat.le_of_ble_eq_true rfl))) ?_
        show t_X d 240 81 lv1 [oI (((10 * (((10 * 0) + (tH B n p)) - 48)) + (tH B n (p + 1))) - 48)] g12 P
        refine t_0 yrs_81 rfl (pq_b (by decide)) ?_
        refine tb_lt yrs_83 (by decide) ⟨by omega, by omega⟩ ⟨by omega, by omega⟩ (fun c22 => ?_) (fun c22 => ?_)
        · show t_X d 240 95 lv1 [] g12 P
          refine t_0 yrs_95 rfl rfl ?_
          refine t_1 yrs_96 rfl (pb_goto (pc := 96) (by decide)) ?_
          show t_X d 240 100 lv1 [oI 1] g12 P
          refine t_5 yrs_100 rfl rfl ?_
          refine hO _ _ _ hS12 ?_
          unfold tNu tDg
          omega
        · show t_X d 240 86 lv1 [] g12 P
          refine t_0 yrs_86 rfl (ld_a l0) ?_
          refine t_0 yrs_87 rfl rfl ?_
          refine t_0 yrs_88 rfl (ld_i l1) ?_
          refine t_3 yrs_89 rfl (ar := ([pvR 196, oI 3, oI (p)], [])) (pcal_w (as := [oI (p), oI 3]) rfl rfl rfl eo_196) ⟨by omega, Nat.le_of_ble_eq_true rfl, Nat.le_of_ble_eq_true rfl, rfl⟩ ?_
          refine nw_run hB hS12 ⟨by omega, by omega⟩ ⟨by omega, by omega⟩ (fun g23 hS23 => ?_) rfl rfl rfl
          replace hS23 : nS g0 g23 ((p + 1) + 1) m s (-1000 * 3 - p) (((10 * (((10 * 0) + (tH B n p)) - 48)) + (tH B n (p + 1))) - 48) c gf ga := hS23
          show t_X d 240 92 lv1 [oI 0] g23 P
          refine tz_eq yrs_92 (by decide) ⟨by omega, by omega⟩ (fun c24 => ?_) (fun c24 => absurd c24 (by omega))
          show t_X d 240 99 lv1 [] g23 P
          refine t_0 yrs_99 rfl rfl ?_
          refine t_5 yrs_100 rfl rfl ?_
          exact hF _ _ _ _ hS23 (by unfold tNf tDg; omega)
    · unfold tDg at t8
      show t_X d 240 14 lv1 [oI 0] g7 P
      refine tz_eq yrs_14 (by decide) ⟨by omega, by omega⟩ (fun c25 => ?_) (fun c25 => absurd c25 (by omega))
      show t_X d 240 59 lv1 [] g7 P
      refine t_0 yrs_59 rfl (ld_a l0) ?_
      refine t_0 yrs_60 rfl (pq_cv eo_196 rfl (show cF g7 196 18 = p + 1 from S_f hS7 0 (Nat.le_of_ble_eq_true rfl))) ?_
      show t_X d 240 63 lv1 [oI (p + 1)] g7 P
      refine t_0 yrs_63 rfl (ld_i l1) ?_
      refine tb_ne yrs_64 (by decide) ⟨by omega, by omega⟩ ⟨by omega, by omega⟩ (fun c26 => ?_) (fun c26 => absurd c26 (by omega))
      show t_X d 240 77 lv1 [] g7 P
      refine t_0 yrs_77 rfl (ld_a l0) ?_
      refine t_0 yrs_78 rfl (pq_cv eo_196 rfl (show cF g7 196 21 = ((10 * 0) + (tH B n p)) - 48 from S_f hS7 4 (Nat.le_of_ble_eq_true rfl))) ?_
      show t_X d 240 81 lv1 [oI (((10 * 0) + (tH B n p)) - 48)] g7 P
      refine t_0 yrs_81 rfl (pq_b (by decide)) ?_
      refine tb_lt yrs_83 (by decide) ⟨by omega, by omega⟩ ⟨by omega, by omega⟩ (fun c27 => ?_) (fun c27 => absurd c27 (by omega))
      show t_X d 240 95 lv1 [] g7 P
      refine t_0 yrs_95 rfl rfl ?_
      refine t_1 yrs_96 rfl (pb_goto (pc := 96) (by decide)) ?_
      show t_X d 240 100 lv1 [oI 1] g7 P
      refine t_5 yrs_100 rfl rfl ?_
      refine hO _ _ _ hS7 ?_
      unfold tNu tDg
      omega
  · unfold tDg at t3
    show t_X d 240 14 lv1 [oI 0] g2 P
    refine tz_eq yrs_14 (by decide) ⟨by omega, by omega⟩ (fun c28 => ?_) (fun c28 => absurd c28 (by omega))
    show t_X d 240 59 lv1 [] g2 P
    refine t_0 yrs_59 rfl (ld_a l0) ?_
    refine t_0 yrs_60 rfl (pq_cv eo_196 rfl (show cF g2 196 18 = p from S_f hS2 0 (Nat.le_of_ble_eq_true rfl))) ?_
    show t_X d 240 63 lv1 [oI (p)] g2 P
    refine t_0 yrs_63 rfl (ld_i l1) ?_
    refine tb_ne yrs_64 (by decide) ⟨by omega, by omega⟩ ⟨by omega, by omega⟩ (fun c29 => absurd c29 (by omega)) (fun c29 => ?_)
    show t_X d 240 67 lv1 [] g2 P
    refine t_0 yrs_67 rfl (ld_a l0) ?_
    refine t_0 yrs_68 rfl rfl ?_
    refine t_0 yrs_69 rfl (ld_a l0) ?_
    refine t_0 yrs_70 rfl (pq_cv eo_196 rfl (show cF g2 196 18 = p from S_f hS2 0 (Nat.le_of_ble_eq_true rfl))) ?_
    show t_X d 240 73 lv1 [oI (p), oI 1, pvR 196] g2 P
    refine t_3 yrs_73 rfl (ar := ([pvR 196, oI 1, oI (p)], [])) (pcal_w (as := [oI (p), oI 1]) rfl rfl rfl eo_196) ⟨by omega, Nat.le_of_ble_eq_true rfl, Nat.le_of_ble_eq_true rfl, rfl⟩ ?_
    refine nw_run hB hS2 ⟨by omega, by omega⟩ ⟨by omega, by omega⟩ (fun g30 hS30 => ?_) rfl rfl rfl
    replace hS30 : nS g0 g30 p m s (-1000 * 1 - p) 0 c gf ga := hS30
    show t_X d 240 76 lv1 [oI 0] g30 P
    refine t_5 yrs_76 rfl rfl ?_
    exact hF _ _ _ _ hS30 (by unfold tNf tDg; omega)
set_option maxHeartbeats 2000000 in
theorem nl_p {d : Nat} {g0 : pH} {B : tC} {n : Int} (hB : nB g0 B n) {p p0 m s ft u a z : Int} (ha : 0 ≤ a ∧ a ≤ 31 ∧ 0 ≤ z ∧ z ≤ 31 ∧ a ≤ z) (hm : 0 ≤ m ∧ m + (z - a + 1) ≤ 60) {c0 gf ga : tC} {P : Option pv × pH → Prop} (hO : ∀ (g1 : pH) (c1 : tC), nS g0 g1 p (m + (z - a + 1)) s ft u c1 gf ga → (∀ j : Nat, (j : Int) < m → c1 j = c0 j) → (∀ i : Nat, (i : Int) < z - a + 1 → c1 (m + i).toNat = a + (i : Int)) → P (some (oI 1), g1)) : ∀ (y k : Nat) (g : pH) (lv : List (Nat × pv)) {c : tC}, z - a + 1 - k ≤ y → (k : Int) ≤ z - a + 1 → nS g0 g p m s ft u c gf ga → ((∀ j : Nat, (j : Int) < m → c j = c0 j) ∧ ∀ i : Nat, i < k → c (m + i).toNat = a + (i : Int)) → px_lg lv 0 = some (pvR 196) → px_lg lv 1 = some (oI p0) → px_lg lv 2 = some (oI a) → px_lg lv 3 = some (oI 1) → px_lg lv 4 = some (oI (z - a + 1)) → px_lg lv 5 = some (oI (k : Int)) → t_X d 239 96 lv [] g P := by
  intro y
  induction y with
  | zero =>
    intro k g lv c hy hk hS hc l0 l1 l2 l3 l4 l5
    refine t_0 yrr_96 rfl (ld_i l5) ?_
    refine t_0 yrr_98 rfl (ld_i l4) ?_
    refine tb_ge yrr_100 (by decide) ⟨by omega, by omega⟩ ⟨by omega, by omega⟩ (fun c1 => ?_) (fun c1 => absurd c1 (by omega))
    show t_X d 239 127 lv [] g P
    refine t_0 yrr_127 rfl (ld_a l0) ?_
    refine t_0 yrr_128 rfl (ld_a l0) ?_
    refine t_0 yrr_129 rfl (pq_cv eo_196 rfl (show cF g 196 25 = m from S_f hS 1 (Nat.le_of_ble_eq_true rfl))) ?_
    show t_X d 239 132 lv [oI (m), pvR 196] g P
    refine t_0 yrr_132 rfl (ld_i l4) ?_
    refine t_0 yrr_134 rfl pq_add ?_
    refine ts_f (n := 1) rfl rfl (by decide) yrr_135 rfl eo_196 hS wt_nWr_196_25 gy_196_25 (by decide) ⟨by omega, by omega⟩ (fun g2 hS2 => ?_)
    replace hS2 : nS g0 g2 p (m + (z - a + 1)) s ft u c gf ga := hS2
    show t_X d 239 138 lv [] g2 P
    refine t_0 yrr_138 rfl rfl ?_
    refine t_5 yrr_139 rfl rfl ?_
    exact hO _ _ hS2 hc.1 (fun i hi => hc.2 i (by omega))
  | succ y ih =>
    intro k g lv c hy hk hS hc l0 l1 l2 l3 l4 l5
    by_cases hkk : (k : Int) < z - a + 1
    · skip
      refine t_0 yrr_96 rfl (ld_i l5) ?_
      refine t_0 yrr_98 rfl (ld_i l4) ?_
      refine tb_ge yrr_100 (by decide) ⟨by omega, by omega⟩ ⟨by omega, by omega⟩ (fun c1 => absurd c1 (by omega)) (fun c1 => ?_)
      show t_X d 239 103 lv [] g P
      refine t_0 yrr_103 rfl (ld_a l0) ?_
      refine t_0 yrr_104 rfl (cq_196_28 (S_J hS).1) ?_
      show t_X d 239 107 lv [pvR 213] g P
      refine t_0 yrr_107 rfl (ld_a l0) ?_
      refine t_0 yrr_108 rfl (pq_cv eo_196 rfl (show cF g 196 25 = m from S_f hS 1 (Nat.le_of_ble_eq_true rfl))) ?_
      show t_X d 239 111 lv [oI (m), pvR 213] g P
      refine t_0 yrr_111 rfl (ld_i l5) ?_
      refine t_0 yrr_113 rfl pq_add ?_
      refine t_0 yrr_114 rfl (ld_i l2) ?_
      refine t_0 yrr_115 rfl (ld_i l3) ?_
      refine t_0 yrr_116 rfl (ld_i l5) ?_
      refine t_0 yrr_118 rfl pq_mul ?_
      refine t_0 yrr_119 rfl pq_add ?_
      refine ts_a (n := 0) rfl rfl (by decide) yrr_120 hS ez_213 rfl wu_nWr_213 gu_213 (by decide) ⟨by omega, by omega⟩ ⟨by omega, by omega⟩ (fun g2 hS2 => ?_)
      replace hS2 : nS g0 g2 p m s ft u (updI c (m + (k : Int)).toNat (a + (1 * (k : Int)))) gf ga := hS2
      show t_X d 239 121 lv [] g2 P
      refine t_2 yrr_121 rfl (w := (px_s1 lv 5 (oI ((k : Int) + 1)), [])) (pq_inc l5 (by decide)) ?_
      replace l0 : px_lg (px_s1 lv 5 (oI ((k : Int) + 1))) 0 = some (pvR 196) := s1_ne (by decide) (fun _ => rfl) l0
      replace l1 : px_lg (px_s1 lv 5 (oI ((k : Int) + 1))) 1 = some (oI (p0)) := s1_ne (by decide) (fun _ => rfl) l1
      replace l2 : px_lg (px_s1 lv 5 (oI ((k : Int) + 1))) 2 = some (oI (a)) := s1_ne (by decide) (fun _ => rfl) l2
      replace l3 : px_lg (px_s1 lv 5 (oI ((k : Int) + 1))) 3 = some (oI 1) := s1_ne (by decide) (fun _ => rfl) l3
      replace l4 : px_lg (px_s1 lv 5 (oI ((k : Int) + 1))) 4 = some (oI (z - a + 1)) := s1_ne (by decide) (fun _ => rfl) l4
      have l5 : px_lg (px_s1 lv 5 (oI ((k : Int) + 1))) 5 = some (oI ((k : Int) + 1)) := s1_eq
      generalize px_s1 lv 5 (oI ((k : Int) + 1)) = lv3 at l0 l1 l2 l3 l4 l5 ⊢
      show t_X d 239 124 lv3 [] g2 P
      refine t_1 yrr_124 rfl (pb_goto (pc := 124) (by decide)) ?_
      show t_X d 239 96 lv3 [] g2 P
      refine ih (k + 1) _ _ (by omega) (by omega) hS2 ⟨fun j hj => ?_, fun i hi => ?_⟩ l0 l1 l2 l3 l4 l5
      · unfold updI
        rw [if_neg (by omega)]
        exact hc.1 j hj
      · unfold updI
        by_cases e : i = k
        · subst e; rw [if_pos rfl]; omega
        · rw [if_neg (by omega)]; exact hc.2 i (by omega)
    · skip
      refine t_0 yrr_96 rfl (ld_i l5) ?_
      refine t_0 yrr_98 rfl (ld_i l4) ?_
      refine tb_ge yrr_100 (by decide) ⟨by omega, by omega⟩ ⟨by omega, by omega⟩ (fun c1 => ?_) (fun c1 => absurd c1 (by omega))
      show t_X d 239 127 lv [] g P
      refine t_0 yrr_127 rfl (ld_a l0) ?_
      refine t_0 yrr_128 rfl (ld_a l0) ?_
      refine t_0 yrr_129 rfl (pq_cv eo_196 rfl (show cF g 196 25 = m from S_f hS 1 (Nat.le_of_ble_eq_true rfl))) ?_
      show t_X d 239 132 lv [oI (m), pvR 196] g P
      refine t_0 yrr_132 rfl (ld_i l4) ?_
      refine t_0 yrr_134 rfl pq_add ?_
      refine ts_f (n := 1) rfl rfl (by decide) yrr_135 rfl eo_196 hS wt_nWr_196_25 gy_196_25 (by decide) ⟨by omega, by omega⟩ (fun g2 hS2 => ?_)
      replace hS2 : nS g0 g2 p (m + (z - a + 1)) s ft u c gf ga := hS2
      show t_X d 239 138 lv [] g2 P
      refine t_0 yrr_138 rfl rfl ?_
      refine t_5 yrr_139 rfl rfl ?_
      exact hO _ _ hS2 hc.1 (fun i hi => hc.2 i (by omega))
set_option maxHeartbeats 2000000 in
theorem nl_m {d : Nat} {g0 : pH} {B : tC} {n : Int} (hB : nB g0 B n) {p p0 m s ft u a z : Int} (ha : 0 ≤ a ∧ a ≤ 31 ∧ 0 ≤ z ∧ z ≤ 31 ∧ z < a) (hm : 0 ≤ m ∧ m + (a - z + 1) ≤ 60) {c0 gf ga : tC} {P : Option pv × pH → Prop} (hO : ∀ (g1 : pH) (c1 : tC), nS g0 g1 p (m + (a - z + 1)) s ft u c1 gf ga → (∀ j : Nat, (j : Int) < m → c1 j = c0 j) → (∀ i : Nat, (i : Int) < a - z + 1 → c1 (m + i).toNat = a - (i : Int)) → P (some (oI 1), g1)) : ∀ (y k : Nat) (g : pH) (lv : List (Nat × pv)) {c : tC}, a - z + 1 - k ≤ y → (k : Int) ≤ a - z + 1 → nS g0 g p m s ft u c gf ga → ((∀ j : Nat, (j : Int) < m → c j = c0 j) ∧ ∀ i : Nat, i < k → c (m + i).toNat = a - (i : Int)) → px_lg lv 0 = some (pvR 196) → px_lg lv 1 = some (oI p0) → px_lg lv 2 = some (oI a) → px_lg lv 3 = some (oI (-1)) → px_lg lv 4 = some (oI (a - z + 1)) → px_lg lv 5 = some (oI (k : Int)) → t_X d 239 96 lv [] g P := by
  intro y
  induction y with
  | zero =>
    intro k g lv c hy hk hS hc l0 l1 l2 l3 l4 l5
    refine t_0 yrr_96 rfl (ld_i l5) ?_
    refine t_0 yrr_98 rfl (ld_i l4) ?_
    refine tb_ge yrr_100 (by decide) ⟨by omega, by omega⟩ ⟨by omega, by omega⟩ (fun c1 => ?_) (fun c1 => absurd c1 (by omega))
    show t_X d 239 127 lv [] g P
    refine t_0 yrr_127 rfl (ld_a l0) ?_
    refine t_0 yrr_128 rfl (ld_a l0) ?_
    refine t_0 yrr_129 rfl (pq_cv eo_196 rfl (show cF g 196 25 = m from S_f hS 1 (Nat.le_of_ble_eq_true rfl))) ?_
    show t_X d 239 132 lv [oI (m), pvR 196] g P
    refine t_0 yrr_132 rfl (ld_i l4) ?_
    refine t_0 yrr_134 rfl pq_add ?_
    refine ts_f (n := 1) rfl rfl (by decide) yrr_135 rfl eo_196 hS wt_nWr_196_25 gy_196_25 (by decide) ⟨by omega, by omega⟩ (fun g2 hS2 => ?_)
    replace hS2 : nS g0 g2 p (m + (a - z + 1)) s ft u c gf ga := hS2
    show t_X d 239 138 lv [] g2 P
    refine t_0 yrr_138 rfl rfl ?_
    refine t_5 yrr_139 rfl rfl ?_
    exact hO _ _ hS2 hc.1 (fun i hi => hc.2 i (by omega))
  | succ y ih =>
    intro k g lv c hy hk hS hc l0 l1 l2 l3 l4 l5
    by_cases hkk : (k : Int) < a - z + 1
    · skip
      refine t_0 yrr_96 rfl (ld_i l5) ?_
      refine t_0 yrr_98 rfl (ld_i l4) ?_
      refine tb_ge yrr_100 (by decide) ⟨by omega, by omega⟩ ⟨by omega, by omega⟩ (fun c1 => absurd c1 (by omega)) (fun c1 => ?_)
      show t_X d 239 103 lv [] g P
      refine t_0 yrr_103 rfl (ld_a l0) ?_
      refine t_0 yrr_104 rfl (cq_196_28 (S_J hS).1) ?_
      show t_X d 239 107 lv [pvR 213] g P
      refine t_0 yrr_107 rfl (ld_a l0) ?_
      refine t_0 yrr_108 rfl (pq_cv eo_196 rfl (show cF g 196 25 = m from S_f hS 1 (Nat.le_of_ble_eq_true rfl))) ?_
      show t_X d 239 111 lv [oI (m), pvR 213] g P
      refine t_0 yrr_111 rfl (ld_i l5) ?_
      refine t_0 yrr_113 rfl pq_add ?_
      refine t_0 yrr_114 rfl (ld_i l2) ?_
      refine t_0 yrr_115 rfl (ld_i l3) ?_
      refine t_0 yrr_116 rfl (ld_i l5) ?_
      refine t_0 yrr_118 rfl pq_mul ?_
      refine t_0 yrr_119 rfl pq_add ?_
      refine ts_a (n := 0) rfl rfl (by decide) yrr_120 hS ez_213 rfl wu_nWr_213 gu_213 (by decide) ⟨by omega, by omega⟩ ⟨by omega, by omega⟩ (fun g2 hS2 => ?_)
      replace hS2 : nS g0 g2 p m s ft u (updI c (m + (k : Int)).toNat (a + ((-1) * (k : Int)))) gf ga := hS2
      show t_X d 239 121 lv [] g2 P
      refine t_2 yrr_121 rfl (w := (px_s1 lv 5 (oI ((k : Int) + 1)), [])) (pq_inc l5 (by decide)) ?_
      replace l0 : px_lg (px_s1 lv 5 (oI ((k : Int) + 1))) 0 = some (pvR 196) := s1_ne (by decide) (fun _ => rfl) l0
      replace l1 : px_lg (px_s1 lv 5 (oI ((k : Int) + 1))) 1 = some (oI (p0)) := s1_ne (by decide) (fun _ => rfl) l1
      replace l2 : px_lg (px_s1 lv 5 (oI ((k : Int) + 1))) 2 = some (oI (a)) := s1_ne (by decide) (fun _ => rfl) l2
      replace l3 : px_lg (px_s1 lv 5 (oI ((k : Int) + 1))) 3 = some (oI (-1)) := s1_ne (by decide) (fun _ => rfl) l3
      replace l4 : px_lg (px_s1 lv 5 (oI ((k : Int) + 1))) 4 = some (oI (a - z + 1)) := s1_ne (by decide) (fun _ => rfl) l4
      have l5 : px_lg (px_s1 lv 5 (oI ((k : Int) + 1))) 5 = some (oI ((k : Int) + 1)) := s1_eq
      generalize px_s1 lv 5 (oI ((k : Int) + 1)) = lv3 at l0 l1 l2 l3 l4 l5 ⊢
      show t_X d 239 124 lv3 [] g2 P
      refine t_1 yrr_124 rfl (pb_goto (pc := 124) (by decide)) ?_
      show t_X d 239 96 lv3 [] g2 P
      refine ih (k + 1) _ _ (by omega) (by omega) hS2 ⟨fun j hj => ?_, fun i hi => ?_⟩ l0 l1 l2 l3 l4 l5
      · unfold updI
        rw [if_neg (by omega)]
        exact hc.1 j hj
      · unfold updI
        by_cases e : i = k
        · subst e; rw [if_pos rfl]; omega
        · rw [if_neg (by omega)]; exact hc.2 i (by omega)
    · skip
      refine t_0 yrr_96 rfl (ld_i l5) ?_
      refine t_0 yrr_98 rfl (ld_i l4) ?_
      refine tb_ge yrr_100 (by decide) ⟨by omega, by omega⟩ ⟨by omega, by omega⟩ (fun c1 => ?_) (fun c1 => absurd c1 (by omega))
      show t_X d 239 127 lv [] g P
      refine t_0 yrr_127 rfl (ld_a l0) ?_
      refine t_0 yrr_128 rfl (ld_a l0) ?_
      refine t_0 yrr_129 rfl (pq_cv eo_196 rfl (show cF g 196 25 = m from S_f hS 1 (Nat.le_of_ble_eq_true rfl))) ?_
      show t_X d 239 132 lv [oI (m), pvR 196] g P
      refine t_0 yrr_132 rfl (ld_i l4) ?_
      refine t_0 yrr_134 rfl pq_add ?_
      refine ts_f (n := 1) rfl rfl (by decide) yrr_135 rfl eo_196 hS wt_nWr_196_25 gy_196_25 (by decide) ⟨by omega, by omega⟩ (fun g2 hS2 => ?_)
      replace hS2 : nS g0 g2 p (m + (a - z + 1)) s ft u c gf ga := hS2
      show t_X d 239 138 lv [] g2 P
      refine t_0 yrr_138 rfl rfl ?_
      refine t_5 yrr_139 rfl rfl ?_
      exact hO _ _ hS2 hc.1 (fun i hi => hc.2 i (by omega))
set_option maxHeartbeats 4000000 in
theorem nrx_run {d : Nat} (hd : 3 ≤ d) {g0 g : pH} {B : tC} {n : Int} (hB : nB g0 B n) {p m s ft u : Int} {c gf ga : tC} (hS : nS g0 g p m s ft u c gf ga) (hp : 0 ≤ p ∧ p ≤ n) (hm : 0 ≤ m ∧ m ≤ 60) (hc : ∀ j : Nat, (j : Int) < m → 0 ≤ c j ∧ c j ≤ 31) {P : Option pv × pH → Prop} (hF : ∀ (g1 : pH) (f q m1 s1 u1 : Int) (c1 gf1 : tC), nS g0 g1 q m1 s1 f u1 c1 gf1 ga → tRo (tH B n) p m c (.inl f) → P (some (oI 0), g1)) (hO : ∀ (g1 : pH) (q m1 u1 : Int) (c1 : tC), nS g0 g1 q m1 s ft u1 c1 gf ga → tRo (tH B n) p m c (.inr (q, m1, c1)) → (∀ j : Nat, (j : Int) < m1 → 0 ≤ c1 j ∧ c1 j ≤ 31) → P (some (oI 1), g1)) {lv : List (Nat × pv)} (l0 : px_lg lv 0 = some (pvR 196)) : t_X d 239 0 lv [] g P := by
  have hn0 := hB.2.2.1
  have hn1 := hB.2.2.2
  have hH : ∀ q, 0 ≤ q → -1 ≤ tH B n q ∧ tH B n q ≤ 255 := fun q hq => tH_b (tp_b hB.2.1) (by omega) hq
  refine t_0 yrr_0 rfl (ld_a l0) ?_
  refine t_0 yrr_1 rfl (pq_cv eo_196 rfl (show cF g 196 18 = p from S_f hS 0 (Nat.le_of_ble_eq_true rfl))) ?_
  show t_X d 239 4 lv [oI (p)] g P
  refine t_2 yrr_4 rfl (w := (px_s1 lv 1 (oI (p)), [])) rfl ?_
  replace l0 : px_lg (px_s1 lv 1 (oI (p))) 0 = some (pvR 196) := s1_ne (by decide) (fun _ => rfl) l0
  have l1 : px_lg (px_s1 lv 1 (oI (p))) 1 = some (oI (p)) := s1_eq
  generalize px_s1 lv 1 (oI (p)) = lv1 at l0 l1 ⊢
  show t_X d 239 5 lv1 [] g P
  refine t_0 yrr_5 rfl (ld_a l0) ?_
  refine t_3 yrr_6 rfl (ar := ([pvR 196], [])) (pcal_w (as := []) rfl rfl rfl eo_196) ⟨by omega, Nat.le_of_ble_eq_true rfl, Nat.le_of_ble_eq_true rfl, rfl⟩ ?_
  refine ns_run (by omega) hB hS ⟨by omega, by omega⟩ (fun g2 f2 q2 v2 hS2 t2 => ?_) (fun g2 v2 q2 hS2 t2 => ?_) rfl
  · replace hS2 : nS g0 g2 q2 m s f2 v2 c gf ga := hS2
    show t_X d 239 9 lv1 [oI 0] g2 P
    refine tz_ne yrr_9 (by decide) ⟨by omega, by omega⟩ (fun c3 => absurd c3 (by omega)) (fun c3 => ?_)
    show t_X d 239 12 lv1 [] g2 P
    refine t_0 yrr_12 rfl rfl ?_
    refine t_5 yrr_13 rfl rfl ?_
    exact hF _ _ _ _ _ _ _ _ hS2 (Or.inl ⟨_, t2, rfl⟩)
  · replace hS2 : nS g0 g2 q2 m s ft v2 c gf ga := hS2
    have u2 := tNu_b t2
    have x2 := tNu_n t2
    show t_X d 239 9 lv1 [oI 1] g2 P
    refine tz_ne yrr_9 (by decide) ⟨by omega, by omega⟩ (fun c4 => ?_) (fun c4 => absurd c4 (by omega))
    show t_X d 239 14 lv1 [] g2 P
    refine t_0 yrr_14 rfl (ld_a l0) ?_
    refine t_0 yrr_15 rfl (pq_cv eo_196 rfl (show cF g2 196 21 = v2 from S_f hS2 4 (Nat.le_of_ble_eq_true rfl))) ?_
    show t_X d 239 18 lv1 [oI (v2)] g2 P
    refine t_2 yrr_18 rfl (w := (px_s1 lv1 2 (oI (v2)), [])) rfl ?_
    replace l0 : px_lg (px_s1 lv1 2 (oI (v2))) 0 = some (pvR 196) := s1_ne (by decide) (fun _ => rfl) l0
    replace l1 : px_lg (px_s1 lv1 2 (oI (v2))) 1 = some (oI (p)) := s1_ne (by decide) (fun _ => rfl) l1
    have l2 : px_lg (px_s1 lv1 2 (oI (v2))) 2 = some (oI (v2)) := s1_eq
    generalize px_s1 lv1 2 (oI (v2)) = lv5 at l0 l1 l2 ⊢
    show t_X d 239 19 lv5 [] g2 P
    refine t_0 yrr_19 rfl (ld_a l0) ?_
    refine t_3 yrr_20 rfl (ar := ([pvR 196], [])) (pcal_w (as := []) rfl rfl rfl eo_196) ⟨by omega, Nat.le_of_ble_eq_true rfl, Nat.le_of_ble_eq_true rfl, rfl⟩ ?_
    refine nh_run hB hS2 (by omega) ?_ rfl
    have b6 := hH q2 (by omega)
    have z6 := tH_n (B := B) (n := n) (p := q2)
    show t_X d 239 23 lv5 [oI (tH B n q2)] g2 P
    refine t_0 yrr_23 rfl (pq_b (by decide)) ?_
    refine tb_ne yrr_25 (by decide) ⟨by omega, by omega⟩ ⟨by omega, by omega⟩ (fun c7 => ?_) (fun c7 => ?_)
    · show t_X d 239 47 lv5 [] g2 P
      refine t_0 yrr_47 rfl (ld_a l0) ?_
      refine t_0 yrr_48 rfl (pq_cv eo_196 rfl (show cF g2 196 21 = v2 from S_f hS2 4 (Nat.le_of_ble_eq_true rfl))) ?_
      show t_X d 239 51 lv5 [oI (v2)] g2 P
      refine t_0 yrr_51 rfl (ld_i l2) ?_
      refine tb_ge yrr_52 (by decide) ⟨by omega, by omega⟩ ⟨by omega, by omega⟩ (fun c8 => ?_) (fun c8 => absurd c8 (by omega))
      show t_X d 239 59 lv5 [] g2 P
      refine t_0 yrr_59 rfl rfl ?_
      refine t_2 yrr_60 rfl (w := (px_s1 lv5 3 (oI 1), [])) rfl ?_
      replace l0 : px_lg (px_s1 lv5 3 (oI 1)) 0 = some (pvR 196) := s1_ne (by decide) (fun _ => rfl) l0
      replace l1 : px_lg (px_s1 lv5 3 (oI 1)) 1 = some (oI (p)) := s1_ne (by decide) (fun _ => rfl) l1
      replace l2 : px_lg (px_s1 lv5 3 (oI 1)) 2 = some (oI (v2)) := s1_ne (by decide) (fun _ => rfl) l2
      have l3 : px_lg (px_s1 lv5 3 (oI 1)) 3 = some (oI 1) := s1_eq
      generalize px_s1 lv5 3 (oI 1) = lv9 at l0 l1 l2 l3 ⊢
      show t_X d 239 61 lv9 [] g2 P
      refine t_0 yrr_61 rfl (ld_a l0) ?_
      refine t_0 yrr_62 rfl (pq_cv eo_196 rfl (show cF g2 196 21 = v2 from S_f hS2 4 (Nat.le_of_ble_eq_true rfl))) ?_
      show t_X d 239 65 lv9 [oI (v2)] g2 P
      refine t_0 yrr_65 rfl (ld_i l2) ?_
      refine t_0 yrr_66 rfl pq_sub ?_
      refine t_0 yrr_67 rfl (ld_i l3) ?_
      refine t_0 yrr_68 rfl pq_mul ?_
      refine t_0 yrr_69 rfl rfl ?_
      refine t_0 yrr_70 rfl pq_add ?_
      refine t_2 yrr_71 rfl (w := (px_s1 lv9 4 (oI (((v2 - v2) * 1) + 1)), [])) rfl ?_
      replace l0 : px_lg (px_s1 lv9 4 (oI (((v2 - v2) * 1) + 1))) 0 = some (pvR 196) := s1_ne (by decide) (fun _ => rfl) l0
      replace l1 : px_lg (px_s1 lv9 4 (oI (((v2 - v2) * 1) + 1))) 1 = some (oI (p)) := s1_ne (by decide) (fun _ => rfl) l1
      replace l2 : px_lg (px_s1 lv9 4 (oI (((v2 - v2) * 1) + 1))) 2 = some (oI (v2)) := s1_ne (by decide) (fun _ => rfl) l2
      replace l3 : px_lg (px_s1 lv9 4 (oI (((v2 - v2) * 1) + 1))) 3 = some (oI 1) := s1_ne (by decide) (fun _ => rfl) l3
      have l4 : px_lg (px_s1 lv9 4 (oI (((v2 - v2) * 1) + 1))) 4 = some (oI (((v2 - v2) * 1) + 1)) := s1_eq
      generalize px_s1 lv9 4 (oI (((v2 - v2) * 1) + 1)) = lv10 at l0 l1 l2 l3 l4 ⊢
      show t_X d 239 73 lv10 [] g2 P
      refine t_0 yrr_73 rfl (ld_a l0) ?_
      refine t_0 yrr_74 rfl (pq_cv eo_196 rfl (show cF g2 196 25 = m from S_f hS2 1 (Nat.le_of_ble_eq_true rfl))) ?_
      show t_X d 239 77 lv10 [oI (m)] g2 P
      refine t_0 yrr_77 rfl (ld_i l4) ?_
      refine t_0 yrr_79 rfl pq_add ?_
      refine t_0 yrr_80 rfl (pq_b (by decide)) ?_
      refine tb_le yrr_82 (by decide) ⟨by omega, by omega⟩ ⟨by omega, by omega⟩ (fun c11 => ?_) (fun c11 => ?_)
      · show t_X d 239 93 lv10 [] g2 P
        refine t_0 yrr_93 rfl rfl ?_
        refine t_2 yrr_94 rfl (w := (px_s1 lv10 5 (oI 0), [])) rfl ?_
        replace l0 : px_lg (px_s1 lv10 5 (oI 0)) 0 = some (pvR 196) := s1_ne (by decide) (fun _ => rfl) l0
        replace l1 : px_lg (px_s1 lv10 5 (oI 0)) 1 = some (oI (p)) := s1_ne (by decide) (fun _ => rfl) l1
        replace l2 : px_lg (px_s1 lv10 5 (oI 0)) 2 = some (oI (v2)) := s1_ne (by decide) (fun _ => rfl) l2
        replace l3 : px_lg (px_s1 lv10 5 (oI 0)) 3 = some (oI 1) := s1_ne (by decide) (fun _ => rfl) l3
        replace l4 : px_lg (px_s1 lv10 5 (oI 0)) 4 = some (oI (((v2 - v2) * 1) + 1)) := s1_ne (by decide) (fun _ => rfl) l4
        have l5 : px_lg (px_s1 lv10 5 (oI 0)) 5 = some (oI 0) := s1_eq
        generalize px_s1 lv10 5 (oI 0) = lv12 at l0 l1 l2 l3 l4 l5 ⊢
        show t_X d 239 96 lv12 [] g2 P
        replace l4 : px_lg lv12 4 = some (oI (v2 - v2 + 1)) := l4.trans (congrArg (fun x => some (oI x)) (by omega))
        refine nl_p hB (a := v2) (z := v2) (m := m) ⟨by omega, by omega, by omega, by omega, by omega⟩ ⟨by omega, by omega⟩ (c0 := c) (fun g1 c1 h1 h2 h3 => ?_) 40 0 _ _ (by omega) (by omega) hS2 ⟨fun j _ => rfl, fun i hi => absurd hi (by omega)⟩ l0 l1 l2 l3 l4 l5
        have ew : tW v2 v2 = v2 - v2 + 1 := by unfold tW; rw [if_pos (by omega)]
        rw [← ew] at h1 h3
        refine hO _ _ _ _ _ h1 (Or.inr ⟨_, _, t2, Or.inl ⟨by omega, Or.inr ⟨by omega, _, rfl, h2, fun k hk => by rw [h3 k hk, if_pos (by omega)]⟩⟩⟩) (fun j hj => ?_)
        by_cases e : (j : Int) < m
        · rw [h2 j e]; exact hc j e
        · have := h3 (j - m).toNat (by omega)
          rw [show (m + ((j - m).toNat : Int)).toNat = j by omega] at this
          omega
      · show t_X d 239 85 lv10 [] g2 P
        refine t_0 yrr_85 rfl (ld_a l0) ?_
        refine t_0 yrr_86 rfl (pq_b (by decide)) ?_
        refine t_0 yrr_88 rfl (ld_i l1) ?_
        refine t_3 yrr_89 rfl (ar := ([pvR 196, oI 6, oI (p)], [])) (pcal_w (as := [oI (p), oI 6]) rfl rfl rfl eo_196) ⟨by omega, Nat.le_of_ble_eq_true rfl, Nat.le_of_ble_eq_true rfl, rfl⟩ ?_
        refine nw_run hB hS2 ⟨by omega, by omega⟩ ⟨by omega, by omega⟩ (fun g13 hS13 => ?_) rfl rfl rfl
        replace hS13 : nS g0 g13 q2 m s (-1000 * 6 - p) v2 c gf ga := hS13
        show t_X d 239 92 lv10 [oI 0] g13 P
        refine t_5 yrr_92 rfl rfl ?_
        have ew : tW v2 v2 = v2 - v2 + 1 := by unfold tW; rw [if_pos (by omega)]
        exact hF _ _ _ _ _ _ _ _ hS13 (Or.inr ⟨_, _, t2, Or.inl ⟨by omega, Or.inl ⟨by omega, by rw [show -1000 * 6 - p = -6000 - p by omega]⟩⟩⟩)
    · show t_X d 239 28 lv5 [] g2 P
      refine t_0 yrr_28 rfl (ld_a l0) ?_
      refine t_0 yrr_29 rfl (ld_a l0) ?_
      refine t_0 yrr_30 rfl (pq_cv eo_196 rfl (show cF g2 196 18 = q2 from S_f hS2 0 (Nat.le_of_ble_eq_true rfl))) ?_
      show t_X d 239 33 lv5 [oI (q2), pvR 196] g2 P
      refine t_0 yrr_33 rfl rfl ?_
      refine t_0 yrr_34 rfl pq_add ?_
      refine ts_f (n := 0) rfl rfl (by decide) yrr_35 rfl eo_196 hS2 wt_nWr_196_18 gy_196_18 (by decide) ⟨by omega, by omega⟩ (fun g14 hS14 => ?_)
      replace hS14 : nS g0 g14 (q2 + 1) m s ft v2 c gf ga := hS14
      show t_X d 239 38 lv5 [] g14 P
      refine t_0 yrr_38 rfl (ld_a l0) ?_
      refine t_3 yrr_39 rfl (ar := ([pvR 196], [])) (pcal_w (as := []) rfl rfl rfl eo_196) ⟨by omega, Nat.le_of_ble_eq_true rfl, Nat.le_of_ble_eq_true rfl, rfl⟩ ?_
      refine ns_run (by omega) hB hS14 ⟨by omega, by omega⟩ (fun g15 f15 q15 v15 hS15 t15 => ?_) (fun g15 v15 q15 hS15 t15 => ?_) rfl
      · replace hS15 : nS g0 g15 q15 m s f15 v15 c gf ga := hS15
        show t_X d 239 42 lv5 [oI 0] g15 P
        refine tz_ne yrr_42 (by decide) ⟨by omega, by omega⟩ (fun c16 => absurd c16 (by omega)) (fun c16 => ?_)
        show t_X d 239 45 lv5 [] g15 P
        refine t_0 yrr_45 rfl rfl ?_
        refine t_5 yrr_46 rfl rfl ?_
        exact hF _ _ _ _ _ _ _ _ hS15 (Or.inr ⟨_, _, t2, Or.inr ⟨by omega, Or.inl ⟨_, t15, rfl⟩⟩⟩)
      · replace hS15 : nS g0 g15 q15 m s ft v15 c gf ga := hS15
        have u15 := tNu_b t15
        have x15 := tNu_n t15
        show t_X d 239 42 lv5 [oI 1] g15 P
        refine tz_ne yrr_42 (by decide) ⟨by omega, by omega⟩ (fun c17 => ?_) (fun c17 => absurd c17 (by omega))
        show t_X d 239 47 lv5 [] g15 P
        refine t_0 yrr_47 rfl (ld_a l0) ?_
        refine t_0 yrr_48 rfl (pq_cv eo_196 rfl (show cF g15 196 21 = v15 from S_f hS15 4 (Nat.le_of_ble_eq_true rfl))) ?_
        show t_X d 239 51 lv5 [oI (v15)] g15 P
        refine t_0 yrr_51 rfl (ld_i l2) ?_
        refine tb_ge yrr_52 (by decide) ⟨by omega, by omega⟩ ⟨by omega, by omega⟩ (fun c18 => ?_) (fun c18 => ?_)
        · show t_X d 239 59 lv5 [] g15 P
          refine t_0 yrr_59 rfl rfl ?_
          refine t_2 yrr_60 rfl (w := (px_s1 lv5 3 (oI 1), [])) rfl ?_
          replace l0 : px_lg (px_s1 lv5 3 (oI 1)) 0 = some (pvR 196) := s1_ne (by decide) (fun _ => rfl) l0
          replace l1 : px_lg (px_s1 lv5 3 (oI 1)) 1 = some (oI (p)) := s1_ne (by decide) (fun _ => rfl) l1
          replace l2 : px_lg (px_s1 lv5 3 (oI 1)) 2 = some (oI (v2)) := s1_ne (by decide) (fun _ => rfl) l2
          have l3 : px_lg (px_s1 lv5 3 (oI 1)) 3 = some (oI 1) := s1_eq
          generalize px_s1 lv5 3 (oI 1) = lv19 at l0 l1 l2 l3 ⊢
          show t_X d 239 61 lv19 [] g15 P
          refine t_0 yrr_61 rfl (ld_a l0) ?_
          refine t_0 yrr_62 rfl (pq_cv eo_196 rfl (show cF g15 196 21 = v15 from S_f hS15 4 (Nat.le_of_ble_eq_true rfl))) ?_
          show t_X d 239 65 lv19 [oI (v15)] g15 P
          refine t_0 yrr_65 rfl (ld_i l2) ?_
          refine t_0 yrr_66 rfl pq_sub ?_
          refine t_0 yrr_67 rfl (ld_i l3) ?_
          refine t_0 yrr_68 rfl pq_mul ?_
          refine t_0 yrr_69 rfl rfl ?_
          refine t_0 yrr_70 rfl pq_add ?_
          refine t_2 yrr_71 rfl (w := (px_s1 lv19 4 (oI (((v15 - v2) * 1) + 1)), [])) rfl ?_
          replace l0 : px_lg (px_s1 lv19 4 (oI (((v15 - v2) * 1) + 1))) 0 = some (pvR 196) := s1_ne (by decide) (fun _ => rfl) l0
          replace l1 : px_lg (px_s1 lv19 4 (oI (((v15 - v2) * 1) + 1))) 1 = some (oI (p)) := s1_ne (by decide) (fun _ => rfl) l1
          replace l2 : px_lg (px_s1 lv19 4 (oI (((v15 - v2) * 1) + 1))) 2 = some (oI (v2)) := s1_ne (by decide) (fun _ => rfl) l2
          replace l3 : px_lg (px_s1 lv19 4 (oI (((v15 - v2) * 1) + 1))) 3 = some (oI 1) := s1_ne (by decide) (fun _ => rfl) l3
          have l4 : px_lg (px_s1 lv19 4 (oI (((v15 - v2) * 1) + 1))) 4 = some (oI (((v15 - v2) * 1) + 1)) := s1_eq
          generalize px_s1 lv19 4 (oI (((v15 - v2) * 1) + 1)) = lv20 at l0 l1 l2 l3 l4 ⊢
          show t_X d 239 73 lv20 [] g15 P
          refine t_0 yrr_73 rfl (ld_a l0) ?_
          refine t_0 yrr_74 rfl (pq_cv eo_196 rfl (show cF g15 196 25 = m from S_f hS15 1 (Nat.le_of_ble_eq_true rfl))) ?_
          show t_X d 239 77 lv20 [oI (m)] g15 P
          refine t_0 yrr_77 rfl (ld_i l4) ?_
          refine t_0 yrr_79 rfl pq_add ?_
          refine t_0 yrr_80 rfl (pq_b (by decide)) ?_
          refine tb_le yrr_82 (by decide) ⟨by omega, by omega⟩ ⟨by omega, by omega⟩ (fun c21 => ?_) (fun c21 => ?_)
          · show t_X d 239 93 lv20 [] g15 P
            refine t_0 yrr_93 rfl rfl ?_
            refine t_2 yrr_94 rfl (w := (px_s1 lv20 5 (oI 0), [])) rfl ?_
            replace l0 : px_lg (px_s1 lv20 5 (oI 0)) 0 = some (pvR 196) := s1_ne (by decide) (fun _ => rfl) l0
            replace l1 : px_lg (px_s1 lv20 5 (oI 0)) 1 = some (oI (p)) := s1_ne (by decide) (fun _ => rfl) l1
            replace l2 : px_lg (px_s1 lv20 5 (oI 0)) 2 = some (oI (v2)) := s1_ne (by decide) (fun _ => rfl) l2
            replace l3 : px_lg (px_s1 lv20 5 (oI 0)) 3 = some (oI 1) := s1_ne (by decide) (fun _ => rfl) l3
            replace l4 : px_lg (px_s1 lv20 5 (oI 0)) 4 = some (oI (((v15 - v2) * 1) + 1)) := s1_ne (by decide) (fun _ => rfl) l4
            have l5 : px_lg (px_s1 lv20 5 (oI 0)) 5 = some (oI 0) := s1_eq
            generalize px_s1 lv20 5 (oI 0) = lv22 at l0 l1 l2 l3 l4 l5 ⊢
            show t_X d 239 96 lv22 [] g15 P
            replace l4 : px_lg lv22 4 = some (oI (v15 - v2 + 1)) := l4.trans (congrArg (fun x => some (oI x)) (by omega))
            refine nl_p hB (a := v2) (z := v15) (m := m) ⟨by omega, by omega, by omega, by omega, by omega⟩ ⟨by omega, by omega⟩ (c0 := c) (fun g1 c1 h1 h2 h3 => ?_) 40 0 _ _ (by omega) (by omega) hS15 ⟨fun j _ => rfl, fun i hi => absurd hi (by omega)⟩ l0 l1 l2 l3 l4 l5
            have ew : tW v2 v15 = v15 - v2 + 1 := by unfold tW; rw [if_pos (by omega)]
            rw [← ew] at h1 h3
            refine hO _ _ _ _ _ h1 (Or.inr ⟨_, _, t2, Or.inr ⟨by omega, Or.inr ⟨_, _, t15, Or.inr ⟨by omega, _, rfl, h2, fun k hk => by rw [h3 k hk, if_pos (by omega)]⟩⟩⟩⟩) (fun j hj => ?_)
            by_cases e : (j : Int) < m
            · rw [h2 j e]; exact hc j e
            · have := h3 (j - m).toNat (by omega)
              rw [show (m + ((j - m).toNat : Int)).toNat = j by omega] at this
              omega
          · show t_X d 239 85 lv20 [] g15 P
            refine t_0 yrr_85 rfl (ld_a l0) ?_
            refine t_0 yrr_86 rfl (pq_b (by decide)) ?_
            refine t_0 yrr_88 rfl (ld_i l1) ?_
            refine t_3 yrr_89 rfl (ar := ([pvR 196, oI 6, oI (p)], [])) (pcal_w (as := [oI (p), oI 6]) rfl rfl rfl eo_196) ⟨by omega, Nat.le_of_ble_eq_true rfl, Nat.le_of_ble_eq_true rfl, rfl⟩ ?_
            refine nw_run hB hS15 ⟨by omega, by omega⟩ ⟨by omega, by omega⟩ (fun g23 hS23 => ?_) rfl rfl rfl
            replace hS23 : nS g0 g23 q15 m s (-1000 * 6 - p) v15 c gf ga := hS23
            show t_X d 239 92 lv20 [oI 0] g23 P
            refine t_5 yrr_92 rfl rfl ?_
            have ew : tW v2 v15 = v15 - v2 + 1 := by unfold tW; rw [if_pos (by omega)]
            exact hF _ _ _ _ _ _ _ _ hS23 (Or.inr ⟨_, _, t2, Or.inr ⟨by omega, Or.inr ⟨_, _, t15, Or.inl ⟨by omega, by rw [show -1000 * 6 - p = -6000 - p by omega]⟩⟩⟩⟩)
        · show t_X d 239 55 lv5 [] g15 P
          refine t_0 yrr_55 rfl rfl ?_
          refine t_1 yrr_56 rfl (pb_goto (pc := 56) (by decide)) ?_
          show t_X d 239 60 lv5 [oI (-1)] g15 P
          refine t_2 yrr_60 rfl (w := (px_s1 lv5 3 (oI (-1)), [])) rfl ?_
          replace l0 : px_lg (px_s1 lv5 3 (oI (-1))) 0 = some (pvR 196) := s1_ne (by decide) (fun _ => rfl) l0
          replace l1 : px_lg (px_s1 lv5 3 (oI (-1))) 1 = some (oI (p)) := s1_ne (by decide) (fun _ => rfl) l1
          replace l2 : px_lg (px_s1 lv5 3 (oI (-1))) 2 = some (oI (v2)) := s1_ne (by decide) (fun _ => rfl) l2
          have l3 : px_lg (px_s1 lv5 3 (oI (-1))) 3 = some (oI (-1)) := s1_eq
          generalize px_s1 lv5 3 (oI (-1)) = lv24 at l0 l1 l2 l3 ⊢
          show t_X d 239 61 lv24 [] g15 P
          refine t_0 yrr_61 rfl (ld_a l0) ?_
          refine t_0 yrr_62 rfl (pq_cv eo_196 rfl (show cF g15 196 21 = v15 from S_f hS15 4 (Nat.le_of_ble_eq_true rfl))) ?_
          show t_X d 239 65 lv24 [oI (v15)] g15 P
          refine t_0 yrr_65 rfl (ld_i l2) ?_
          refine t_0 yrr_66 rfl pq_sub ?_
          refine t_0 yrr_67 rfl (ld_i l3) ?_
          refine t_0 yrr_68 rfl pq_mul ?_
          refine t_0 yrr_69 rfl rfl ?_
          refine t_0 yrr_70 rfl pq_add ?_
          refine t_2 yrr_71 rfl (w := (px_s1 lv24 4 (oI (((v15 - v2) * (-1)) + 1)), [])) rfl ?_
          replace l0 : px_lg (px_s1 lv24 4 (oI (((v15 - v2) * (-1)) + 1))) 0 = some (pvR 196) := s1_ne (by decide) (fun _ => rfl) l0
          replace l1 : px_lg (px_s1 lv24 4 (oI (((v15 - v2) * (-1)) + 1))) 1 = some (oI (p)) := s1_ne (by decide) (fun _ => rfl) l1
          replace l2 : px_lg (px_s1 lv24 4 (oI (((v15 - v2) * (-1)) + 1))) 2 = some (oI (v2)) := s1_ne (by decide) (fun _ => rfl) l2
          replace l3 : px_lg (px_s1 lv24 4 (oI (((v15 - v2) * (-1)) + 1))) 3 = some (oI (-1)) := s1_ne (by decide) (fun _ => rfl) l3
          have l4 : px_lg (px_s1 lv24 4 (oI (((v15 - v2) * (-1)) + 1))) 4 = some (oI (((v15 - v2) * (-1)) + 1)) := s1_eq
          generalize px_s1 lv24 4 (oI (((v15 - v2) * (-1)) + 1)) = lv25 at l0 l1 l2 l3 l4 ⊢
          show t_X d 239 73 lv25 [] g15 P
          refine t_0 yrr_73 rfl (ld_a l0) ?_
          refine t_0 yrr_74 rfl (pq_cv eo_196 rfl (show cF g15 196 25 = m from S_f hS15 1 (Nat.le_of_ble_eq_true rfl))) ?_
          show t_X d 239 77 lv25 [oI (m)] g15 P
          refine t_0 yrr_77 rfl (ld_i l4) ?_
          refine t_0 yrr_79 rfl pq_add ?_
          refine t_0 yrr_80 rfl (pq_b (by decide)) ?_
          refine tb_le yrr_82 (by decide) ⟨by omega, by omega⟩ ⟨by omega, by omega⟩ (fun c26 => ?_) (fun c26 => ?_)
          · show t_X d 239 93 lv25 [] g15 P
            refine t_0 yrr_93 rfl rfl ?_
            refine t_2 yrr_94 rfl (w := (px_s1 lv25 5 (oI 0), [])) rfl ?_
            replace l0 : px_lg (px_s1 lv25 5 (oI 0)) 0 = some (pvR 196) := s1_ne (by decide) (fun _ => rfl) l0
            replace l1 : px_lg (px_s1 lv25 5 (oI 0)) 1 = some (oI (p)) := s1_ne (by decide) (fun _ => rfl) l1
            replace l2 : px_lg (px_s1 lv25 5 (oI 0)) 2 = some (oI (v2)) := s1_ne (by decide) (fun _ => rfl) l2
            replace l3 : px_lg (px_s1 lv25 5 (oI 0)) 3 = some (oI (-1)) := s1_ne (by decide) (fun _ => rfl) l3
            replace l4 : px_lg (px_s1 lv25 5 (oI 0)) 4 = some (oI (((v15 - v2) * (-1)) + 1)) := s1_ne (by decide) (fun _ => rfl) l4
            have l5 : px_lg (px_s1 lv25 5 (oI 0)) 5 = some (oI 0) := s1_eq
            generalize px_s1 lv25 5 (oI 0) = lv27 at l0 l1 l2 l3 l4 l5 ⊢
            show t_X d 239 96 lv27 [] g15 P
            replace l4 : px_lg lv27 4 = some (oI (v2 - v15 + 1)) := l4.trans (congrArg (fun x => some (oI x)) (by omega))
            refine nl_m hB (a := v2) (z := v15) (m := m) ⟨by omega, by omega, by omega, by omega, by omega⟩ ⟨by omega, by omega⟩ (c0 := c) (fun g1 c1 h1 h2 h3 => ?_) 40 0 _ _ (by omega) (by omega) hS15 ⟨fun j _ => rfl, fun i hi => absurd hi (by omega)⟩ l0 l1 l2 l3 l4 l5
            have ew : tW v2 v15 = v2 - v15 + 1 := by unfold tW; rw [if_neg (by omega)]
            rw [← ew] at h1 h3
            refine hO _ _ _ _ _ h1 (Or.inr ⟨_, _, t2, Or.inr ⟨by omega, Or.inr ⟨_, _, t15, Or.inr ⟨by omega, _, rfl, h2, fun k hk => by rw [h3 k hk, if_neg (by omega)]⟩⟩⟩⟩) (fun j hj => ?_)
            by_cases e : (j : Int) < m
            · rw [h2 j e]; exact hc j e
            · have := h3 (j - m).toNat (by omega)
              rw [show (m + ((j - m).toNat : Int)).toNat = j by omega] at this
              omega
          · show t_X d 239 85 lv25 [] g15 P
            refine t_0 yrr_85 rfl (ld_a l0) ?_
            refine t_0 yrr_86 rfl (pq_b (by decide)) ?_
            refine t_0 yrr_88 rfl (ld_i l1) ?_
            refine t_3 yrr_89 rfl (ar := ([pvR 196, oI 6, oI (p)], [])) (pcal_w (as := [oI (p), oI 6]) rfl rfl rfl eo_196) ⟨by omega, Nat.le_of_ble_eq_true rfl, Nat.le_of_ble_eq_true rfl, rfl⟩ ?_
            refine nw_run hB hS15 ⟨by omega, by omega⟩ ⟨by omega, by omega⟩ (fun g28 hS28 => ?_) rfl rfl rfl
            replace hS28 : nS g0 g28 q15 m s (-1000 * 6 - p) v15 c gf ga := hS28
            show t_X d 239 92 lv25 [oI 0] g28 P
            refine t_5 yrr_92 rfl rfl ?_
            have ew : tW v2 v15 = v2 - v15 + 1 := by unfold tW; rw [if_neg (by omega)]
            exact hF _ _ _ _ _ _ _ _ hS28 (Or.inr ⟨_, _, t2, Or.inr ⟨by omega, Or.inr ⟨_, _, t15, Or.inl ⟨by omega, by rw [show -1000 * 6 - p = -6000 - p by omega]⟩⟩⟩⟩)
theorem no_run {d : Nat} {g0 g : pH} {B : tC} {n : Int} (hB : nB g0 B n) {p m s ft u : Int} {c gf ga : tC} (hS : nS g0 g p m s ft u c gf ga) (hp : 0 ≤ p ∧ p ≤ n) (hm : 0 ≤ m ∧ m ≤ 60) (hs : 0 ≤ s ∧ s ≤ 4) {P : Option pv × pH → Prop} (hF : s = 4 → ∀ g1 : pH, nS g0 g1 p m s (-5000 - p) u c gf ga → P (some (oI 0), g1)) (hO : s < 4 → ∀ g1 : pH, nS g0 g1 (p + 1) m (s + 1) ft u c (updI gf s.toNat p) (updI ga s.toNat m) → P (some (oI 1), g1)) {lv : List (Nat × pv)} (l0 : px_lg lv 0 = some (pvR 196)) (hd : 1 ≤ d) : t_X d 230 0 lv [] g P := by
  have hn0 := hB.2.2.1
  have hn1 := hB.2.2.2
  have hH : ∀ q, 0 ≤ q → -1 ≤ tH B n q ∧ tH B n q ≤ 255 := fun q hq => tH_b (tp_b hB.2.1) (by omega) hq
  refine t_0 yog_0 rfl (ld_a l0) ?_
  refine t_0 yog_1 rfl (pq_cv eo_196 rfl (show cF g 196 26 = s from S_f hS 2 (Nat.le_of_ble_eq_true rfl))) ?_
  show t_X d 230 4 lv [oI (s)] g P
  refine t_0 yog_4 rfl rfl ?_
  refine tb_ne yog_5 (by decide) ⟨by omega, by omega⟩ ⟨by omega, by omega⟩ (fun c1 => ?_) (fun c1 => ?_)
  · show t_X d 230 18 lv [] g P
    refine t_0 yog_18 rfl (ld_a l0) ?_
    refine t_0 yog_19 rfl (cq_196_29 (S_J hS).1) ?_
    show t_X d 230 22 lv [pvR 214] g P
    refine t_0 yog_22 rfl (ld_a l0) ?_
    refine t_0 yog_23 rfl (pq_cv eo_196 rfl (show cF g 196 26 = s from S_f hS 2 (Nat.le_of_ble_eq_true rfl))) ?_
    show t_X d 230 26 lv [oI (s), pvR 214] g P
    refine t_0 yog_26 rfl (ld_a l0) ?_
    refine t_0 yog_27 rfl (pq_cv eo_196 rfl (show cF g 196 18 = p from S_f hS 0 (Nat.le_of_ble_eq_true rfl))) ?_
    show t_X d 230 30 lv [oI (p), oI (s), pvR 214] g P
    refine ts_a (n := 1) rfl rfl (by decide) yog_30 hS ez_214 rfl wu_nWr_214 gu_214 (by decide) ⟨by omega, by omega⟩ ⟨by omega, by omega⟩ (fun g2 hS2 => ?_)
    replace hS2 : nS g0 g2 p m s ft u c (updI gf s.toNat p) ga := hS2
    show t_X d 230 31 lv [] g2 P
    refine t_0 yog_31 rfl (ld_a l0) ?_
    refine t_0 yog_32 rfl (cq_196_30 (S_J hS2).1) ?_
    show t_X d 230 35 lv [pvR 215] g2 P
    refine t_0 yog_35 rfl (ld_a l0) ?_
    refine t_0 yog_36 rfl (pq_cv eo_196 rfl (show cF g2 196 26 = s from S_f hS2 2 (Nat.le_of_ble_eq_true rfl))) ?_
    show t_X d 230 39 lv [oI (s), pvR 215] g2 P
    refine t_0 yog_39 rfl (ld_a l0) ?_
    refine t_0 yog_40 rfl (pq_cv eo_196 rfl (show cF g2 196 25 = m from S_f hS2 1 (Nat.le_of_ble_eq_true rfl))) ?_
    show t_X d 230 43 lv [oI (m), oI (s), pvR 215] g2 P
    refine ts_a (n := 2) rfl rfl (by decide) yog_43 hS2 ez_215 rfl wu_nWr_215 gu_215 (by decide) ⟨by omega, by omega⟩ ⟨by omega, by omega⟩ (fun g3 hS3 => ?_)
    replace hS3 : nS g0 g3 p m s ft u c (updI gf s.toNat p) (updI ga s.toNat m) := hS3
    show t_X d 230 44 lv [] g3 P
    refine t_0 yog_44 rfl (ld_a l0) ?_
    refine t_0 yog_45 rfl (ld_a l0) ?_
    refine t_0 yog_46 rfl (pq_cv eo_196 rfl (show cF g3 196 26 = s from S_f hS3 2 (Nat.le_of_ble_eq_true rfl))) ?_
    show t_X d 230 49 lv [oI (s), pvR 196] g3 P
    refine t_0 yog_49 rfl rfl ?_
    refine t_0 yog_50 rfl pq_add ?_
    refine ts_f (n := 2) rfl rfl (by decide) yog_51 rfl eo_196 hS3 wt_nWr_196_26 gy_196_26 (by decide) ⟨by omega, by omega⟩ (fun g4 hS4 => ?_)
    replace hS4 : nS g0 g4 p m (s + 1) ft u c (updI gf s.toNat p) (updI ga s.toNat m) := hS4
    show t_X d 230 54 lv [] g4 P
    refine t_0 yog_54 rfl (ld_a l0) ?_
    refine t_0 yog_55 rfl (ld_a l0) ?_
    refine t_0 yog_56 rfl (pq_cv eo_196 rfl (show cF g4 196 18 = p from S_f hS4 0 (Nat.le_of_ble_eq_true rfl))) ?_
    show t_X d 230 59 lv [oI (p), pvR 196] g4 P
    refine t_0 yog_59 rfl rfl ?_
    refine t_0 yog_60 rfl pq_add ?_
    refine ts_f (n := 0) rfl rfl (by decide) yog_61 rfl eo_196 hS4 wt_nWr_196_18 gy_196_18 (by decide) ⟨by omega, by omega⟩ (fun g5 hS5 => ?_)
    replace hS5 : nS g0 g5 (p + 1) m (s + 1) ft u c (updI gf s.toNat p) (updI ga s.toNat m) := hS5
    show t_X d 230 64 lv [] g5 P
    refine t_0 yog_64 rfl rfl ?_
    refine t_5 yog_65 rfl rfl ?_
    exact hO (by omega) _ hS5
  · show t_X d 230 8 lv [] g P
    refine t_0 yog_8 rfl (ld_a l0) ?_
    refine t_0 yog_9 rfl rfl ?_
    refine t_0 yog_10 rfl (ld_a l0) ?_
    refine t_0 yog_11 rfl (pq_cv eo_196 rfl (show cF g 196 18 = p from S_f hS 0 (Nat.le_of_ble_eq_true rfl))) ?_
    show t_X d 230 14 lv [oI (p), oI 5, pvR 196] g P
    refine t_3 yog_14 rfl (ar := ([pvR 196, oI 5, oI (p)], [])) (pcal_w (as := [oI (p), oI 5]) rfl rfl rfl eo_196) ⟨by omega, Nat.le_of_ble_eq_true rfl, Nat.le_of_ble_eq_true rfl, rfl⟩ ?_
    refine nw_run hB hS ⟨by omega, by omega⟩ ⟨by omega, by omega⟩ (fun g6 hS6 => ?_) rfl rfl rfl
    replace hS6 : nS g0 g6 p m s (-1000 * 5 - p) u c gf ga := hS6
    show t_X d 230 17 lv [oI 0] g6 P
    refine t_5 yog_17 rfl rfl ?_
    exact hF (by omega) _ (by rw [show -5000 - p = -1000 * 5 - p by omega]; exact hS6)
set_option maxHeartbeats 2000000 in
theorem nc_l {d : Nat} {g0 : pH} {B : tC} {n : Int} (hB : nB g0 B n) {p m s ft u A w t : Int} (hA : 0 ≤ A ∧ 0 < w ∧ w ≤ w * t ∧ A + w * t ≤ 60) {c0 gf ga : tC} {P : Option pv × pH → Prop} (hO : ∀ (g1 : pH) (c1 : tC), nS g0 g1 p (A + w * t) s ft u c1 gf ga → (∀ j : Nat, (j : Int) < A + w → c1 j = c0 j) → (∀ j : Nat, A + w ≤ (j : Int) → (j : Int) < A + w * t → c1 j = c1 (j - w).toNat) → P (some (oI 1), g1)) : ∀ (y k : Nat) (g : pH) (lv : List (Nat × pv)) {c : tC}, w * t - (w + (k : Int)) ≤ y → w + (k : Int) ≤ w * t → nS g0 g p m s ft u c gf ga → ((∀ j : Nat, (j : Int) < A + w → c j = c0 j) ∧ ∀ j : Nat, A + w ≤ (j : Int) → (j : Int) < A + (w + (k : Int)) → c j = c (j - w).toNat) → px_lg lv 0 = some (pvR 196) → px_lg lv 1 = some (oI t) → px_lg lv 2 = some (oI A) → px_lg lv 3 = some (oI w) → px_lg lv 4 = some (oI (w + (k : Int))) → t_X d 175 110 lv [] g P := by
  intro y
  induction y with
  | zero =>
    intro k g lv c hy hk hS hc l0 l1 l2 l3 l4
    refine t_0 ycg_110 rfl (ld_i l4) ?_
    refine t_0 ycg_112 rfl (ld_i l3) ?_
    refine t_0 ycg_113 rfl (ld_i l1) ?_
    refine t_0 ycg_114 rfl pq_mul ?_
    refine tb_ge ycg_115 (by decide) ⟨by omega, by omega⟩ ⟨by omega, by omega⟩ (fun c1 => ?_) (fun c1 => absurd c1 (by omega))
    show t_X d 175 144 lv [] g P
    refine t_0 ycg_144 rfl (ld_a l0) ?_
    refine t_0 ycg_145 rfl (ld_i l2) ?_
    refine t_0 ycg_146 rfl (ld_i l3) ?_
    refine t_0 ycg_147 rfl (ld_i l1) ?_
    refine t_0 ycg_148 rfl pq_mul ?_
    refine t_0 ycg_149 rfl pq_add ?_
    refine ts_f (n := 1) rfl rfl (by decide) ycg_150 rfl eo_196 hS wt_nWr_196_25 gy_196_25 (by decide) ⟨by omega, by omega⟩ (fun g2 hS2 => ?_)
    replace hS2 : nS g0 g2 p (A + (w * t)) s ft u c gf ga := hS2
    show t_X d 175 153 lv [] g2 P
    refine t_0 ycg_153 rfl rfl ?_
    refine t_5 ycg_154 rfl rfl ?_
    exact hO _ _ hS2 hc.1 (fun j h1 h2 => hc.2 j h1 (by omega))
  | succ y ih =>
    intro k g lv c hy hk hS hc l0 l1 l2 l3 l4
    by_cases hkk : w + (k : Int) < w * t
    · skip
      refine t_0 ycg_110 rfl (ld_i l4) ?_
      refine t_0 ycg_112 rfl (ld_i l3) ?_
      refine t_0 ycg_113 rfl (ld_i l1) ?_
      refine t_0 ycg_114 rfl pq_mul ?_
      refine tb_ge ycg_115 (by decide) ⟨by omega, by omega⟩ ⟨by omega, by omega⟩ (fun c1 => absurd c1 (by omega)) (fun c1 => ?_)
      show t_X d 175 118 lv [] g P
      refine t_0 ycg_118 rfl (ld_a l0) ?_
      refine t_0 ycg_119 rfl (cq_196_28 (S_J hS).1) ?_
      show t_X d 175 122 lv [pvR 213] g P
      refine t_0 ycg_122 rfl (ld_i l2) ?_
      refine t_0 ycg_123 rfl (ld_i l4) ?_
      refine t_0 ycg_125 rfl pq_add ?_
      refine t_0 ycg_126 rfl (ld_a l0) ?_
      refine t_0 ycg_127 rfl (cq_196_28 (S_J hS).1) ?_
      show t_X d 175 130 lv [pvR 213, oI (A + (w + (k : Int))), pvR 213] g P
      refine t_0 ycg_130 rfl (ld_i l2) ?_
      refine t_0 ycg_131 rfl (ld_i l4) ?_
      refine t_0 ycg_133 rfl pq_add ?_
      refine t_0 ycg_134 rfl (ld_i l3) ?_
      refine t_0 ycg_135 rfl pq_sub ?_
      have r2 := pb_a (S_J hS).1 ez_213 (j := ((A + (w + (k : Int))) - w).toNat) (by omega) gu_213 (show fA g 213 = c from S_a hS 0 (Nat.le_of_ble_eq_true rfl))
      refine t_0 ycg_136 rfl (pq_iv ez_213 rfl ⟨by omega, by omega⟩ (show fA g 213 = c from S_a hS 0 (Nat.le_of_ble_eq_true rfl))) ?_
      show t_X d 175 137 lv [oI (c (((A + (w + (k : Int))) - w).toNat)), oI (A + (w + (k : Int))), pvR 213] g P
      refine ts_a (n := 0) rfl rfl (by decide) ycg_137 hS ez_213 rfl wu_nWr_213 gu_213 (by decide) ⟨by omega, by omega⟩ ⟨by omega, by omega⟩ (fun g3 hS3 => ?_)
      replace hS3 : nS g0 g3 p m s ft u (updI c (A + (w + (k : Int))).toNat (c (((A + (w + (k : Int))) - w).toNat))) gf ga := hS3
      show t_X d 175 138 lv [] g3 P
      refine t_2 ycg_138 rfl (w := (px_s1 lv 4 (oI ((w + (k : Int)) + 1)), [])) (pq_inc l4 (by decide)) ?_
      replace l0 : px_lg (px_s1 lv 4 (oI ((w + (k : Int)) + 1))) 0 = some (pvR 196) := s1_ne (by decide) (fun _ => rfl) l0
      replace l1 : px_lg (px_s1 lv 4 (oI ((w + (k : Int)) + 1))) 1 = some (oI (t)) := s1_ne (by decide) (fun _ => rfl) l1
      replace l2 : px_lg (px_s1 lv 4 (oI ((w + (k : Int)) + 1))) 2 = some (oI (A)) := s1_ne (by decide) (fun _ => rfl) l2
      replace l3 : px_lg (px_s1 lv 4 (oI ((w + (k : Int)) + 1))) 3 = some (oI (w)) := s1_ne (by decide) (fun _ => rfl) l3
      have l4 : px_lg (px_s1 lv 4 (oI ((w + (k : Int)) + 1))) 4 = some (oI ((w + (k : Int)) + 1)) := s1_eq
      generalize px_s1 lv 4 (oI ((w + (k : Int)) + 1)) = lv4 at l0 l1 l2 l3 l4 ⊢
      show t_X d 175 141 lv4 [] g3 P
      refine t_1 ycg_141 rfl (pb_goto (pc := 141) (by decide)) ?_
      show t_X d 175 110 lv4 [] g3 P
      refine ih (k + 1) _ _ (by omega) (by omega) hS3 ⟨fun j hj => ?_, fun j hj1 hj2 => ?_⟩ l0 l1 l2 l3 (l4.trans (congrArg (fun x => some (oI x)) (by omega)))
      · unfold updI
        rw [if_neg (by omega)]
        exact hc.1 j hj
      · unfold updI
        by_cases e : j = (A + (w + (k : Int))).toNat
        · rw [if_pos e, if_neg (by omega)]; exact congrArg c (by omega)
        · rw [if_neg e, if_neg (by omega)]; exact hc.2 j hj1 (by omega)
    · skip
      refine t_0 ycg_110 rfl (ld_i l4) ?_
      refine t_0 ycg_112 rfl (ld_i l3) ?_
      refine t_0 ycg_113 rfl (ld_i l1) ?_
      refine t_0 ycg_114 rfl pq_mul ?_
      refine tb_ge ycg_115 (by decide) ⟨by omega, by omega⟩ ⟨by omega, by omega⟩ (fun c1 => ?_) (fun c1 => absurd c1 (by omega))
      show t_X d 175 144 lv [] g P
      refine t_0 ycg_144 rfl (ld_a l0) ?_
      refine t_0 ycg_145 rfl (ld_i l2) ?_
      refine t_0 ycg_146 rfl (ld_i l3) ?_
      refine t_0 ycg_147 rfl (ld_i l1) ?_
      refine t_0 ycg_148 rfl pq_mul ?_
      refine t_0 ycg_149 rfl pq_add ?_
      refine ts_f (n := 1) rfl rfl (by decide) ycg_150 rfl eo_196 hS wt_nWr_196_25 gy_196_25 (by decide) ⟨by omega, by omega⟩ (fun g2 hS2 => ?_)
      replace hS2 : nS g0 g2 p (A + (w * t)) s ft u c gf ga := hS2
      show t_X d 175 153 lv [] g2 P
      refine t_0 ycg_153 rfl rfl ?_
      refine t_5 ycg_154 rfl rfl ?_
      exact hO _ _ hS2 hc.1 (fun j h1 h2 => hc.2 j h1 (by omega))
set_option maxHeartbeats 4000000 in
theorem nc_run {d : Nat} (hd : 3 ≤ d) {g0 g : pH} {B : tC} {n : Int} (hB : nB g0 B n) {p m s ft u : Int} {c gf ga : tC} (hS : nS g0 g p m s ft u c gf ga) (hp : 0 ≤ p ∧ p ≤ n) (hh : tH B n p = 41) {p0 m0 : Int} (hm : 0 ≤ m0 ∧ m0 < m ∧ m ≤ 60) (hp0 : 0 ≤ p0 ∧ p0 ≤ 120) (hs : 0 < s ∧ s ≤ 4) (hgf : gf (s - 1).toNat = p0) (hga : ga (s - 1).toNat = m0) (hc : ∀ j : Nat, (j : Int) < m → 0 ≤ c j ∧ c j ≤ 31) {P : Option pv × pH → Prop} (hF : ∀ (g1 : pH) (f q s1 u1 : Int), nS g0 g1 q m s1 f u1 c gf ga → tEn (tH B n) p0 m0 p m c (.inl f) → P (some (oI 0), g1)) (hO : ∀ (g1 : pH) (m2 : Int) (c2 : tC), nS g0 g1 (p + 2) m2 (s - 1) ft u c2 gf ga → tEn (tH B n) p0 m0 p m c (.inr (p + 2, m2, c2)) → (∀ j : Nat, (j : Int) < m2 → 0 ≤ c2 j ∧ c2 j ≤ 31) → P (some (oI 1), g1)) {lv : List (Nat × pv)} (l0 : px_lg lv 0 = some (pvR 196)) : t_X d 175 0 lv [] g P := by
  have hn0 := hB.2.2.1
  have hn1 := hB.2.2.2
  have hH : ∀ q, 0 ≤ q → -1 ≤ tH B n q ∧ tH B n q ≤ 255 := fun q hq => tH_b (tp_b hB.2.1) (by omega) hq
  have z0 := tH_n (B := B) (n := n) (p := p)
  refine t_0 ycg_0 rfl (ld_a l0) ?_
  refine t_0 ycg_1 rfl (ld_a l0) ?_
  refine t_0 ycg_2 rfl (pq_cv eo_196 rfl (show cF g 196 18 = p from S_f hS 0 (Nat.le_of_ble_eq_true rfl))) ?_
  show t_X d 175 5 lv [oI (p), pvR 196] g P
  refine t_0 ycg_5 rfl rfl ?_
  refine t_0 ycg_6 rfl pq_add ?_
  refine ts_f (n := 0) rfl rfl (by decide) ycg_7 rfl eo_196 hS wt_nWr_196_18 gy_196_18 (by decide) ⟨by omega, by omega⟩ (fun g1 hS1 => ?_)
  replace hS1 : nS g0 g1 (p + 1) m s ft u c gf ga := hS1
  show t_X d 175 10 lv [] g1 P
  refine t_0 ycg_10 rfl (ld_a l0) ?_
  refine t_3 ycg_11 rfl (ar := ([pvR 196], [])) (pcal_w (as := []) rfl rfl rfl eo_196) ⟨by omega, Nat.le_of_ble_eq_true rfl, Nat.le_of_ble_eq_true rfl, rfl⟩ ?_
  have b2 := hH (p + 1) (by omega)
  have z2 := tH_n (B := B) (n := n) (p := p + 1)
  refine nd_run (by omega) hB hS1 (by omega) (fun t2 => ?_) (fun t2 => ?_) rfl
  · unfold tDg at t2
    show t_X d 175 14 lv [oI 1] g1 P
    refine tz_eq ycg_14 (by decide) ⟨by omega, by omega⟩ (fun c3 => absurd c3 (by omega)) (fun c3 => ?_)
    show t_X d 175 17 lv [] g1 P
    refine t_0 ycg_17 rfl (ld_a l0) ?_
    refine t_3 ycg_18 rfl (ar := ([pvR 196], [])) (pcal_w (as := []) rfl rfl rfl eo_196) ⟨by omega, Nat.le_of_ble_eq_true rfl, Nat.le_of_ble_eq_true rfl, rfl⟩ ?_
    refine nh_run hB hS1 (by omega) ?_ rfl
    show t_X d 175 21 lv [oI (tH B n (p + 1))] g1 P
    refine t_0 ycg_21 rfl (pq_b (by decide)) ?_
    refine tb_ge ycg_23 (by decide) ⟨by omega, by omega⟩ ⟨by omega, by omega⟩ (fun c4 => ?_) (fun c4 => ?_)
    · show t_X d 175 36 lv [] g1 P
      refine t_0 ycg_36 rfl (ld_a l0) ?_
      refine t_3 ycg_37 rfl (ar := ([pvR 196], [])) (pcal_w (as := []) rfl rfl rfl eo_196) ⟨by omega, Nat.le_of_ble_eq_true rfl, Nat.le_of_ble_eq_true rfl, rfl⟩ ?_
      refine nh_run hB hS1 (by omega) ?_ rfl
      show t_X d 175 40 lv [oI (tH B n (p + 1))] g1 P
      refine t_0 ycg_40 rfl (pq_b (by decide)) ?_
      refine t_0 ycg_42 rfl pq_sub ?_
      refine t_2 ycg_43 rfl (w := (px_s1 lv 1 (oI ((tH B n (p + 1)) - 48)), [])) rfl ?_
      replace l0 : px_lg (px_s1 lv 1 (oI ((tH B n (p + 1)) - 48))) 0 = some (pvR 196) := s1_ne (by decide) (fun _ => rfl) l0
      have l1 : px_lg (px_s1 lv 1 (oI ((tH B n (p + 1)) - 48))) 1 = some (oI ((tH B n (p + 1)) - 48)) := s1_eq
      generalize px_s1 lv 1 (oI ((tH B n (p + 1)) - 48)) = lv5 at l0 l1 ⊢
      show t_X d 175 44 lv5 [] g1 P
      refine t_0 ycg_44 rfl (ld_a l0) ?_
      refine t_0 ycg_45 rfl (ld_a l0) ?_
      refine t_0 ycg_46 rfl (pq_cv eo_196 rfl (show cF g1 196 18 = p + 1 from S_f hS1 0 (Nat.le_of_ble_eq_true rfl))) ?_
      show t_X d 175 49 lv5 [oI (p + 1), pvR 196] g1 P
      refine t_0 ycg_49 rfl rfl ?_
      refine t_0 ycg_50 rfl pq_add ?_
      refine ts_f (n := 0) rfl rfl (by decide) ycg_51 rfl eo_196 hS1 wt_nWr_196_18 gy_196_18 (by decide) ⟨by omega, by omega⟩ (fun g6 hS6 => ?_)
      replace hS6 : nS g0 g6 ((p + 1) + 1) m s ft u c gf ga := hS6
      show t_X d 175 54 lv5 [] g6 P
      refine t_0 ycg_54 rfl (ld_a l0) ?_
      refine t_0 ycg_55 rfl (ld_a l0) ?_
      refine t_0 ycg_56 rfl (pq_cv eo_196 rfl (show cF g6 196 26 = s from S_f hS6 2 (Nat.le_of_ble_eq_true rfl))) ?_
      show t_X d 175 59 lv5 [oI (s), pvR 196] g6 P
      refine t_0 ycg_59 rfl rfl ?_
      refine t_0 ycg_60 rfl pq_sub ?_
      refine ts_f (n := 2) rfl rfl (by decide) ycg_61 rfl eo_196 hS6 wt_nWr_196_26 gy_196_26 (by decide) ⟨by omega, by omega⟩ (fun g7 hS7 => ?_)
      replace hS7 : nS g0 g7 ((p + 1) + 1) m (s - 1) ft u c gf ga := hS7
      show t_X d 175 64 lv5 [] g7 P
      refine t_0 ycg_64 rfl (ld_a l0) ?_
      refine t_0 ycg_65 rfl (cq_196_30 (S_J hS7).1) ?_
      show t_X d 175 68 lv5 [pvR 215] g7 P
      refine t_0 ycg_68 rfl (ld_a l0) ?_
      refine t_0 ycg_69 rfl (pq_cv eo_196 rfl (show cF g7 196 26 = s - 1 from S_f hS7 2 (Nat.le_of_ble_eq_true rfl))) ?_
      show t_X d 175 72 lv5 [oI (s - 1), pvR 215] g7 P
      have x8 : ga (s - 1).toNat = m0 := hga
      refine t_0 ycg_72 rfl (pq_iv ez_215 rfl ⟨by omega, by omega⟩ (show fA g7 215 = ga from S_a hS7 2 (Nat.le_of_ble_eq_true rfl))) ?_
      rw [x8]
      show t_X d 175 73 lv5 [oI (m0)] g7 P
      refine t_2 ycg_73 rfl (w := (px_s1 lv5 2 (oI (m0)), [])) rfl ?_
      replace l0 : px_lg (px_s1 lv5 2 (oI (m0))) 0 = some (pvR 196) := s1_ne (by decide) (fun _ => rfl) l0
      replace l1 : px_lg (px_s1 lv5 2 (oI (m0))) 1 = some (oI ((tH B n (p + 1)) - 48)) := s1_ne (by decide) (fun _ => rfl) l1
      have l2 : px_lg (px_s1 lv5 2 (oI (m0))) 2 = some (oI (m0)) := s1_eq
      generalize px_s1 lv5 2 (oI (m0)) = lv9 at l0 l1 l2 ⊢
      show t_X d 175 74 lv9 [] g7 P
      refine t_0 ycg_74 rfl (ld_a l0) ?_
      refine t_0 ycg_75 rfl (pq_cv eo_196 rfl (show cF g7 196 25 = m from S_f hS7 1 (Nat.le_of_ble_eq_true rfl))) ?_
      show t_X d 175 78 lv9 [oI (m)] g7 P
      refine t_0 ycg_78 rfl (ld_i l2) ?_
      refine t_0 ycg_79 rfl pq_sub ?_
      refine t_2 ycg_80 rfl (w := (px_s1 lv9 3 (oI (m - m0)), [])) rfl ?_
      replace l0 : px_lg (px_s1 lv9 3 (oI (m - m0))) 0 = some (pvR 196) := s1_ne (by decide) (fun _ => rfl) l0
      replace l1 : px_lg (px_s1 lv9 3 (oI (m - m0))) 1 = some (oI ((tH B n (p + 1)) - 48)) := s1_ne (by decide) (fun _ => rfl) l1
      replace l2 : px_lg (px_s1 lv9 3 (oI (m - m0))) 2 = some (oI (m0)) := s1_ne (by decide) (fun _ => rfl) l2
      have l3 : px_lg (px_s1 lv9 3 (oI (m - m0))) 3 = some (oI (m - m0)) := s1_eq
      generalize px_s1 lv9 3 (oI (m - m0)) = lv10 at l0 l1 l2 l3 ⊢
      show t_X d 175 81 lv10 [] g7 P
      have m1 : (m - m0) * 1 ≤ (m - m0) * ((tH B n (p + 1)) - 48) := Int.mul_le_mul_of_nonneg_left (by omega) (by omega)
      have m2 : (m - m0) * ((tH B n (p + 1)) - 48) ≤ (m - m0) * 9 := Int.mul_le_mul_of_nonneg_left (by omega) (by omega)
      refine t_0 ycg_81 rfl (ld_i l2) ?_
      refine t_0 ycg_82 rfl (ld_i l3) ?_
      refine t_0 ycg_83 rfl (ld_i l1) ?_
      refine t_0 ycg_84 rfl pq_mul ?_
      refine t_0 ycg_85 rfl pq_add ?_
      refine t_0 ycg_86 rfl (pq_b (by decide)) ?_
      refine tb_le ycg_88 (by decide) ⟨by omega, by omega⟩ ⟨by omega, by omega⟩ (fun c11 => ?_) (fun c11 => ?_)
      · show t_X d 175 107 lv10 [] g7 P
        refine t_0 ycg_107 rfl (ld_i l3) ?_
        refine t_2 ycg_108 rfl (w := (px_s1 lv10 4 (oI (m - m0)), [])) rfl ?_
        replace l0 : px_lg (px_s1 lv10 4 (oI (m - m0))) 0 = some (pvR 196) := s1_ne (by decide) (fun _ => rfl) l0
        replace l1 : px_lg (px_s1 lv10 4 (oI (m - m0))) 1 = some (oI ((tH B n (p + 1)) - 48)) := s1_ne (by decide) (fun _ => rfl) l1
        replace l2 : px_lg (px_s1 lv10 4 (oI (m - m0))) 2 = some (oI (m0)) := s1_ne (by decide) (fun _ => rfl) l2
        replace l3 : px_lg (px_s1 lv10 4 (oI (m - m0))) 3 = some (oI (m - m0)) := s1_ne (by decide) (fun _ => rfl) l3
        have l4 : px_lg (px_s1 lv10 4 (oI (m - m0))) 4 = some (oI (m - m0)) := s1_eq
        generalize px_s1 lv10 4 (oI (m - m0)) = lv12 at l0 l1 l2 l3 l4 ⊢
        show t_X d 175 110 lv12 [] g7 P
        refine nc_l hB (t := (tH B n (p + 1)) - 48) (A := m0) (w := m - m0) ⟨by omega, by omega, by omega, by omega⟩ (c0 := c) (fun g9 c9 h1 h2 h3 => ?_) 60 0 _ _ (by omega) (by omega) hS7 ⟨fun j _ => rfl, fun j h1 h2 => absurd h2 (by omega)⟩ l0 l1 l2 l3 (l4.trans (congrArg (fun x => some (oI x)) (by omega)))
        refine hO _ _ _ (show nS g0 g9 (p + 2) (m0 + (m - m0) * (tH B n (p + 1) - 48)) (s - 1) ft u c9 gf ga by rw [show p + 2 = p + 1 + 1 by omega]; exact h1) (Or.inr (Or.inr ⟨hh, ⟨by omega, by omega⟩, Or.inr ⟨by omega, _, rfl, fun j hj => h2 j (by omega), fun j hj1 hj2 => h3 j (by omega) hj2⟩⟩)) (fun j => ?_)
        induction j using Nat.strongRecOn with
        | ind j ihj =>
          intro hj
          by_cases e : (j : Int) < m
          · rw [h2 j (by omega)]; exact hc j e
          · rw [h3 j (by omega) hj]; exact ihj _ (by omega) (by omega)
      · show t_X d 175 91 lv10 [] g7 P
        refine t_0 ycg_91 rfl (ld_a l0) ?_
        refine t_0 ycg_92 rfl (pq_b (by decide)) ?_
        refine t_0 ycg_94 rfl (ld_a l0) ?_
        refine t_0 ycg_95 rfl (cq_196_29 (S_J hS7).1) ?_
        show t_X d 175 98 lv10 [pvR 214, oI 6, pvR 196] g7 P
        refine t_0 ycg_98 rfl (ld_a l0) ?_
        refine t_0 ycg_99 rfl (pq_cv eo_196 rfl (show cF g7 196 26 = s - 1 from S_f hS7 2 (Nat.le_of_ble_eq_true rfl))) ?_
        show t_X d 175 102 lv10 [oI (s - 1), pvR 214, oI 6, pvR 196] g7 P
        have x13 : gf (s - 1).toNat = p0 := hgf
        refine t_0 ycg_102 rfl (pq_iv ez_214 rfl ⟨by omega, by omega⟩ (show fA g7 214 = gf from S_a hS7 1 (Nat.le_of_ble_eq_true rfl))) ?_
        rw [x13]
        show t_X d 175 103 lv10 [oI (p0), oI 6, pvR 196] g7 P
        refine t_3 ycg_103 rfl (ar := ([pvR 196, oI 6, oI (p0)], [])) (pcal_w (as := [oI (p0), oI 6]) rfl rfl rfl eo_196) ⟨by omega, Nat.le_of_ble_eq_true rfl, Nat.le_of_ble_eq_true rfl, rfl⟩ ?_
        refine nw_run hB hS7 ⟨by omega, by omega⟩ ⟨by omega, by omega⟩ (fun g14 hS14 => ?_) rfl rfl rfl
        replace hS14 : nS g0 g14 ((p + 1) + 1) m (s - 1) (-1000 * 6 - p0) u c gf ga := hS14
        show t_X d 175 106 lv10 [oI 0] g14 P
        refine t_5 ycg_106 rfl rfl ?_
        exact hF _ _ _ _ _ hS14 (Or.inr (Or.inr ⟨hh, ⟨by omega, by omega⟩, Or.inl ⟨by omega, by rw [show -1000 * 6 - p0 = -6000 - p0 by omega]⟩⟩))
    · show t_X d 175 26 lv [] g1 P
      refine t_0 ycg_26 rfl (ld_a l0) ?_
      refine t_0 ycg_27 rfl rfl ?_
      refine t_0 ycg_28 rfl (ld_a l0) ?_
      refine t_0 ycg_29 rfl (pq_cv eo_196 rfl (show cF g1 196 18 = p + 1 from S_f hS1 0 (Nat.le_of_ble_eq_true rfl))) ?_
      show t_X d 175 32 lv [oI (p + 1), oI 1, pvR 196] g1 P
      refine t_3 ycg_32 rfl (ar := ([pvR 196, oI 1, oI (p + 1)], [])) (pcal_w (as := [oI (p + 1), oI 1]) rfl rfl rfl eo_196) ⟨by omega, Nat.le_of_ble_eq_true rfl, Nat.le_of_ble_eq_true rfl, rfl⟩ ?_
      refine nw_run hB hS1 ⟨by omega, by omega⟩ ⟨by omega, by omega⟩ (fun g15 hS15 => ?_) rfl rfl rfl
      replace hS15 : nS g0 g15 (p + 1) m s (-1000 * 1 - (p + 1)) u c gf ga := hS15
      show t_X d 175 35 lv [oI 0] g15 P
      refine t_5 ycg_35 rfl rfl ?_
      exact hF _ _ _ _ _ hS15 (Or.inr (Or.inl ⟨hh, by omega, by rw [show -1000 * 1 - (p + 1) = -1000 - (p + 1) by omega]⟩))
  · unfold tDg at t2
    show t_X d 175 14 lv [oI 0] g1 P
    refine tz_eq ycg_14 (by decide) ⟨by omega, by omega⟩ (fun c16 => ?_) (fun c16 => absurd c16 (by omega))
    show t_X d 175 26 lv [] g1 P
    refine t_0 ycg_26 rfl (ld_a l0) ?_
    refine t_0 ycg_27 rfl rfl ?_
    refine t_0 ycg_28 rfl (ld_a l0) ?_
    refine t_0 ycg_29 rfl (pq_cv eo_196 rfl (show cF g1 196 18 = p + 1 from S_f hS1 0 (Nat.le_of_ble_eq_true rfl))) ?_
    show t_X d 175 32 lv [oI (p + 1), oI 1, pvR 196] g1 P
    refine t_3 ycg_32 rfl (ar := ([pvR 196, oI 1, oI (p + 1)], [])) (pcal_w (as := [oI (p + 1), oI 1]) rfl rfl rfl eo_196) ⟨by omega, Nat.le_of_ble_eq_true rfl, Nat.le_of_ble_eq_true rfl, rfl⟩ ?_
    refine nw_run hB hS1 ⟨by omega, by omega⟩ ⟨by omega, by omega⟩ (fun g17 hS17 => ?_) rfl rfl rfl
    replace hS17 : nS g0 g17 (p + 1) m s (-1000 * 1 - (p + 1)) u c gf ga := hS17
    show t_X d 175 35 lv [oI 0] g17 P
    refine t_5 ycg_35 rfl rfl ?_
    exact hF _ _ _ _ _ hS17 (Or.inr (Or.inl ⟨hh, by omega, by rw [show -1000 * 1 - (p + 1) = -1000 - (p + 1) by omega]⟩))
end
section
/-! reference: items and the tray, by the rules (printed by wip/e2/u3.py) -/
theorem yri_0 : xe_look (xc 237) 0 = some (.aload_n 0, 1, 0, 0, 0) := by decide +kernel
theorem yri_1 : xe_look (xc 237) 1 = some (.invokevirtual 252, 3, 0, 198, 1137) := by decide +kernel
theorem yri_4 : xe_look (xc 237) 4 = some (.bipush 40, 2, 0, 0, 0) := by decide +kernel
theorem yri_6 : xe_look (xc 237) 6 = some (.if_icmp .ne 12, 3, 0, 0, 0) := by decide +kernel
theorem yri_9 : xe_look (xc 237) 9 = some (.aload_n 0, 1, 0, 0, 0) := by decide +kernel
theorem yri_10 : xe_look (xc 237) 10 = some (.invokevirtual 268, 3, 0, 230, 1265) := by decide +kernel
theorem yri_13 : xe_look (xc 237) 13 = some (.ifCond .ne (-13), 3, 0, 0, 0) := by decide +kernel
theorem yri_16 : xe_look (xc 237) 16 = some (.iconst 0, 1, 0, 0, 0) := by decide +kernel
theorem yri_17 : xe_look (xc 237) 17 = some (.ireturn, 1, 0, 0, 0) := by decide +kernel
theorem yri_18 : xe_look (xc 237) 18 = some (.aload_n 0, 1, 0, 0, 0) := by decide +kernel
theorem yri_19 : xe_look (xc 237) 19 = some (.invokevirtual 271, 3, 0, 239, 1266) := by decide +kernel
theorem yri_22 : xe_look (xc 237) 22 = some (.ifCond .ne 5, 3, 0, 0, 0) := by decide +kernel
theorem yri_25 : xe_look (xc 237) 25 = some (.iconst 0, 1, 0, 0, 0) := by decide +kernel
theorem yri_26 : xe_look (xc 237) 26 = some (.ireturn, 1, 0, 0, 0) := by decide +kernel
theorem yri_27 : xe_look (xc 237) 27 = some (.aload_n 0, 1, 0, 0, 0) := by decide +kernel
theorem yri_28 : xe_look (xc 237) 28 = some (.invokevirtual 252, 3, 0, 198, 1137) := by decide +kernel
theorem yri_31 : xe_look (xc 237) 31 = some (.bipush 41, 2, 0, 0, 0) := by decide +kernel
theorem yri_33 : xe_look (xc 237) 33 = some (.if_icmp .ne 19, 3, 0, 0, 0) := by decide +kernel
theorem yri_36 : xe_look (xc 237) 36 = some (.aload_n 0, 1, 0, 0, 0) := by decide +kernel
theorem yri_37 : xe_look (xc 237) 37 = some (.getfield 265, 3, 12, 26, 1139) := by decide +kernel
theorem yri_40 : xe_look (xc 237) 40 = some (.ifCond .le 12, 3, 0, 0, 0) := by decide +kernel
theorem yri_43 : xe_look (xc 237) 43 = some (.aload_n 0, 1, 0, 0, 0) := by decide +kernel
theorem yri_44 : xe_look (xc 237) 44 = some (.invokevirtual 274, 3, 0, 175, 1267) := by decide +kernel
theorem yri_47 : xe_look (xc 237) 47 = some (.ifCond .ne (-20), 3, 0, 0, 0) := by decide +kernel
theorem yri_50 : xe_look (xc 237) 50 = some (.iconst 0, 1, 0, 0, 0) := by decide +kernel
theorem yri_51 : xe_look (xc 237) 51 = some (.ireturn, 1, 0, 0, 0) := by decide +kernel
theorem yri_52 : xe_look (xc 237) 52 = some (.iconst 1, 1, 0, 0, 0) := by decide +kernel
theorem yri_53 : xe_look (xc 237) 53 = some (.ireturn, 1, 0, 0, 0) := by decide +kernel
theorem yty_45 : xe_look (xc 264) 45 = some (.iload_n 2, 1, 0, 0, 0) := by decide +kernel
theorem yty_46 : xe_look (xc 264) 46 = some (.ifCond .eq 46, 3, 0, 0, 0) := by decide +kernel
theorem yty_49 : xe_look (xc 264) 49 = some (.aload_n 0, 1, 0, 0, 0) := by decide +kernel
theorem yty_50 : xe_look (xc 264) 50 = some (.getfield 242, 3, 12, 18, 1135) := by decide +kernel
theorem yty_53 : xe_look (xc 264) 53 = some (.aload_n 0, 1, 0, 0, 0) := by decide +kernel
theorem yty_54 : xe_look (xc 264) 54 = some (.getfield 277, 3, 12, 19, 1190) := by decide +kernel
theorem yty_57 : xe_look (xc 264) 57 = some (.if_icmp .lt 10, 3, 0, 0, 0) := by decide +kernel
theorem yty_60 : xe_look (xc 264) 60 = some (.aload_n 0, 1, 0, 0, 0) := by decide +kernel
theorem yty_61 : xe_look (xc 264) 61 = some (.getfield 265, 3, 12, 26, 1139) := by decide +kernel
theorem yty_64 : xe_look (xc 264) 64 = some (.ifCond .le 28, 3, 0, 0, 0) := by decide +kernel
theorem yty_67 : xe_look (xc 264) 67 = some (.aload_n 0, 1, 0, 0, 0) := by decide +kernel
theorem yty_68 : xe_look (xc 264) 68 = some (.bipush 44, 2, 0, 0, 0) := by decide +kernel
theorem yty_70 : xe_look (xc 264) 70 = some (.invokevirtual 283, 3, 0, 260, 1232) := by decide +kernel
theorem yty_73 : xe_look (xc 264) 73 = some (.ifCond .eq 14, 3, 0, 0, 0) := by decide +kernel
theorem yty_76 : xe_look (xc 264) 76 = some (.aload_n 0, 1, 0, 0, 0) := by decide +kernel
theorem yty_77 : xe_look (xc 264) 77 = some (.invokevirtual 280, 3, 0, 237, 1285) := by decide +kernel
theorem yty_80 : xe_look (xc 264) 80 = some (.ifCond .eq 7, 3, 0, 0, 0) := by decide +kernel
theorem yty_83 : xe_look (xc 264) 83 = some (.iconst 1, 1, 0, 0, 0) := by decide +kernel
theorem yty_84 : xe_look (xc 264) 84 = some (.goto 4, 3, 0, 0, 0) := by decide +kernel
theorem yty_87 : xe_look (xc 264) 87 = some (.iconst 0, 1, 0, 0, 0) := by decide +kernel
theorem yty_88 : xe_look (xc 264) 88 = some (.istore_n 2, 1, 0, 0, 0) := by decide +kernel
theorem yty_89 : xe_look (xc 264) 89 = some (.goto (-44), 3, 0, 0, 0) := by decide +kernel
def tSt : List (Int × Int) → tC → tC → Prop
  | [], _, _ => True
  | q :: l, gf, ga => (gf l.length = q.1 ∧ ga l.length = q.2) ∧ (0 ≤ q.1 ∧ q.1 ≤ 120) ∧ tSt l gf ga
/-- as it stands within the reading -/
def nSt (g0 : pH) (g : pH) (p m : Int) (c : tC) (σ : List (Int × Int)) : Prop := ∃ (ft u : Int) (c' gf ga : tC), nS g0 g p m (σ.length : Int) ft u c' gf ga ∧ (∀ j : Nat, (j : Int) < m → c j = c' j ∧ 0 ≤ c' j ∧ c' j ≤ 31) ∧ tSt σ gf ga
def mAt (d : Nat) (P : Option pv × pH → Prop) (g : pH) : Prop := ∀ lv : List (Nat × pv), px_lg lv 0 = some (pvR 196) → px_lg lv 2 = some (oI 1) → t_X d 264 45 lv [] g P
def mZt (d : Nat) (P : Option pv × pH → Prop) (g : pH) : Prop := ∀ lv : List (Nat × pv), px_lg lv 0 = some (pvR 196) → px_lg lv 2 = some (oI 0) → t_X d 264 45 lv [] g P
def mFi (g0 : pH) (d : Nat) (P : Option pv × pH → Prop) (f : Int) : Prop := ∀ (g : pH) (p m s u : Int) (c gf ga : tC), nS g0 g p m s f u c gf ga → mZt d P g
def mQo (g0 : pH) (d : Nat) (P Q : Option pv × pH → Prop) : Prop := (∀ g : pH, mAt d P g → Q (some (oI 1), g)) ∧ ∀ g : pH, mZt d P g → Q (some (oI 0), g)
def mCl (g0 : pH) (d : Nat) (P : Option pv × pH → Prop) (p m : Int) (c : tC) (σ : List (Int × Int)) : Prop := ∀ Q, mQo g0 d P Q → ∀ (g : pH) (lv : List (Nat × pv)), nSt g0 g p m c σ → px_lg lv 0 = some (pvR 196) → t_X (d - 1) 237 27 lv [] g Q
def mBe (g0 : pH) (d : Nat) (P : Option pv × pH → Prop) (p m : Int) (c : tC) (σ : List (Int × Int)) : Prop := ∀ Q, mQo g0 d P Q → ∀ (g : pH) (lv : List (Nat × pv)), nSt g0 g p m c σ → px_lg lv 0 = some (pvR 196) → t_X (d - 1) 237 0 lv [] g Q
theorem tSt_u : ∀ {l : List (Int × Int)} {gf ga : tC} {k : Nat} {x y : Int}, l.length ≤ k → tSt l gf ga → tSt l (updI gf k x) (updI ga k y)
  | [], _, _, _, _, _, _, _ => trivial
  | q :: l, gf, ga, k, x, y, hk, h => by
    have hk : l.length + 1 ≤ k := hk
    refine ⟨⟨?_, ?_⟩, h.2.1, tSt_u (l := l) (by omega) h.2.2⟩
    · unfold updI
      rw [if_neg (by omega)]
      exact h.1.1
    · unfold updI
      rw [if_neg (by omega)]
      exact h.1.2
set_option maxHeartbeats 2000000 in
theorem m_r1 {d : Nat} {g0 : pH} {B : tC} {n : Int} (hB : nB g0 B n) (hd : 5 ≤ d) {P : Option pv × pH → Prop} {p m : Int} {c : tC} {r : tR} (hp : 0 ≤ p ∧ p ≤ n) (hm : 0 ≤ m ∧ m ≤ 60) (hh : tH B n p ≠ 40) (hr : tRo (tH B n) p m c r) {σ : List (Int × Int)} (hF : ∀ f, r = .inl f → mFi g0 d P f) (hO : ∀ p1 m1 c1, r = .inr (p1, m1, c1) → mCl g0 d P p1 m1 c1 σ) : mBe g0 d P p m c σ := by
  intro Q hQ g lv hg l0
  obtain ⟨ft, u, cc, gf, ga, hS, hc, hT⟩ := hg
  have hl9 : (σ.length : Int) ≤ 2147483647 := by have x9 := cF_b g 196 26; rw [show cF g 196 26 = (σ.length : Int) from S_f hS 2 (Nat.le_of_ble_eq_true rfl)] at x9; exact x9.2
  have hn0 := hB.2.2.1
  have hn1 := hB.2.2.2
  have hH : ∀ q, 0 ≤ q → -1 ≤ tH B n q ∧ tH B n q ≤ 255 := fun q hq => tH_b (tp_b hB.2.1) (by omega) hq
  refine t_0 yri_0 rfl (ld_a l0) ?_
  refine t_3 yri_1 rfl (ar := ([pvR 196], [])) (pcal_w (as := []) rfl rfl rfl eo_196) ⟨by omega, Nat.le_of_ble_eq_true rfl, Nat.le_of_ble_eq_true rfl, rfl⟩ ?_
  refine nh_run hB hS (by omega) ?_ rfl
  have b1 := hH p (by omega)
  have z1 := tH_n (B := B) (n := n) (p := p)
  show t_X (d - 1) 237 4 lv [oI (tH B n p)] g Q
  refine t_0 yri_4 rfl (pq_b (by decide)) ?_
  refine tb_ne yri_6 (by decide) ⟨by omega, by omega⟩ ⟨by omega, by omega⟩ (fun c2 => ?_) (fun c2 => absurd c2 (by omega))
  show t_X (d - 1) 237 18 lv [] g Q
  refine t_0 yri_18 rfl (ld_a l0) ?_
  refine t_3 yri_19 rfl (ar := ([pvR 196], [])) (pcal_w (as := []) rfl rfl rfl eo_196) ⟨by omega, Nat.le_of_ble_eq_true rfl, Nat.le_of_ble_eq_true rfl, rfl⟩ ?_
  refine nrx_run (by omega) hB hS ⟨by omega, by omega⟩ hm (fun j hj => (hc j hj).2) (fun g3 f3 q3 m3 s3 u3 c3 e3 hS3 t3 => ?_) (fun g3 q3 m3 u3 c3 hS3 t3 w3 => ?_) rfl
  · show t_X (d - 1) 237 22 lv [oI 0] g3 Q
    refine tz_ne yri_22 (by decide) ⟨by omega, by omega⟩ (fun c4 => absurd c4 (by omega)) (fun c4 => ?_)
    show t_X (d - 1) 237 25 lv [] g3 Q
    refine t_0 yri_25 rfl rfl ?_
    refine t_5 yri_26 rfl rfl ?_
    have x := tRo_d (fun j hj => (hc j hj).1) hr t3 hm.1
    rcases r with f | ⟨p1, m1, c1⟩
    · have x : f = f3 := x
      subst x
      exact hQ.2 _ (hF _ rfl _ _ _ _ _ _ _ _ hS3)
    · exact x.elim
  · show t_X (d - 1) 237 22 lv [oI 1] g3 Q
    refine tz_ne yri_22 (by decide) ⟨by omega, by omega⟩ (fun c5 => ?_) (fun c5 => absurd c5 (by omega))
    show t_X (d - 1) 237 27 lv [] g3 Q
    have x := tRo_d (fun j hj => (hc j hj).1) hr t3 hm.1
    rcases r with f | ⟨p1, m1, c1⟩
    · exact x.elim
    · obtain ⟨x1, x2, x3⟩ := x
      subst x1; subst x2
      exact hO _ _ _ rfl _ hQ _ _ ⟨_, _, _, _, _, hS3, fun j hj => ⟨x3 j hj, w3 j hj⟩, hT⟩ l0
set_option maxHeartbeats 2000000 in
theorem m_r2 {d : Nat} {g0 : pH} {B : tC} {n : Int} (hB : nB g0 B n) (hd : 5 ≤ d) {P : Option pv × pH → Prop} {p m : Int} {c : tC} (hp : 0 ≤ p ∧ p ≤ n) (hm : 0 ≤ m ∧ m ≤ 60) (hh : tH B n p = 40) {σ : List (Int × Int)} (hσ : σ.length ≤ 4) (hF : σ.length = 4 → mFi g0 d P (-5000 - p)) (hO : σ.length < 4 → mBe g0 d P (p + 1) m c ((p, m) :: σ)) : mBe g0 d P p m c σ := by
  intro Q hQ g lv hg l0
  obtain ⟨ft, u, cc, gf, ga, hS, hc, hT⟩ := hg
  have hl9 : (σ.length : Int) ≤ 2147483647 := by have x9 := cF_b g 196 26; rw [show cF g 196 26 = (σ.length : Int) from S_f hS 2 (Nat.le_of_ble_eq_true rfl)] at x9; exact x9.2
  have hn0 := hB.2.2.1
  have hn1 := hB.2.2.2
  have hH : ∀ q, 0 ≤ q → -1 ≤ tH B n q ∧ tH B n q ≤ 255 := fun q hq => tH_b (tp_b hB.2.1) (by omega) hq
  refine t_0 yri_0 rfl (ld_a l0) ?_
  refine t_3 yri_1 rfl (ar := ([pvR 196], [])) (pcal_w (as := []) rfl rfl rfl eo_196) ⟨by omega, Nat.le_of_ble_eq_true rfl, Nat.le_of_ble_eq_true rfl, rfl⟩ ?_
  refine nh_run hB hS (by omega) ?_ rfl
  have b1 := hH p (by omega)
  have z1 := tH_n (B := B) (n := n) (p := p)
  show t_X (d - 1) 237 4 lv [oI (tH B n p)] g Q
  refine t_0 yri_4 rfl (pq_b (by decide)) ?_
  refine tb_ne yri_6 (by decide) ⟨by omega, by omega⟩ ⟨by omega, by omega⟩ (fun c2 => absurd c2 (by omega)) (fun c2 => ?_)
  show t_X (d - 1) 237 9 lv [] g Q
  refine t_0 yri_9 rfl (ld_a l0) ?_
  refine t_3 yri_10 rfl (ar := ([pvR 196], [])) (pcal_w (as := []) rfl rfl rfl eo_196) ⟨by omega, Nat.le_of_ble_eq_true rfl, Nat.le_of_ble_eq_true rfl, rfl⟩ ?_
  refine no_run hB hS ⟨by omega, by omega⟩ hm ⟨by omega, by omega⟩ (fun t3 g3 hS3 => ?_) (fun t3 g3 hS3 => ?_) rfl (by omega)
  · show t_X (d - 1) 237 13 lv [oI 0] g3 Q
    refine tz_ne yri_13 (by decide) ⟨by omega, by omega⟩ (fun c4 => absurd c4 (by omega)) (fun c4 => ?_)
    show t_X (d - 1) 237 16 lv [] g3 Q
    refine t_0 yri_16 rfl rfl ?_
    refine t_5 yri_17 rfl rfl ?_
    exact hQ.2 _ (hF (by omega) _ _ _ _ _ _ _ _ hS3)
  · show t_X (d - 1) 237 13 lv [oI 1] g3 Q
    refine tz_ne yri_13 (by decide) ⟨by omega, by omega⟩ (fun c5 => ?_) (fun c5 => absurd c5 (by omega))
    show t_X (d - 1) 237 0 lv [] g3 Q
    refine hO (by omega) _ hQ _ _ ⟨ft, u, cc, _, _, (show nS g0 g3 (p + 1) m (((p, m) :: σ).length : Int) ft u cc _ _ by rw [show (((p, m) :: σ).length : Int) = (σ.length : Int) + 1 from rfl]; exact hS3), hc, ⟨?_, ?_⟩, ⟨hp.1, by omega⟩, tSt_u (Nat.le_refl _) hT⟩ l0
    · show updI gf _ p σ.length = p
      unfold updI
      rw [if_pos (by omega)]
    · show updI ga _ m σ.length = m
      unfold updI
      rw [if_pos (by omega)]
theorem m_c0 {d : Nat} {g0 : pH} {B : tC} {n : Int} (hB : nB g0 B n) (hd : 5 ≤ d) {P : Option pv × pH → Prop} {p m : Int} {c : tC} (hp : 0 ≤ p ∧ p ≤ n) {σ : List (Int × Int)} (hh : tH B n p ≠ 41 ∨ σ.length = 0) (hA : ∀ g, nSt g0 g p m c σ → mAt d P g) : mCl g0 d P p m c σ := by
  intro Q hQ g lv hg l0
  obtain ⟨ft, u, cc, gf, ga, hS, hc, hT⟩ := hg
  have hl9 : (σ.length : Int) ≤ 2147483647 := by have x9 := cF_b g 196 26; rw [show cF g 196 26 = (σ.length : Int) from S_f hS 2 (Nat.le_of_ble_eq_true rfl)] at x9; exact x9.2
  have hn0 := hB.2.2.1
  have hn1 := hB.2.2.2
  have hH : ∀ q, 0 ≤ q → -1 ≤ tH B n q ∧ tH B n q ≤ 255 := fun q hq => tH_b (tp_b hB.2.1) (by omega) hq
  refine t_0 yri_27 rfl (ld_a l0) ?_
  refine t_3 yri_28 rfl (ar := ([pvR 196], [])) (pcal_w (as := []) rfl rfl rfl eo_196) ⟨by omega, Nat.le_of_ble_eq_true rfl, Nat.le_of_ble_eq_true rfl, rfl⟩ ?_
  refine nh_run hB hS (by omega) ?_ rfl
  have b1 := hH p (by omega)
  have z1 := tH_n (B := B) (n := n) (p := p)
  show t_X (d - 1) 237 31 lv [oI (tH B n p)] g Q
  refine t_0 yri_31 rfl (pq_b (by decide)) ?_
  refine tb_ne yri_33 (by decide) ⟨by omega, by omega⟩ ⟨by omega, by omega⟩ (fun c2 => ?_) (fun c2 => ?_)
  · show t_X (d - 1) 237 52 lv [] g Q
    refine t_0 yri_52 rfl rfl ?_
    refine t_5 yri_53 rfl rfl ?_
    exact hQ.1 _ (hA _ ⟨ft, u, cc, gf, ga, hS, hc, hT⟩)
  · show t_X (d - 1) 237 36 lv [] g Q
    refine t_0 yri_36 rfl (ld_a l0) ?_
    refine t_0 yri_37 rfl (pq_cv eo_196 rfl (show cF g 196 26 = (σ.length : Int) from S_f hS 2 (Nat.le_of_ble_eq_true rfl))) ?_
    show t_X (d - 1) 237 40 lv [oI ((σ.length : Int))] g Q
    refine tz_le yri_40 (by decide) ⟨by omega, by omega⟩ (fun c3 => ?_) (fun c3 => absurd c3 (by omega))
    show t_X (d - 1) 237 52 lv [] g Q
    refine t_0 yri_52 rfl rfl ?_
    refine t_5 yri_53 rfl rfl ?_
    exact hQ.1 _ (hA _ ⟨ft, u, cc, gf, ga, hS, hc, hT⟩)
set_option maxHeartbeats 2000000 in
theorem m_c1 {d : Nat} {g0 : pH} {B : tC} {n : Int} (hB : nB g0 B n) (hd : 5 ≤ d) {P : Option pv × pH → Prop} {p m : Int} {c : tC} {r : tR} (hp : 0 ≤ p ∧ p ≤ n) {q : Int × Int} (hm1 : 0 ≤ q.2 ∧ q.2 < m ∧ m ≤ 60) {σ : List (Int × Int)} (hσ : σ.length < 4) (hh : tH B n p = 41) (hr : tEn (tH B n) q.1 q.2 p m c r) (hF : ∀ f, r = .inl f → mFi g0 d P f) (hO : ∀ p1 m1 c1, r = .inr (p1, m1, c1) → mCl g0 d P p1 m1 c1 σ) : mCl g0 d P p m c (q :: σ) := by
  intro Q hQ g lv hg l0
  obtain ⟨ft, u, cc, gf, ga, hS, hc, hT⟩ := hg
  have hpp := hT.2.1
  have hl : ((q :: σ).length : Int) = (σ.length : Int) + 1 := by rw [List.length_cons]; omega
  have eix : (((q :: σ).length : Int) - 1).toNat = σ.length := by omega
  have hl9 : ((q :: σ).length : Int) ≤ 2147483647 := by have x9 := cF_b g 196 26; rw [show cF g 196 26 = ((q :: σ).length : Int) from S_f hS 2 (Nat.le_of_ble_eq_true rfl)] at x9; exact x9.2
  have hn0 := hB.2.2.1
  have hn1 := hB.2.2.2
  have hH : ∀ q, 0 ≤ q → -1 ≤ tH B n q ∧ tH B n q ≤ 255 := fun q hq => tH_b (tp_b hB.2.1) (by omega) hq
  refine t_0 yri_27 rfl (ld_a l0) ?_
  refine t_3 yri_28 rfl (ar := ([pvR 196], [])) (pcal_w (as := []) rfl rfl rfl eo_196) ⟨by omega, Nat.le_of_ble_eq_true rfl, Nat.le_of_ble_eq_true rfl, rfl⟩ ?_
  refine nh_run hB hS (by omega) ?_ rfl
  have b1 := hH p (by omega)
  have z1 := tH_n (B := B) (n := n) (p := p)
  show t_X (d - 1) 237 31 lv [oI (tH B n p)] g Q
  refine t_0 yri_31 rfl (pq_b (by decide)) ?_
  refine tb_ne yri_33 (by decide) ⟨by omega, by omega⟩ ⟨by omega, by omega⟩ (fun c2 => absurd c2 (by omega)) (fun c2 => ?_)
  show t_X (d - 1) 237 36 lv [] g Q
  refine t_0 yri_36 rfl (ld_a l0) ?_
  refine t_0 yri_37 rfl (pq_cv eo_196 rfl (show cF g 196 26 = ((q :: σ).length : Int) from S_f hS 2 (Nat.le_of_ble_eq_true rfl))) ?_
  show t_X (d - 1) 237 40 lv [oI (((q :: σ).length : Int))] g Q
  refine tz_le yri_40 (by decide) ⟨by omega, by omega⟩ (fun c3 => absurd c3 (by omega)) (fun c3 => ?_)
  show t_X (d - 1) 237 43 lv [] g Q
  refine t_0 yri_43 rfl (ld_a l0) ?_
  refine t_3 yri_44 rfl (ar := ([pvR 196], [])) (pcal_w (as := []) rfl rfl rfl eo_196) ⟨by omega, Nat.le_of_ble_eq_true rfl, Nat.le_of_ble_eq_true rfl, rfl⟩ ?_
  refine nc_run (by omega) hB hS ⟨by omega, by omega⟩ hh hm1 hpp ⟨by omega, by omega⟩ (by rw [eix]; exact hT.1.1) (by rw [eix]; exact hT.1.2) (fun j hj => (hc j hj).2) (fun g4 f4 q4 s4 u4 hS4 t4 => ?_) (fun g4 m4 c4 hS4 t4 w4 => ?_) rfl
  · show t_X (d - 1) 237 47 lv [oI 0] g4 Q
    refine tz_ne yri_47 (by decide) ⟨by omega, by omega⟩ (fun c5 => absurd c5 (by omega)) (fun c5 => ?_)
    show t_X (d - 1) 237 50 lv [] g4 Q
    refine t_0 yri_50 rfl rfl ?_
    refine t_5 yri_51 rfl rfl ?_
    have x := tEn_d (fun j hj => (hc j hj).1) hr t4 ⟨hm1.1, hm1.2.1⟩
    rcases r with f | ⟨p1, m1, c1⟩
    · have x : f = f4 := x
      subst x
      exact hQ.2 _ (hF _ rfl _ _ _ _ _ _ _ _ hS4)
    · exact x.elim
  · show t_X (d - 1) 237 47 lv [oI 1] g4 Q
    refine tz_ne yri_47 (by decide) ⟨by omega, by omega⟩ (fun c6 => ?_) (fun c6 => absurd c6 (by omega))
    show t_X (d - 1) 237 27 lv [] g4 Q
    have x := tEn_d (fun j hj => (hc j hj).1) hr t4 ⟨hm1.1, hm1.2.1⟩
    rcases r with f | ⟨p1, m1, c1⟩
    · exact x.elim
    · obtain ⟨x1, x2, x3⟩ := x
      subst x1; subst x2
      exact hO _ _ _ rfl _ hQ _ _ ⟨ft, u, _, gf, ga, (by rw [show (σ.length : Int) = ((q :: σ).length : Int) - 1 by rw [List.length_cons]; omega]; exact hS4), fun j hj => ⟨x3 j hj, w4 j hj⟩, hT.2.2⟩ l0
set_option maxHeartbeats 2000000 in
theorem m_a1 {d : Nat} {g0 : pH} {B : tC} {n : Int} (hB : nB g0 B n) (hd : 5 ≤ d) {P : Option pv × pH → Prop} {p m : Int} {c : tC} (hp : 0 ≤ p ∧ p < n) {σ : List (Int × Int)} (hh : tH B n p = 44) (hBe : mBe g0 d P (p + 1) m c σ) {g : pH} (hg : nSt g0 g p m c σ) : mAt d P g := by
  intro lv l0 l2
  obtain ⟨ft, u, cc, gf, ga, hS, hc, hT⟩ := hg
  have hl9 : (σ.length : Int) ≤ 2147483647 := by have x9 := cF_b g 196 26; rw [show cF g 196 26 = (σ.length : Int) from S_f hS 2 (Nat.le_of_ble_eq_true rfl)] at x9; exact x9.2
  have hn0 := hB.2.2.1
  have hn1 := hB.2.2.2
  have hH : ∀ q, 0 ≤ q → -1 ≤ tH B n q ∧ tH B n q ≤ 255 := fun q hq => tH_b (tp_b hB.2.1) (by omega) hq
  refine t_0 yty_45 rfl (ld_i l2) ?_
  refine tz_eq yty_46 (by decide) ⟨by omega, by omega⟩ (fun c1 => absurd c1 (by omega)) (fun c1 => ?_)
  show t_X d 264 49 lv [] g P
  refine t_0 yty_49 rfl (ld_a l0) ?_
  refine t_0 yty_50 rfl (pq_cv eo_196 rfl (show cF g 196 18 = p from S_f hS 0 (Nat.le_of_ble_eq_true rfl))) ?_
  show t_X d 264 53 lv [oI (p)] g P
  refine t_0 yty_53 rfl (ld_a l0) ?_
  refine t_0 yty_54 rfl (pq_cv eo_196 rfl (ne_l hB hS : cF g 196 19 = n)) ?_
  show t_X d 264 57 lv [oI (n), oI (p)] g P
  refine tb_lt yty_57 (by decide) ⟨by omega, by omega⟩ ⟨by omega, by omega⟩ (fun c2 => ?_) (fun c2 => absurd c2 (by omega))
  show t_X d 264 67 lv [] g P
  refine t_0 yty_67 rfl (ld_a l0) ?_
  refine t_0 yty_68 rfl (pq_b (by decide)) ?_
  refine t_3 yty_70 rfl (ar := ([pvR 196, oI 44], [])) (pcal_w (as := [oI 44]) rfl rfl rfl eo_196) ⟨by omega, Nat.le_of_ble_eq_true rfl, Nat.le_of_ble_eq_true rfl, rfl⟩ ?_
  refine ntx_run (by omega) hB hS ⟨by omega, by omega⟩ (by omega) (fun t3 g3 hS3 => ?_) (fun t3 g3 hS3 => ?_) rfl rfl
  · show t_X d 264 73 lv [oI 1] g3 P
    refine tz_eq yty_73 (by decide) ⟨by omega, by omega⟩ (fun c4 => absurd c4 (by omega)) (fun c4 => ?_)
    show t_X d 264 76 lv [] g3 P
    refine t_0 yty_76 rfl (ld_a l0) ?_
    refine t_3 yty_77 rfl (ar := ([pvR 196], [])) (pcal_w (as := []) rfl rfl rfl eo_196) ⟨by omega, Nat.le_of_ble_eq_true rfl, Nat.le_of_ble_eq_true rfl, rfl⟩ ?_
    refine hBe _ ⟨fun g5 a5 => ?_, fun g5 a5 => ?_⟩ _ _ ⟨ft, u, cc, gf, ga, hS3, hc, hT⟩ rfl
    · show t_X d 264 80 lv [oI 1] g5 P
      refine tz_eq yty_80 (by decide) ⟨by omega, by omega⟩ (fun c6 => absurd c6 (by omega)) (fun c6 => ?_)
      show t_X d 264 83 lv [] g5 P
      refine t_0 yty_83 rfl rfl ?_
      refine t_1 yty_84 rfl (pb_goto (pc := 84) (by decide)) ?_
      show t_X d 264 88 lv [oI 1] g5 P
      refine t_2 yty_88 rfl (w := (px_s1 lv 2 (oI 1), [])) rfl ?_
      replace l0 : px_lg (px_s1 lv 2 (oI 1)) 0 = some (pvR 196) := s1_ne (by decide) (fun _ => rfl) l0
      have l2 : px_lg (px_s1 lv 2 (oI 1)) 2 = some (oI 1) := s1_eq
      generalize px_s1 lv 2 (oI 1) = lv7 at l0 l2 ⊢
      show t_X d 264 89 lv7 [] g5 P
      refine t_1 yty_89 rfl (pb_goto (pc := 89) (by decide)) ?_
      show t_X d 264 45 lv7 [] g5 P
      exact a5 _ l0 l2
    · show t_X d 264 80 lv [oI 0] g5 P
      refine tz_eq yty_80 (by decide) ⟨by omega, by omega⟩ (fun c8 => ?_) (fun c8 => absurd c8 (by omega))
      show t_X d 264 87 lv [] g5 P
      refine t_0 yty_87 rfl rfl ?_
      refine t_2 yty_88 rfl (w := (px_s1 lv 2 (oI 0), [])) rfl ?_
      replace l0 : px_lg (px_s1 lv 2 (oI 0)) 0 = some (pvR 196) := s1_ne (by decide) (fun _ => rfl) l0
      have l2 : px_lg (px_s1 lv 2 (oI 0)) 2 = some (oI 0) := s1_eq
      generalize px_s1 lv 2 (oI 0) = lv9 at l0 l2 ⊢
      show t_X d 264 89 lv9 [] g5 P
      refine t_1 yty_89 rfl (pb_goto (pc := 89) (by decide)) ?_
      show t_X d 264 45 lv9 [] g5 P
      exact a5 _ l0 l2
  · show t_X d 264 73 lv [oI 0] g3 P
    refine tz_eq yty_73 (by decide) ⟨by omega, by omega⟩ (fun c10 => ?_) (fun c10 => absurd c10 (by omega))
    show t_X d 264 87 lv [] g3 P
    refine t_0 yty_87 rfl rfl ?_
    refine t_2 yty_88 rfl (w := (px_s1 lv 2 (oI 0), [])) rfl ?_
    replace l0 : px_lg (px_s1 lv 2 (oI 0)) 0 = some (pvR 196) := s1_ne (by decide) (fun _ => rfl) l0
    have l2 : px_lg (px_s1 lv 2 (oI 0)) 2 = some (oI 0) := s1_eq
    generalize px_s1 lv 2 (oI 0) = lv11 at l0 l2 ⊢
    show t_X d 264 89 lv11 [] g3 P
    refine t_1 yty_89 rfl (pb_goto (pc := 89) (by decide)) ?_
    show t_X d 264 45 lv11 [] g3 P
    exact absurd hh t3
set_option maxHeartbeats 2000000 in
theorem m_a0 {d : Nat} {g0 : pH} {B : tC} {n : Int} (hB : nB g0 B n) (hd : 5 ≤ d) {P : Option pv × pH → Prop} {p m : Int} {c : tC} (hp : 0 ≤ p ∧ p ≤ n) {σ : List (Int × Int)} (hh : tH B n p ≠ 44) (hl : p < n ∨ 0 < σ.length) (hF : mFi g0 d P (-1000 - p)) {g : pH} (hg : nSt g0 g p m c σ) : mAt d P g := by
  intro lv l0 l2
  obtain ⟨ft, u, cc, gf, ga, hS, hc, hT⟩ := hg
  have hl9 : (σ.length : Int) ≤ 2147483647 := by have x9 := cF_b g 196 26; rw [show cF g 196 26 = (σ.length : Int) from S_f hS 2 (Nat.le_of_ble_eq_true rfl)] at x9; exact x9.2
  have hn0 := hB.2.2.1
  have hn1 := hB.2.2.2
  have hH : ∀ q, 0 ≤ q → -1 ≤ tH B n q ∧ tH B n q ≤ 255 := fun q hq => tH_b (tp_b hB.2.1) (by omega) hq
  refine t_0 yty_45 rfl (ld_i l2) ?_
  refine tz_eq yty_46 (by decide) ⟨by omega, by omega⟩ (fun c1 => absurd c1 (by omega)) (fun c1 => ?_)
  show t_X d 264 49 lv [] g P
  refine t_0 yty_49 rfl (ld_a l0) ?_
  refine t_0 yty_50 rfl (pq_cv eo_196 rfl (show cF g 196 18 = p from S_f hS 0 (Nat.le_of_ble_eq_true rfl))) ?_
  show t_X d 264 53 lv [oI (p)] g P
  refine t_0 yty_53 rfl (ld_a l0) ?_
  refine t_0 yty_54 rfl (pq_cv eo_196 rfl (ne_l hB hS : cF g 196 19 = n)) ?_
  show t_X d 264 57 lv [oI (n), oI (p)] g P
  refine tb_lt yty_57 (by decide) ⟨by omega, by omega⟩ ⟨by omega, by omega⟩ (fun c2 => ?_) (fun c2 => ?_)
  · show t_X d 264 67 lv [] g P
    refine t_0 yty_67 rfl (ld_a l0) ?_
    refine t_0 yty_68 rfl (pq_b (by decide)) ?_
    refine t_3 yty_70 rfl (ar := ([pvR 196, oI 44], [])) (pcal_w (as := [oI 44]) rfl rfl rfl eo_196) ⟨by omega, Nat.le_of_ble_eq_true rfl, Nat.le_of_ble_eq_true rfl, rfl⟩ ?_
    refine ntx_run (by omega) hB hS ⟨by omega, by omega⟩ (by omega) (fun t3 => absurd t3 hh) (fun t3 g3 hS3 => ?_) rfl rfl
    show t_X d 264 73 lv [oI 0] g3 P
    refine tz_eq yty_73 (by decide) ⟨by omega, by omega⟩ (fun c4 => ?_) (fun c4 => absurd c4 (by omega))
    show t_X d 264 87 lv [] g3 P
    refine t_0 yty_87 rfl rfl ?_
    refine t_2 yty_88 rfl (w := (px_s1 lv 2 (oI 0), [])) rfl ?_
    replace l0 : px_lg (px_s1 lv 2 (oI 0)) 0 = some (pvR 196) := s1_ne (by decide) (fun _ => rfl) l0
    have l2 : px_lg (px_s1 lv 2 (oI 0)) 2 = some (oI 0) := s1_eq
    generalize px_s1 lv 2 (oI 0) = lv5 at l0 l2 ⊢
    show t_X d 264 89 lv5 [] g3 P
    refine t_1 yty_89 rfl (pb_goto (pc := 89) (by decide)) ?_
    show t_X d 264 45 lv5 [] g3 P
    exact hF _ _ _ _ _ _ _ _ hS3 _ l0 l2
  · show t_X d 264 60 lv [] g P
    refine t_0 yty_60 rfl (ld_a l0) ?_
    refine t_0 yty_61 rfl (pq_cv eo_196 rfl (show cF g 196 26 = (σ.length : Int) from S_f hS 2 (Nat.le_of_ble_eq_true rfl))) ?_
    show t_X d 264 64 lv [oI ((σ.length : Int))] g P
    refine tz_le yty_64 (by decide) ⟨by omega, by omega⟩ (fun c6 => absurd c6 (by omega)) (fun c6 => ?_)
    show t_X d 264 67 lv [] g P
    refine t_0 yty_67 rfl (ld_a l0) ?_
    refine t_0 yty_68 rfl (pq_b (by decide)) ?_
    refine t_3 yty_70 rfl (ar := ([pvR 196, oI 44], [])) (pcal_w (as := [oI 44]) rfl rfl rfl eo_196) ⟨by omega, Nat.le_of_ble_eq_true rfl, Nat.le_of_ble_eq_true rfl, rfl⟩ ?_
    refine ntx_run (by omega) hB hS ⟨by omega, by omega⟩ (by omega) (fun t7 => absurd t7 hh) (fun t7 g7 hS7 => ?_) rfl rfl
    show t_X d 264 73 lv [oI 0] g7 P
    refine tz_eq yty_73 (by decide) ⟨by omega, by omega⟩ (fun c8 => ?_) (fun c8 => absurd c8 (by omega))
    show t_X d 264 87 lv [] g7 P
    refine t_0 yty_87 rfl rfl ?_
    refine t_2 yty_88 rfl (w := (px_s1 lv 2 (oI 0), [])) rfl ?_
    replace l0 : px_lg (px_s1 lv 2 (oI 0)) 0 = some (pvR 196) := s1_ne (by decide) (fun _ => rfl) l0
    have l2 : px_lg (px_s1 lv 2 (oI 0)) 2 = some (oI 0) := s1_eq
    generalize px_s1 lv 2 (oI 0) = lv9 at l0 l2 ⊢
    show t_X d 264 89 lv9 [] g7 P
    refine t_1 yty_89 rfl (pb_goto (pc := 89) (by decide)) ?_
    show t_X d 264 45 lv9 [] g7 P
    exact hF _ _ _ _ _ _ _ _ hS7 _ l0 l2
def mI (H : Int → Int) (g0 : pH) (d : Nat) (P : Option pv × pH → Prop) (b : Bool) (δ : Nat) (p m : Int) (c : tC) (r : tR) : Prop := match r with
  | .inl f => mFi g0 d P f → ∀ σ : List (Int × Int), σ.length = δ → δ ≤ 4 → mBe g0 d P p m c σ
  | .inr (p1, m1, c1) => (b = true → H p1 ≠ 44) ∧ ∀ σ : List (Int × Int), σ.length = δ → δ ≤ 4 → mCl g0 d P p1 m1 c1 σ → mBe g0 d P p m c σ
theorem m_cl {d : Nat} {g0 : pH} {B : tC} {n : Int} (hB : nB g0 B n) (hd : 5 ≤ d) {P : Option pv × pH → Prop} : tCl (tH B n) n (mI (tH B n) g0 d P true) (mI (tH B n) g0 d P false) := by
  have hn0 := hB.2.2.1
  have hn1 := hB.2.2.2
  refine ⟨?_, ?_, ?_, ?_, ?_, ?_, ?_⟩
  · intro δ p m c r h1 h2 h3
    rcases r with f | ⟨p1, m1, c1⟩
    · intro hF σ hσ h4
      exact m_r1 hB hd (r := .inl f) ⟨h1.1, h1.2.1⟩ h1.2.2 h2 h3 (fun f' e => by cases e; exact hF) (fun _ _ _ e => by cases e)
    · refine ⟨(fun z => by cases z), fun σ hσ h4 hC => ?_⟩
      exact m_r1 hB hd (r := .inr (p1, m1, c1)) ⟨h1.1, h1.2.1⟩ h1.2.2 h2 h3 (fun f' e => by cases e) (fun _ _ _ e => by cases e; exact hC)
  · intro δ p m c h1 h2 h3 hF σ hσ h4
    exact m_r2 hB hd ⟨h1.1, h1.2.1⟩ h1.2.2 h2 (by omega) (fun _ => hF) (fun z => by omega)
  · intro δ p m c f h1 h2 h3 h4 hF σ hσ h5
    exact m_r2 hB hd ⟨h1.1, by omega⟩ h1.2.2 h2 (by omega) (fun z => by omega) (fun _ => h4 hF ((p, m) :: σ) (by rw [List.length_cons, hσ]) (by omega))
  · intro δ p m c p1 m1 c1 r h1 h2 h3 h4 h5
    obtain ⟨⟨h1, h6, h7, h8, h9, h10⟩, h11⟩ := h1
    have hpn : p < n := tH_n (B := B) (by omega)
    have main : ∀ σ : List (Int × Int), σ.length = δ → (∀ f, r = .inl f → mFi g0 d P f) → (∀ p2 m2 c2, r = .inr (p2, m2, c2) → mCl g0 d P p2 m2 c2 σ) → mBe g0 d P p m c σ := by
      intro σ hσ hF hO
      refine m_r2 hB hd ⟨h11, by omega⟩ ⟨h8, by omega⟩ h2 (by omega) (fun z => by omega) (fun _ => h4.2 ((p, m) :: σ) (by rw [List.length_cons, hσ]) (by omega) ?_)
      by_cases q : tH B n p1 = 41
      · exact m_c1 hB hd (q := (p, m)) ⟨by omega, h7⟩ ⟨h8, h9, h10⟩ (by omega) q h5 hF hO
      · refine m_c0 hB hd ⟨by omega, h7⟩ (Or.inl q) (fun g hg => m_a0 hB hd ⟨by omega, h7⟩ (h4.1 rfl) (Or.inr (by rw [List.length_cons]; omega)) (hF _ ?_) hg)
        rcases h5 with ⟨x1, x2⟩ | ⟨x1, -⟩ | ⟨x1, -⟩
        · exact x2
        · exact absurd x1 q
        · exact absurd x1 q
    rcases r with f | ⟨p2, m2, c2⟩
    · intro hF σ hσ h12
      exact main σ hσ (fun f' e => by cases e; exact hF) (fun _ _ _ e => by cases e)
    · refine ⟨(fun z => by cases z), fun σ hσ h12 hC => ?_⟩
      exact main σ hσ (fun f' e => by cases e) (fun _ _ _ e => by cases e; exact hC)
  · intro δ p m c f h1
    exact h1
  · intro δ p m c p1 m1 c1 h1 h2 h3
    exact ⟨fun _ => h3, h2.2⟩
  · intro δ p m c p1 m1 c1 r h1 h2 h3 h4
    obtain ⟨h5, h6, h7, h8, h9, h10⟩ := h1
    have hpn : p1 < n := tH_n (B := B) (by omega)
    have main : ∀ σ : List (Int × Int), σ.length = δ → δ ≤ 4 → mBe g0 d P (p1 + 1) m1 c1 σ → mBe g0 d P p m c σ := fun σ hσ h11 hBe => h2.2 σ hσ h11 (m_c0 hB hd ⟨by omega, h7⟩ (Or.inl (by omega)) (fun g hg => m_a1 hB hd ⟨by omega, hpn⟩ h3 hBe hg))
    rcases r with f | ⟨p2, m2, c2⟩
    · intro hF σ hσ h11
      exact main σ hσ h11 (h4 hF σ hσ h11)
    · exact ⟨h4.1, fun σ hσ h11 hC => main σ hσ h11 (h4.2 σ hσ h11 hC)⟩
end
section
/-! the tray of both sides, exactly (printed by wip/e2/u4.py) -/
theorem ycy_0 : xe_look (xc 179) 0 = some (.iconst 0, 1, 0, 0, 0) := by decide +kernel
theorem ycy_1 : xe_look (xc 179) 1 = some (.istore_n 3, 1, 0, 0, 0) := by decide +kernel
theorem ycy_2 : xe_look (xc 179) 2 = some (.iload_n 3, 1, 0, 0, 0) := by decide +kernel
theorem ycy_3 : xe_look (xc 179) 3 = some (.iload_n 2, 1, 0, 0, 0) := by decide +kernel
theorem ycy_4 : xe_look (xc 179) 4 = some (.if_icmp .ge 15, 3, 0, 0, 0) := by decide +kernel
theorem ycy_7 : xe_look (xc 179) 7 = some (.aload_n 1, 1, 0, 0, 0) := by decide +kernel
theorem ycy_8 : xe_look (xc 179) 8 = some (.iload_n 3, 1, 0, 0, 0) := by decide +kernel
theorem ycy_9 : xe_look (xc 179) 9 = some (.aload_n 0, 1, 0, 0, 0) := by decide +kernel
theorem ycy_10 : xe_look (xc 179) 10 = some (.iload_n 3, 1, 0, 0, 0) := by decide +kernel
theorem ycy_11 : xe_look (xc 179) 11 = some (.iaload, 1, 0, 0, 0) := by decide +kernel
theorem ycy_12 : xe_look (xc 179) 12 = some (.iastore, 1, 0, 0, 0) := by decide +kernel
theorem ycy_13 : xe_look (xc 179) 13 = some (.iinc 3 1, 3, 0, 0, 0) := by decide +kernel
theorem ycy_16 : xe_look (xc 179) 16 = some (.goto (-14), 3, 0, 0, 0) := by decide +kernel
theorem ycy_19 : xe_look (xc 179) 19 = some (.return_, 1, 0, 0, 0) := by decide +kernel
theorem yth_0 : xe_look (xc 151) 0 = some (.iload_n 1, 1, 0, 0, 0) := by decide +kernel
theorem yth_1 : xe_look (xc 151) 1 = some (.iload_n 2, 1, 0, 0, 0) := by decide +kernel
theorem yth_2 : xe_look (xc 151) 2 = some (.if_icmp .lt 20, 3, 0, 0, 0) := by decide +kernel
theorem yth_5 : xe_look (xc 151) 5 = some (.iload_n 1, 1, 0, 0, 0) := by decide +kernel
theorem yth_6 : xe_look (xc 151) 6 = some (.iload_n 3, 1, 0, 0, 0) := by decide +kernel
theorem yth_7 : xe_look (xc 151) 7 = some (.if_icmp .gt 15, 3, 0, 0, 0) := by decide +kernel
theorem yth_10 : xe_look (xc 151) 10 = some (.iload_n 1, 1, 0, 0, 0) := by decide +kernel
theorem yth_11 : xe_look (xc 151) 11 = some (.aload_n 0, 1, 0, 0, 0) := by decide +kernel
theorem yth_12 : xe_look (xc 151) 12 = some (.getfield 81, 3, 11, 1, 981) := by decide +kernel
theorem yth_15 : xe_look (xc 151) 15 = some (.if_icmp .gt 7, 3, 0, 0, 0) := by decide +kernel
theorem yth_18 : xe_look (xc 151) 18 = some (.iconst 1, 1, 0, 0, 0) := by decide +kernel
theorem yth_19 : xe_look (xc 151) 19 = some (.goto 4, 3, 0, 0, 0) := by decide +kernel
theorem yth_22 : xe_look (xc 151) 22 = some (.iconst 0, 1, 0, 0, 0) := by decide +kernel
theorem yth_23 : xe_look (xc 151) 23 = some (.ireturn, 1, 0, 0, 0) := by decide +kernel
theorem ytr_0 : xe_look (xc 157) 0 = some (.aload_n 0, 1, 0, 0, 0) := by decide +kernel
theorem ytr_1 : xe_look (xc 157) 1 = some (.iload_n 1, 1, 0, 0, 0) := by decide +kernel
theorem ytr_2 : xe_look (xc 157) 2 = some (.iconst 1, 1, 0, 0, 0) := by decide +kernel
theorem ytr_3 : xe_look (xc 157) 3 = some (.bipush 120, 2, 0, 0, 0) := by decide +kernel
theorem ytr_5 : xe_look (xc 157) 5 = some (.invokevirtual 152, 3, 0, 151, 985) := by decide +kernel
theorem ytr_8 : xe_look (xc 157) 8 = some (.ifCond .ne 5, 3, 0, 0, 0) := by decide +kernel
theorem ytr_11 : xe_look (xc 157) 11 = some (.iconst (-1), 1, 0, 0, 0) := by decide +kernel
theorem ytr_12 : xe_look (xc 157) 12 = some (.ireturn, 1, 0, 0, 0) := by decide +kernel
theorem ytr_13 : xe_look (xc 157) 13 = some (.aload_n 0, 1, 0, 0, 0) := by decide +kernel
theorem ytr_14 : xe_look (xc 157) 14 = some (.getfield 30, 3, 11, 6, 1032) := by decide +kernel
theorem ytr_17 : xe_look (xc 157) 17 = some (.aload_n 0, 1, 0, 0, 0) := by decide +kernel
theorem ytr_18 : xe_look (xc 157) 18 = some (.getfield 9, 3, 11, 0, 982) := by decide +kernel
theorem ytr_21 : xe_look (xc 157) 21 = some (.iload_n 1, 1, 0, 0, 0) := by decide +kernel
theorem ytr_22 : xe_look (xc 157) 22 = some (.invokevirtual 155, 3, 0, 90, 1106) := by decide +kernel
theorem ytr_25 : xe_look (xc 157) 25 = some (.istore_n 2, 1, 0, 0, 0) := by decide +kernel
theorem ytr_26 : xe_look (xc 157) 26 = some (.aload_n 0, 1, 0, 0, 0) := by decide +kernel
theorem ytr_27 : xe_look (xc 157) 27 = some (.iconst 0, 1, 0, 0, 0) := by decide +kernel
theorem ytr_28 : xe_look (xc 157) 28 = some (.putfield 81, 3, 11, 1, 981) := by decide +kernel
theorem ytr_31 : xe_look (xc 157) 31 = some (.iload_n 2, 1, 0, 0, 0) := by decide +kernel
theorem ytr_32 : xe_look (xc 157) 32 = some (.ifCond .le 21, 3, 0, 0, 0) := by decide +kernel
theorem ytr_35 : xe_look (xc 157) 35 = some (.aload_n 0, 1, 0, 0, 0) := by decide +kernel
theorem ytr_36 : xe_look (xc 157) 36 = some (.getfield 26, 3, 11, 5, 1001) := by decide +kernel
theorem ytr_39 : xe_look (xc 157) 39 = some (.astore_n 3, 1, 0, 0, 0) := by decide +kernel
theorem ytr_40 : xe_look (xc 157) 40 = some (.aload_n 0, 1, 0, 0, 0) := by decide +kernel
theorem ytr_41 : xe_look (xc 157) 41 = some (.aload_n 0, 1, 0, 0, 0) := by decide +kernel
theorem ytr_42 : xe_look (xc 157) 42 = some (.getfield 30, 3, 11, 6, 1032) := by decide +kernel
theorem ytr_45 : xe_look (xc 157) 45 = some (.putfield 26, 3, 11, 5, 1001) := by decide +kernel
theorem ytr_48 : xe_look (xc 157) 48 = some (.aload_n 0, 1, 0, 0, 0) := by decide +kernel
theorem ytr_49 : xe_look (xc 157) 49 = some (.aload_n 3, 1, 0, 0, 0) := by decide +kernel
theorem ytr_50 : xe_look (xc 157) 50 = some (.putfield 30, 3, 11, 6, 1032) := by decide +kernel
theorem ytr_53 : xe_look (xc 157) 53 = some (.iload_n 2, 1, 0, 0, 0) := by decide +kernel
theorem ytr_54 : xe_look (xc 157) 54 = some (.ireturn, 1, 0, 0, 0) := by decide +kernel
theorem yty_0 : xe_look (xc 264) 0 = some (.iload_n 1, 1, 0, 0, 0) := by decide +kernel
theorem yty_1 : xe_look (xc 264) 1 = some (.iconst 1, 1, 0, 0, 0) := by decide +kernel
theorem yty_2 : xe_look (xc 264) 2 = some (.bipush 120, 2, 0, 0, 0) := by decide +kernel
theorem yty_4 : xe_look (xc 264) 4 = some (.invokestatic 201, 3, 0, 199, 1131) := by decide +kernel
theorem yty_7 : xe_look (xc 264) 7 = some (.ifCond .eq 11, 3, 0, 0, 0) := by decide +kernel
theorem yty_10 : xe_look (xc 264) 10 = some (.iload_n 1, 1, 0, 0, 0) := by decide +kernel
theorem yty_11 : xe_look (xc 264) 11 = some (.aload_n 0, 1, 0, 0, 0) := by decide +kernel
theorem yty_12 : xe_look (xc 264) 12 = some (.getfield 194, 3, 12, 17, 1132) := by decide +kernel
theorem yty_15 : xe_look (xc 264) 15 = some (.if_icmp .le 5, 3, 0, 0, 0) := by decide +kernel
theorem yty_18 : xe_look (xc 264) 18 = some (.iconst (-1), 1, 0, 0, 0) := by decide +kernel
theorem yty_19 : xe_look (xc 264) 19 = some (.ireturn, 1, 0, 0, 0) := by decide +kernel
theorem yty_20 : xe_look (xc 264) 20 = some (.aload_n 0, 1, 0, 0, 0) := by decide +kernel
theorem yty_21 : xe_look (xc 264) 21 = some (.iconst 0, 1, 0, 0, 0) := by decide +kernel
theorem yty_22 : xe_look (xc 264) 22 = some (.putfield 242, 3, 12, 18, 1135) := by decide +kernel
theorem yty_25 : xe_look (xc 264) 25 = some (.aload_n 0, 1, 0, 0, 0) := by decide +kernel
theorem yty_26 : xe_look (xc 264) 26 = some (.iload_n 1, 1, 0, 0, 0) := by decide +kernel
theorem yty_27 : xe_look (xc 264) 27 = some (.putfield 277, 3, 12, 19, 1190) := by decide +kernel
theorem yty_30 : xe_look (xc 264) 30 = some (.aload_n 0, 1, 0, 0, 0) := by decide +kernel
theorem yty_31 : xe_look (xc 264) 31 = some (.iconst 0, 1, 0, 0, 0) := by decide +kernel
theorem yty_32 : xe_look (xc 264) 32 = some (.putfield 262, 3, 12, 25, 1141) := by decide +kernel
theorem yty_35 : xe_look (xc 264) 35 = some (.aload_n 0, 1, 0, 0, 0) := by decide +kernel
theorem yty_36 : xe_look (xc 264) 36 = some (.iconst 0, 1, 0, 0, 0) := by decide +kernel
theorem yty_37 : xe_look (xc 264) 37 = some (.putfield 265, 3, 12, 26, 1139) := by decide +kernel
theorem yty_40 : xe_look (xc 264) 40 = some (.aload_n 0, 1, 0, 0, 0) := by decide +kernel
theorem yty_41 : xe_look (xc 264) 41 = some (.invokevirtual 280, 3, 0, 237, 1285) := by decide +kernel
theorem yty_44 : xe_look (xc 264) 44 = some (.istore_n 2, 1, 0, 0, 0) := by decide +kernel
theorem yty_92 : xe_look (xc 264) 92 = some (.aload_n 0, 1, 0, 0, 0) := by decide +kernel
theorem yty_93 : xe_look (xc 264) 93 = some (.iconst 0, 1, 0, 0, 0) := by decide +kernel
theorem yty_94 : xe_look (xc 264) 94 = some (.putfield 194, 3, 12, 17, 1132) := by decide +kernel
theorem yty_97 : xe_look (xc 264) 97 = some (.iload_n 2, 1, 0, 0, 0) := by decide +kernel
theorem yty_98 : xe_look (xc 264) 98 = some (.ifCond .ne 8, 3, 0, 0, 0) := by decide +kernel
theorem yty_101 : xe_look (xc 264) 101 = some (.aload_n 0, 1, 0, 0, 0) := by decide +kernel
theorem yty_102 : xe_look (xc 264) 102 = some (.getfield 286, 3, 12, 20, 1233) := by decide +kernel
theorem yty_105 : xe_look (xc 264) 105 = some (.ireturn, 1, 0, 0, 0) := by decide +kernel
theorem yty_106 : xe_look (xc 264) 106 = some (.aload_n 0, 1, 0, 0, 0) := by decide +kernel
theorem yty_107 : xe_look (xc 264) 107 = some (.aload_n 0, 1, 0, 0, 0) := by decide +kernel
theorem yty_108 : xe_look (xc 264) 108 = some (.getfield 262, 3, 12, 25, 1141) := by decide +kernel
theorem yty_111 : xe_look (xc 264) 111 = some (.putfield 289, 3, 12, 24, 1161) := by decide +kernel
theorem yty_114 : xe_look (xc 264) 114 = some (.aload_n 0, 1, 0, 0, 0) := by decide +kernel
theorem yty_115 : xe_look (xc 264) 115 = some (.getfield 59, 3, 12, 28, 1143) := by decide +kernel
theorem yty_118 : xe_look (xc 264) 118 = some (.aload_n 0, 1, 0, 0, 0) := by decide +kernel
theorem yty_119 : xe_look (xc 264) 119 = some (.getfield 56, 3, 12, 27, 1183) := by decide +kernel
theorem yty_122 : xe_look (xc 264) 122 = some (.aload_n 0, 1, 0, 0, 0) := by decide +kernel
theorem yty_123 : xe_look (xc 264) 123 = some (.getfield 262, 3, 12, 25, 1141) := by decide +kernel
theorem yty_126 : xe_look (xc 264) 126 = some (.invokestatic 292, 3, 0, 179, 1228) := by decide +kernel
theorem yty_129 : xe_look (xc 264) 129 = some (.aload_n 0, 1, 0, 0, 0) := by decide +kernel
theorem yty_130 : xe_look (xc 264) 130 = some (.getfield 262, 3, 12, 25, 1141) := by decide +kernel
theorem yty_133 : xe_look (xc 264) 133 = some (.ireturn, 1, 0, 0, 0) := by decide +kernel
theorem S_1 {ks : List (Nat × Nat)} {as : List Nat} {W : Nat} {g0 g : pH} (hJ : J_ W g0 g) : sE ks as W g0 g (ks.map (fun t => cF g t.1 t.2)) (as.map (fun k => fA g k)) := ⟨hJ, (S_0 (ks := ks) (as := as) (W := W) hJ.1).2⟩
theorem sp_2 {g : pH} (hG : g_I eG g) : (g.2.2.1 0 5 = some 150 ∨ g.2.2.1 0 5 = some 152) ∧ (g.2.2.1 0 6 = some 150 ∨ g.2.2.1 0 6 = some 152) := by
  have f : ∀ {y : Nat}, (eG (cn 0 + y)).2.2 = [151, 153] → ok_v (cv (.inr (.inr (g.2.2.1 0 y)))) (eG (cn 0 + y)) → g.2.2.1 0 y = some 150 ∨ g.2.2.1 0 y = some 152 := fun {y} h1 h2 => by
    have h3 := h2.2.2
    rw [h1] at h3
    rcases h3 with h3 | h3
    · cases h3
    cases q : g.2.2.1 0 y with
    | none =>
      rw [q] at h3
      exact absurd h3 (by decide)
    | some k =>
      rw [q] at h3
      have h4 : ((k : Int) + 1).toNat ∈ [151, 153] := h3
      rcases List.mem_cons.mp h4 with h4 | h4
      · exact Or.inl (by rw [show k = 150 by omega])
      · have h4 := List.mem_singleton.mp h4
        exact Or.inr (by rw [show k = 152 by omega])
  have e5 := (hG 0 (0, 11) er_0).1 rfl 5 (Nat.le_of_ble_eq_true rfl)
  have e6 := (hG 0 (0, 11) er_0).1 rfl 6 (Nat.le_of_ble_eq_true rfl)
  exact ⟨f (by decide +kernel) (by rw [pFo (x := 11) (y := 5) rfl] at e5; exact e5), f (by decide +kernel) (by rw [pFo (x := 11) (y := 6) rfl] at e6; exact e6)⟩
theorem gt_0_r : eG (cn 0 + 5) = (0, 100000, [151, 153]) ∧ eG (cn 0 + 6) = (0, 100000, [151, 153]) := by decide +kernel
def thk : List (Nat × Nat) := [(0, 1)]
def tN150 : Nat := tV150 + 2 ^ (cn 0 + 1)
def tX150 : Nat := tN150 + 2 ^ (cn 0 + 5) + 2 ^ (cn 0 + 6)
theorem tN150_b : tV150 &&& tN150 = tV150 ∧ tN150 &&& tX150 = tN150 ∧ tX150.testBit (cn 0 + 5) = true ∧ tX150.testBit (cn 0 + 6) = true ∧ tV150.testBit (cn 0 + 5) = false ∧ tV150.testBit (cn 0 + 6) = false ∧ tV150.testBit (cn 0 + 1) = false ∧ tV150 &&& tX150 = tV150 := by decide +kernel
def tt150k : List (Nat × Nat) := [(0, 1), (150, 1)]
def tt150a : List Nat := [151]
def tN152 : Nat := tV152 + 2 ^ (cn 0 + 1)
def tX152 : Nat := tN152 + 2 ^ (cn 0 + 5) + 2 ^ (cn 0 + 6)
theorem tN152_b : tV152 &&& tN152 = tV152 ∧ tN152 &&& tX152 = tN152 ∧ tX152.testBit (cn 0 + 5) = true ∧ tX152.testBit (cn 0 + 6) = true ∧ tV152.testBit (cn 0 + 5) = false ∧ tV152.testBit (cn 0 + 6) = false ∧ tV152.testBit (cn 0 + 1) = false ∧ tV152 &&& tX152 = tV152 := by decide +kernel
def tt152k : List (Nat × Nat) := [(0, 1), (152, 1)]
def tt152a : List Nat := [153]
def nV : Nat := nWr + 2 ^ (cn 196 + 17) + 2 ^ (cn 196 + 19) + 2 ^ (cn 196 + 24) + 2 ^ cn 212
theorem nV_b : nWr &&& nV = nWr ∧ nV.testBit (cn 211) = false ∧ nWr.testBit (cn 211) = false ∧ nWr.testBit (cn 196 + 24) = false ∧ nWr.testBit (cn 212) = false := by decide +kernel
def nvk : List (Nat × Nat) := [(196, 18), (196, 25), (196, 26), (196, 20), (196, 17), (196, 24), (196, 19)]
def nva : List Nat := [213, 212]
theorem eo_0 : eL[0]? = some (0, 11) := by decide +kernel
theorem gu_212 : eG (cn 212) = (0, 31, []) := by decide +kernel
theorem gy_0_1 : eG (cn 0 + 1) = (0, 260, []) := by decide +kernel
theorem gy_196_17 : eG (cn 196 + 17) = (0, 260, []) := by decide +kernel
theorem gy_196_19 : eG (cn 196 + 19) = ((-2147483648), 2147483647, []) := by decide +kernel
theorem gy_196_24 : eG (cn 196 + 24) = (0, 60, []) := by decide +kernel
theorem ch_0_0 : (eG (cn 0 + 0)).2.2 = [2] := by decide +kernel
theorem cq_0_0 {d i : Nat} {lv : List (Nat × pv)} {r : List pv} {g : pH} (hG : g_I eG g) : px_push eL d none (.getfield i) 11 0 lv (pvR 0 :: r) g = some (pvR 1 :: r) := pget eo_0 (gI_r (r := 1) hG eo_0 (Nat.le_of_ble_eq_true rfl) (y := 0) rfl ch_0_0)
theorem ch_196_27 : (eG (cn 196 + 27)).2.2 = [213] := by decide +kernel
theorem cq_196_27 {d i : Nat} {lv : List (Nat × pv)} {r : List pv} {g : pH} (hG : g_I eG g) : px_push eL d none (.getfield i) 12 27 lv (pvR 196 :: r) g = some (pvR 212 :: r) := pget eo_196 (gI_r (r := 212) hG eo_196 (Nat.le_of_ble_eq_true rfl) (y := 27) rfl ch_196_27)
theorem ez_212 : eL[212]? = some (1, 60) := by decide +kernel
theorem wt_nV_196_17 : nV.testBit (cn 196 + 17) = true := by decide +kernel
theorem wt_nV_196_18 : nV.testBit (cn 196 + 18) = true := by decide +kernel
theorem wt_nV_196_19 : nV.testBit (cn 196 + 19) = true := by decide +kernel
theorem wt_nV_196_24 : nV.testBit (cn 196 + 24) = true := by decide +kernel
theorem wt_nV_196_25 : nV.testBit (cn 196 + 25) = true := by decide +kernel
theorem wt_nV_196_26 : nV.testBit (cn 196 + 26) = true := by decide +kernel
theorem wt_tN150_0_1 : tN150.testBit (cn 0 + 1) = true := by decide +kernel
theorem wt_tN152_0_1 : tN152.testBit (cn 0 + 1) = true := by decide +kernel
theorem wt_tX150_0_1 : tX150.testBit (cn 0 + 1) = true := by decide +kernel
theorem wt_tX152_0_1 : tX152.testBit (cn 0 + 1) = true := by decide +kernel
theorem wu_nV_212 : nV.testBit (cn 212) = true := by decide +kernel
theorem thx_run {d W : Nat} {g0 g : pH} {tl : Int} (hS : sE thk [] W g0 g [tl] []) {n a b : Int} (hn : -2147483648 ≤ n ∧ n ≤ 2147483647) (ha : -2147483648 ≤ a ∧ a ≤ 2147483647) (hb : -2147483648 ≤ b ∧ b ≤ 2147483647) (ht : 0 ≤ tl ∧ tl ≤ 260) {P : Option pv × pH → Prop} (h1 : a ≤ n ∧ n ≤ b ∧ n ≤ tl → P (some (oI 1), g)) (h0 : ¬ (a ≤ n ∧ n ≤ b ∧ n ≤ tl) → P (some (oI 0), g)) {lv : List (Nat × pv)} (l0 : px_lg lv 0 = some (pvR 0)) (l1 : px_lg lv 1 = some (oI n)) (l2 : px_lg lv 2 = some (oI a)) (l3 : px_lg lv 3 = some (oI b)) : t_X d 151 0 lv [] g P := by
  refine t_0 yth_0 rfl (ld_i l1) ?_
  refine t_0 yth_1 rfl (ld_i l2) ?_
  refine tb_lt yth_2 (by decide) ⟨by omega, by omega⟩ ⟨by omega, by omega⟩ (fun c1 => ?_) (fun c1 => ?_)
  · show t_X d 151 22 lv [] g P
    refine t_0 yth_22 rfl rfl ?_
    refine t_5 yth_23 rfl rfl ?_
    exact h0 (by omega)
  · show t_X d 151 5 lv [] g P
    refine t_0 yth_5 rfl (ld_i l1) ?_
    refine t_0 yth_6 rfl (ld_i l3) ?_
    refine tb_gt yth_7 (by decide) ⟨by omega, by omega⟩ ⟨by omega, by omega⟩ (fun c2 => ?_) (fun c2 => ?_)
    · show t_X d 151 22 lv [] g P
      refine t_0 yth_22 rfl rfl ?_
      refine t_5 yth_23 rfl rfl ?_
      exact h0 (by omega)
    · show t_X d 151 10 lv [] g P
      refine t_0 yth_10 rfl (ld_i l1) ?_
      refine t_0 yth_11 rfl (ld_a l0) ?_
      refine t_0 yth_12 rfl (pq_cv eo_0 rfl (show cF g 0 1 = tl from S_f hS 0 (Nat.le_of_ble_eq_true rfl))) ?_
      show t_X d 151 15 lv [oI (tl), oI (n)] g P
      refine tb_gt yth_15 (by decide) ⟨by omega, by omega⟩ ⟨by omega, by omega⟩ (fun c3 => ?_) (fun c3 => ?_)
      · show t_X d 151 22 lv [] g P
        refine t_0 yth_22 rfl rfl ?_
        refine t_5 yth_23 rfl rfl ?_
        exact h0 (by omega)
      · show t_X d 151 18 lv [] g P
        refine t_0 yth_18 rfl rfl ?_
        refine t_1 yth_19 rfl (pb_goto (pc := 19) (by decide)) ?_
        show t_X d 151 23 lv [oI 1] g P
        refine t_5 yth_23 rfl rfl ?_
        exact h1 ⟨by omega, by omega, by omega⟩
set_option maxHeartbeats 4000000 in
theorem tr150_run {d : Nat} (hd : 18 ≤ d) {g : pH} {tl : Int} (hS : sE thk [] 0 g g [tl] []) (ht : 0 ≤ tl ∧ tl ≤ 260) (hr : g.2.2.1 0 6 = some 150) {K2 : Nat} (hr5 : g.2.2.1 0 5 = some K2) (hk2 : K2 = 150 ∨ K2 = 152) {n : Int} (hn : -2147483648 ≤ n ∧ n ≤ 2147483647) {P : Option pv × pH → Prop} (hR : ¬ (1 ≤ n ∧ n ≤ 120 ∧ n ≤ tl) → P (some (oI (-1)), g)) (hF : (1 ≤ n ∧ n ≤ 120 ∧ n ≤ tl) → ∀ (g1 : pH) (f : Int) (c : tC), J_ tN150 g g1 → cF g1 0 1 = 0 → f < 0 → tIs (tH (fA g 1) n) n 0 0 0 c (.inl f) → P (some (oI f), g1)) (hE : (1 ≤ n ∧ n ≤ 120 ∧ n ≤ tl) → ∀ (g1 : pH) (p m : Int) (c c1 : tC), J_ tN150 g g1 → cF g1 0 1 = 0 → 0 ≤ p → p < n → 0 ≤ m ∧ m ≤ 60 → tIs (tH (fA g 1) n) n 0 0 0 c (.inr (p, m, c1)) → P (some (oI (-1000 - p)), g1)) (hO : (1 ≤ n ∧ n ≤ 120 ∧ n ≤ tl) → ∀ (g1 : pH) (m : Int) (c c1 : tC), J_ tX150 g g1 → cF g1 0 1 = 0 → g1.2.2.1 0 5 = some 150 → g1.2.2.1 0 6 = some K2 → cF g1 150 1 = m → fA g1 151 = c1 → 1 ≤ m ∧ m ≤ 60 → tIs (tH (fA g 1) n) n 0 0 0 c (.inr (n, m, c1)) → P (some (oI m), g1)) {lv : List (Nat × pv)} (l0 : px_lg lv 0 = some (pvR 0)) (l1 : px_lg lv 1 = some (oI n)) : t_X d 157 0 lv [] g P := by
  refine t_0 ytr_0 rfl (ld_a l0) ?_
  refine t_0 ytr_1 rfl (ld_i l1) ?_
  refine t_0 ytr_2 rfl rfl ?_
  refine t_0 ytr_3 rfl (pq_b (by decide)) ?_
  refine t_3 ytr_5 rfl (ar := ([pvR 0, oI (n), oI 1, oI 120], [])) (pcal_w (as := [oI 120, oI 1, oI (n)]) rfl rfl rfl eo_0) ⟨by omega, Nat.le_of_ble_eq_true rfl, Nat.le_of_ble_eq_true rfl, rfl⟩ ?_
  refine thx_run hS ⟨by omega, by omega⟩ ⟨by omega, by omega⟩ ⟨by omega, by omega⟩ ⟨by omega, by omega⟩ (fun t1 => ?_) (fun t1 => ?_) rfl rfl rfl rfl
  · show t_X d 157 8 lv [oI 1] g P
    refine tz_ne ytr_8 (by decide) ⟨by omega, by omega⟩ (fun c2 => ?_) (fun c2 => absurd c2 (by omega))
    show t_X d 157 13 lv [] g P
    refine t_0 ytr_13 rfl (ld_a l0) ?_
    refine t_0 ytr_14 rfl (pq_ro eo_0 rfl hr) ?_
    show t_X d 157 17 lv [pvR 150] g P
    refine t_0 ytr_17 rfl (ld_a l0) ?_
    refine t_0 ytr_18 rfl (cq_0_0 (S_J hS).1) ?_
    show t_X d 157 21 lv [pvR 1, pvR 150] g P
    refine t_0 ytr_21 rfl (ld_i l1) ?_
    refine t_3 ytr_22 rfl (ar := ([pvR 150, pvR 1, oI (n)], [])) (pcal_w (as := [oI (n), pvR 1]) rfl rfl rfl eo_150) ⟨by omega, Nat.le_of_ble_eq_true rfl, Nat.le_of_ble_eq_true rfl, rfl⟩ ?_
    refine rd150_run (by omega) (J_rf (S_J hS).1) ⟨by omega, by omega⟩ (fun g1 f c J1 u1 x1 => ?_) (fun g1 p m c c1 J1 y0 y1 y2 x1 => ?_) (fun g1 m c c1 J1 x1 x2 x3 x4 => ?_) rfl rfl rfl
    · have hS1 : sE tt150k tt150a tN150 g g1 [cF g1 0 1, cF g1 150 1] [fA g1 151] := S_1 (J_wide tN150_b.1 J1)
      have q5 : g1.2.2.1 0 5 = some K2 := (J1.2.1 0 5 tN150_b.2.2.2.2.1).2.2.trans hr5
      have q6 : g1.2.2.1 0 6 = some 150 := (J1.2.1 0 6 tN150_b.2.2.2.2.2.1).2.2.trans hr
      show t_X d 157 25 lv [oI (f)] g1 P
      refine t_2 ytr_25 rfl (w := (px_s1 lv 2 (oI (f)), [])) rfl ?_
      replace l0 : px_lg (px_s1 lv 2 (oI (f))) 0 = some (pvR 0) := s1_ne (by decide) (fun _ => rfl) l0
      replace l1 : px_lg (px_s1 lv 2 (oI (f))) 1 = some (oI (n)) := s1_ne (by decide) (fun _ => rfl) l1
      have l2 : px_lg (px_s1 lv 2 (oI (f))) 2 = some (oI (f)) := s1_eq
      generalize px_s1 lv 2 (oI (f)) = lv3 at l0 l1 l2 ⊢
      show t_X d 157 26 lv3 [] g1 P
      refine t_0 ytr_26 rfl (ld_a l0) ?_
      refine t_0 ytr_27 rfl rfl ?_
      refine ts_fe (n := 0) rfl rfl (by decide) ytr_28 rfl eo_0 hS1 wt_tN150_0_1 gy_0_1 (by decide) ⟨by omega, by omega⟩ (fun g4 hS4 e4 => ?_)
      replace hS4 : sE tt150k tt150a tN150 g g4 [0, cF g1 150 1] [fA g1 151] := hS4
      replace q5 : g4.2.2.1 0 5 = some K2 := by rw [e4]; exact q5
      replace q6 : g4.2.2.1 0 6 = some 150 := by rw [e4]; exact q6
      show t_X d 157 31 lv3 [] g4 P
      refine t_0 ytr_31 rfl (ld_i l2) ?_
      refine tz_le ytr_32 (by decide) ⟨by omega, by omega⟩ (fun c5 => ?_) (fun c5 => absurd c5 (by omega))
      show t_X d 157 53 lv3 [] g4 P
      refine t_0 ytr_53 rfl (ld_i l2) ?_
      refine t_5 ytr_54 rfl rfl ?_
      exact hF t1 _ _ _ (S_J hS4) (S_f hS4 0 (Nat.le_of_ble_eq_true rfl)) u1.1 x1
    · have hS1 : sE tt150k tt150a tN150 g g1 [cF g1 0 1, cF g1 150 1] [fA g1 151] := S_1 (J_wide tN150_b.1 J1)
      have q5 : g1.2.2.1 0 5 = some K2 := (J1.2.1 0 5 tN150_b.2.2.2.2.1).2.2.trans hr5
      have q6 : g1.2.2.1 0 6 = some 150 := (J1.2.1 0 6 tN150_b.2.2.2.2.2.1).2.2.trans hr
      show t_X d 157 25 lv [oI (-1000 - p)] g1 P
      refine t_2 ytr_25 rfl (w := (px_s1 lv 2 (oI (-1000 - p)), [])) rfl ?_
      replace l0 : px_lg (px_s1 lv 2 (oI (-1000 - p))) 0 = some (pvR 0) := s1_ne (by decide) (fun _ => rfl) l0
      replace l1 : px_lg (px_s1 lv 2 (oI (-1000 - p))) 1 = some (oI (n)) := s1_ne (by decide) (fun _ => rfl) l1
      have l2 : px_lg (px_s1 lv 2 (oI (-1000 - p))) 2 = some (oI (-1000 - p)) := s1_eq
      generalize px_s1 lv 2 (oI (-1000 - p)) = lv6 at l0 l1 l2 ⊢
      show t_X d 157 26 lv6 [] g1 P
      refine t_0 ytr_26 rfl (ld_a l0) ?_
      refine t_0 ytr_27 rfl rfl ?_
      refine ts_fe (n := 0) rfl rfl (by decide) ytr_28 rfl eo_0 hS1 wt_tN150_0_1 gy_0_1 (by decide) ⟨by omega, by omega⟩ (fun g7 hS7 e7 => ?_)
      replace hS7 : sE tt150k tt150a tN150 g g7 [0, cF g1 150 1] [fA g1 151] := hS7
      replace q5 : g7.2.2.1 0 5 = some K2 := by rw [e7]; exact q5
      replace q6 : g7.2.2.1 0 6 = some 150 := by rw [e7]; exact q6
      show t_X d 157 31 lv6 [] g7 P
      refine t_0 ytr_31 rfl (ld_i l2) ?_
      refine tz_le ytr_32 (by decide) ⟨by omega, by omega⟩ (fun c8 => ?_) (fun c8 => absurd c8 (by omega))
      show t_X d 157 53 lv6 [] g7 P
      refine t_0 ytr_53 rfl (ld_i l2) ?_
      refine t_5 ytr_54 rfl rfl ?_
      exact hE t1 _ _ _ _ _ (S_J hS7) (S_f hS7 0 (Nat.le_of_ble_eq_true rfl)) y0 y1 y2 x1
    · have hS1 : sE tt150k tt150a tX150 g g1 [cF g1 0 1, cF g1 150 1] [fA g1 151] := S_1 (J_wide tN150_b.2.2.2.2.2.2.2 J1)
      rw [x2, x3] at hS1
      have q5 : g1.2.2.1 0 5 = some K2 := (J1.2.1 0 5 tN150_b.2.2.2.2.1).2.2.trans hr5
      have q6 : g1.2.2.1 0 6 = some 150 := (J1.2.1 0 6 tN150_b.2.2.2.2.2.1).2.2.trans hr
      show t_X d 157 25 lv [oI (m)] g1 P
      refine t_2 ytr_25 rfl (w := (px_s1 lv 2 (oI (m)), [])) rfl ?_
      replace l0 : px_lg (px_s1 lv 2 (oI (m))) 0 = some (pvR 0) := s1_ne (by decide) (fun _ => rfl) l0
      replace l1 : px_lg (px_s1 lv 2 (oI (m))) 1 = some (oI (n)) := s1_ne (by decide) (fun _ => rfl) l1
      have l2 : px_lg (px_s1 lv 2 (oI (m))) 2 = some (oI (m)) := s1_eq
      generalize px_s1 lv 2 (oI (m)) = lv9 at l0 l1 l2 ⊢
      show t_X d 157 26 lv9 [] g1 P
      refine t_0 ytr_26 rfl (ld_a l0) ?_
      refine t_0 ytr_27 rfl rfl ?_
      refine ts_fe (n := 0) rfl rfl (by decide) ytr_28 rfl eo_0 hS1 wt_tX150_0_1 gy_0_1 (by decide) ⟨by omega, by omega⟩ (fun g10 hS10 e10 => ?_)
      replace hS10 : sE tt150k tt150a tX150 g g10 [0, m] [c1] := hS10
      replace q5 : g10.2.2.1 0 5 = some K2 := by rw [e10]; exact q5
      replace q6 : g10.2.2.1 0 6 = some 150 := by rw [e10]; exact q6
      show t_X d 157 31 lv9 [] g10 P
      refine t_0 ytr_31 rfl (ld_i l2) ?_
      refine tz_le ytr_32 (by decide) ⟨by omega, by omega⟩ (fun c11 => absurd c11 (by omega)) (fun c11 => ?_)
      show t_X d 157 35 lv9 [] g10 P
      refine t_0 ytr_35 rfl (ld_a l0) ?_
      refine t_0 ytr_36 rfl (pq_ro eo_0 rfl q5) ?_
      show t_X d 157 39 lv9 [pvR K2] g10 P
      refine t_2 ytr_39 rfl (w := (px_s1 lv9 3 (pvR K2), [])) rfl ?_
      replace l0 : px_lg (px_s1 lv9 3 (pvR K2)) 0 = some (pvR 0) := s1_ne (by decide) (fun _ => rfl) l0
      replace l1 : px_lg (px_s1 lv9 3 (pvR K2)) 1 = some (oI (n)) := s1_ne (by decide) (fun _ => rfl) l1
      replace l2 : px_lg (px_s1 lv9 3 (pvR K2)) 2 = some (oI (m)) := s1_ne (by decide) (fun _ => rfl) l2
      have l3 : px_lg (px_s1 lv9 3 (pvR K2)) 3 = some (pvR K2) := s1_eq
      generalize px_s1 lv9 3 (pvR K2) = lv12 at l0 l1 l2 l3 ⊢
      show t_X d 157 40 lv12 [] g10 P
      refine t_0 ytr_40 rfl (ld_a l0) ?_
      refine t_0 ytr_41 rfl (ld_a l0) ?_
      refine t_0 ytr_42 rfl (pq_ro eo_0 rfl q6) ?_
      show t_X d 157 45 lv12 [pvR 150, pvR 0] g10 P
      refine ts_rb ytr_45 rfl eo_0 hS10 tN150_b.2.2.1 (by rw [gt_0_r.1]; exact ⟨by decide, by decide, Or.inr (by decide)⟩) (fun g13 hS13 e13 => ?_)
      have p5 : g13.2.2.1 0 5 = some 150 := by rw [e13]; exact (pu_rr : pu g10.2.2.1 0 5 (some 150) 0 5 = some 150)
      clear e13
      show t_X d 157 48 lv12 [] g13 P
      refine t_0 ytr_48 rfl (ld_a l0) ?_
      refine t_0 ytr_49 rfl (ld_a l3) ?_
      refine ts_rb ytr_50 rfl eo_0 hS13 tN150_b.2.2.2.1 (by rw [gt_0_r.2]; rcases hk2 with rfl | rfl; exact ⟨by decide, by decide, Or.inr (by decide)⟩; exact ⟨by decide, by decide, Or.inr (by decide)⟩) (fun g14 hS14 e14 => ?_)
      replace p5 : g14.2.2.1 0 5 = some 150 := by rw [e14]; exact (pu_rn (f := g13.2.2.1) (k := 0) (y := 6) (v := some K2) (by decide)).trans p5
      have p6 : g14.2.2.1 0 6 = some K2 := by rw [e14]; exact (pu_rr : pu g13.2.2.1 0 6 (some K2) 0 6 = some K2)
      clear e14
      show t_X d 157 53 lv12 [] g14 P
      refine t_0 ytr_53 rfl (ld_i l2) ?_
      refine t_5 ytr_54 rfl rfl ?_
      exact hO t1 _ _ _ _ (S_J hS14) (S_f hS14 0 (Nat.le_of_ble_eq_true rfl)) p5 p6 (S_f hS14 1 (Nat.le_of_ble_eq_true rfl)) (S_a hS14 0 (Nat.le_of_ble_eq_true rfl)) x4 x1
  · show t_X d 157 8 lv [oI 0] g P
    refine tz_ne ytr_8 (by decide) ⟨by omega, by omega⟩ (fun c15 => absurd c15 (by omega)) (fun c15 => ?_)
    show t_X d 157 11 lv [] g P
    refine t_0 ytr_11 rfl rfl ?_
    refine t_5 ytr_12 rfl rfl ?_
    exact hR t1
set_option maxHeartbeats 4000000 in
theorem tr152_run {d : Nat} (hd : 18 ≤ d) {g : pH} {tl : Int} (hS : sE thk [] 0 g g [tl] []) (ht : 0 ≤ tl ∧ tl ≤ 260) (hr : g.2.2.1 0 6 = some 152) {K2 : Nat} (hr5 : g.2.2.1 0 5 = some K2) (hk2 : K2 = 150 ∨ K2 = 152) {n : Int} (hn : -2147483648 ≤ n ∧ n ≤ 2147483647) {P : Option pv × pH → Prop} (hR : ¬ (1 ≤ n ∧ n ≤ 120 ∧ n ≤ tl) → P (some (oI (-1)), g)) (hF : (1 ≤ n ∧ n ≤ 120 ∧ n ≤ tl) → ∀ (g1 : pH) (f : Int) (c : tC), J_ tN152 g g1 → cF g1 0 1 = 0 → f < 0 → tIs (tH (fA g 1) n) n 0 0 0 c (.inl f) → P (some (oI f), g1)) (hE : (1 ≤ n ∧ n ≤ 120 ∧ n ≤ tl) → ∀ (g1 : pH) (p m : Int) (c c1 : tC), J_ tN152 g g1 → cF g1 0 1 = 0 → 0 ≤ p → p < n → 0 ≤ m ∧ m ≤ 60 → tIs (tH (fA g 1) n) n 0 0 0 c (.inr (p, m, c1)) → P (some (oI (-1000 - p)), g1)) (hO : (1 ≤ n ∧ n ≤ 120 ∧ n ≤ tl) → ∀ (g1 : pH) (m : Int) (c c1 : tC), J_ tX152 g g1 → cF g1 0 1 = 0 → g1.2.2.1 0 5 = some 152 → g1.2.2.1 0 6 = some K2 → cF g1 152 1 = m → fA g1 153 = c1 → 1 ≤ m ∧ m ≤ 60 → tIs (tH (fA g 1) n) n 0 0 0 c (.inr (n, m, c1)) → P (some (oI m), g1)) {lv : List (Nat × pv)} (l0 : px_lg lv 0 = some (pvR 0)) (l1 : px_lg lv 1 = some (oI n)) : t_X d 157 0 lv [] g P := by
  refine t_0 ytr_0 rfl (ld_a l0) ?_
  refine t_0 ytr_1 rfl (ld_i l1) ?_
  refine t_0 ytr_2 rfl rfl ?_
  refine t_0 ytr_3 rfl (pq_b (by decide)) ?_
  refine t_3 ytr_5 rfl (ar := ([pvR 0, oI (n), oI 1, oI 120], [])) (pcal_w (as := [oI 120, oI 1, oI (n)]) rfl rfl rfl eo_0) ⟨by omega, Nat.le_of_ble_eq_true rfl, Nat.le_of_ble_eq_true rfl, rfl⟩ ?_
  refine thx_run hS ⟨by omega, by omega⟩ ⟨by omega, by omega⟩ ⟨by omega, by omega⟩ ⟨by omega, by omega⟩ (fun t1 => ?_) (fun t1 => ?_) rfl rfl rfl rfl
  · show t_X d 157 8 lv [oI 1] g P
    refine tz_ne ytr_8 (by decide) ⟨by omega, by omega⟩ (fun c2 => ?_) (fun c2 => absurd c2 (by omega))
    show t_X d 157 13 lv [] g P
    refine t_0 ytr_13 rfl (ld_a l0) ?_
    refine t_0 ytr_14 rfl (pq_ro eo_0 rfl hr) ?_
    show t_X d 157 17 lv [pvR 152] g P
    refine t_0 ytr_17 rfl (ld_a l0) ?_
    refine t_0 ytr_18 rfl (cq_0_0 (S_J hS).1) ?_
    show t_X d 157 21 lv [pvR 1, pvR 152] g P
    refine t_0 ytr_21 rfl (ld_i l1) ?_
    refine t_3 ytr_22 rfl (ar := ([pvR 152, pvR 1, oI (n)], [])) (pcal_w (as := [oI (n), pvR 1]) rfl rfl rfl eo_152) ⟨by omega, Nat.le_of_ble_eq_true rfl, Nat.le_of_ble_eq_true rfl, rfl⟩ ?_
    refine rd152_run (by omega) (J_rf (S_J hS).1) ⟨by omega, by omega⟩ (fun g1 f c J1 u1 x1 => ?_) (fun g1 p m c c1 J1 y0 y1 y2 x1 => ?_) (fun g1 m c c1 J1 x1 x2 x3 x4 => ?_) rfl rfl rfl
    · have hS1 : sE tt152k tt152a tN152 g g1 [cF g1 0 1, cF g1 152 1] [fA g1 153] := S_1 (J_wide tN152_b.1 J1)
      have q5 : g1.2.2.1 0 5 = some K2 := (J1.2.1 0 5 tN152_b.2.2.2.2.1).2.2.trans hr5
      have q6 : g1.2.2.1 0 6 = some 152 := (J1.2.1 0 6 tN152_b.2.2.2.2.2.1).2.2.trans hr
      show t_X d 157 25 lv [oI (f)] g1 P
      refine t_2 ytr_25 rfl (w := (px_s1 lv 2 (oI (f)), [])) rfl ?_
      replace l0 : px_lg (px_s1 lv 2 (oI (f))) 0 = some (pvR 0) := s1_ne (by decide) (fun _ => rfl) l0
      replace l1 : px_lg (px_s1 lv 2 (oI (f))) 1 = some (oI (n)) := s1_ne (by decide) (fun _ => rfl) l1
      have l2 : px_lg (px_s1 lv 2 (oI (f))) 2 = some (oI (f)) := s1_eq
      generalize px_s1 lv 2 (oI (f)) = lv3 at l0 l1 l2 ⊢
      show t_X d 157 26 lv3 [] g1 P
      refine t_0 ytr_26 rfl (ld_a l0) ?_
      refine t_0 ytr_27 rfl rfl ?_
      refine ts_fe (n := 0) rfl rfl (by decide) ytr_28 rfl eo_0 hS1 wt_tN152_0_1 gy_0_1 (by decide) ⟨by omega, by omega⟩ (fun g4 hS4 e4 => ?_)
      replace hS4 : sE tt152k tt152a tN152 g g4 [0, cF g1 152 1] [fA g1 153] := hS4
      replace q5 : g4.2.2.1 0 5 = some K2 := by rw [e4]; exact q5
      replace q6 : g4.2.2.1 0 6 = some 152 := by rw [e4]; exact q6
      show t_X d 157 31 lv3 [] g4 P
      refine t_0 ytr_31 rfl (ld_i l2) ?_
      refine tz_le ytr_32 (by decide) ⟨by omega, by omega⟩ (fun c5 => ?_) (fun c5 => absurd c5 (by omega))
      show t_X d 157 53 lv3 [] g4 P
      refine t_0 ytr_53 rfl (ld_i l2) ?_
      refine t_5 ytr_54 rfl rfl ?_
      exact hF t1 _ _ _ (S_J hS4) (S_f hS4 0 (Nat.le_of_ble_eq_true rfl)) u1.1 x1
    · have hS1 : sE tt152k tt152a tN152 g g1 [cF g1 0 1, cF g1 152 1] [fA g1 153] := S_1 (J_wide tN152_b.1 J1)
      have q5 : g1.2.2.1 0 5 = some K2 := (J1.2.1 0 5 tN152_b.2.2.2.2.1).2.2.trans hr5
      have q6 : g1.2.2.1 0 6 = some 152 := (J1.2.1 0 6 tN152_b.2.2.2.2.2.1).2.2.trans hr
      show t_X d 157 25 lv [oI (-1000 - p)] g1 P
      refine t_2 ytr_25 rfl (w := (px_s1 lv 2 (oI (-1000 - p)), [])) rfl ?_
      replace l0 : px_lg (px_s1 lv 2 (oI (-1000 - p))) 0 = some (pvR 0) := s1_ne (by decide) (fun _ => rfl) l0
      replace l1 : px_lg (px_s1 lv 2 (oI (-1000 - p))) 1 = some (oI (n)) := s1_ne (by decide) (fun _ => rfl) l1
      have l2 : px_lg (px_s1 lv 2 (oI (-1000 - p))) 2 = some (oI (-1000 - p)) := s1_eq
      generalize px_s1 lv 2 (oI (-1000 - p)) = lv6 at l0 l1 l2 ⊢
      show t_X d 157 26 lv6 [] g1 P
      refine t_0 ytr_26 rfl (ld_a l0) ?_
      refine t_0 ytr_27 rfl rfl ?_
      refine ts_fe (n := 0) rfl rfl (by decide) ytr_28 rfl eo_0 hS1 wt_tN152_0_1 gy_0_1 (by decide) ⟨by omega, by omega⟩ (fun g7 hS7 e7 => ?_)
      replace hS7 : sE tt152k tt152a tN152 g g7 [0, cF g1 152 1] [fA g1 153] := hS7
      replace q5 : g7.2.2.1 0 5 = some K2 := by rw [e7]; exact q5
      replace q6 : g7.2.2.1 0 6 = some 152 := by rw [e7]; exact q6
      show t_X d 157 31 lv6 [] g7 P
      refine t_0 ytr_31 rfl (ld_i l2) ?_
      refine tz_le ytr_32 (by decide) ⟨by omega, by omega⟩ (fun c8 => ?_) (fun c8 => absurd c8 (by omega))
      show t_X d 157 53 lv6 [] g7 P
      refine t_0 ytr_53 rfl (ld_i l2) ?_
      refine t_5 ytr_54 rfl rfl ?_
      exact hE t1 _ _ _ _ _ (S_J hS7) (S_f hS7 0 (Nat.le_of_ble_eq_true rfl)) y0 y1 y2 x1
    · have hS1 : sE tt152k tt152a tX152 g g1 [cF g1 0 1, cF g1 152 1] [fA g1 153] := S_1 (J_wide tN152_b.2.2.2.2.2.2.2 J1)
      rw [x2, x3] at hS1
      have q5 : g1.2.2.1 0 5 = some K2 := (J1.2.1 0 5 tN152_b.2.2.2.2.1).2.2.trans hr5
      have q6 : g1.2.2.1 0 6 = some 152 := (J1.2.1 0 6 tN152_b.2.2.2.2.2.1).2.2.trans hr
      show t_X d 157 25 lv [oI (m)] g1 P
      refine t_2 ytr_25 rfl (w := (px_s1 lv 2 (oI (m)), [])) rfl ?_
      replace l0 : px_lg (px_s1 lv 2 (oI (m))) 0 = some (pvR 0) := s1_ne (by decide) (fun _ => rfl) l0
      replace l1 : px_lg (px_s1 lv 2 (oI (m))) 1 = some (oI (n)) := s1_ne (by decide) (fun _ => rfl) l1
      have l2 : px_lg (px_s1 lv 2 (oI (m))) 2 = some (oI (m)) := s1_eq
      generalize px_s1 lv 2 (oI (m)) = lv9 at l0 l1 l2 ⊢
      show t_X d 157 26 lv9 [] g1 P
      refine t_0 ytr_26 rfl (ld_a l0) ?_
      refine t_0 ytr_27 rfl rfl ?_
      refine ts_fe (n := 0) rfl rfl (by decide) ytr_28 rfl eo_0 hS1 wt_tX152_0_1 gy_0_1 (by decide) ⟨by omega, by omega⟩ (fun g10 hS10 e10 => ?_)
      replace hS10 : sE tt152k tt152a tX152 g g10 [0, m] [c1] := hS10
      replace q5 : g10.2.2.1 0 5 = some K2 := by rw [e10]; exact q5
      replace q6 : g10.2.2.1 0 6 = some 152 := by rw [e10]; exact q6
      show t_X d 157 31 lv9 [] g10 P
      refine t_0 ytr_31 rfl (ld_i l2) ?_
      refine tz_le ytr_32 (by decide) ⟨by omega, by omega⟩ (fun c11 => absurd c11 (by omega)) (fun c11 => ?_)
      show t_X d 157 35 lv9 [] g10 P
      refine t_0 ytr_35 rfl (ld_a l0) ?_
      refine t_0 ytr_36 rfl (pq_ro eo_0 rfl q5) ?_
      show t_X d 157 39 lv9 [pvR K2] g10 P
      refine t_2 ytr_39 rfl (w := (px_s1 lv9 3 (pvR K2), [])) rfl ?_
      replace l0 : px_lg (px_s1 lv9 3 (pvR K2)) 0 = some (pvR 0) := s1_ne (by decide) (fun _ => rfl) l0
      replace l1 : px_lg (px_s1 lv9 3 (pvR K2)) 1 = some (oI (n)) := s1_ne (by decide) (fun _ => rfl) l1
      replace l2 : px_lg (px_s1 lv9 3 (pvR K2)) 2 = some (oI (m)) := s1_ne (by decide) (fun _ => rfl) l2
      have l3 : px_lg (px_s1 lv9 3 (pvR K2)) 3 = some (pvR K2) := s1_eq
      generalize px_s1 lv9 3 (pvR K2) = lv12 at l0 l1 l2 l3 ⊢
      show t_X d 157 40 lv12 [] g10 P
      refine t_0 ytr_40 rfl (ld_a l0) ?_
      refine t_0 ytr_41 rfl (ld_a l0) ?_
      refine t_0 ytr_42 rfl (pq_ro eo_0 rfl q6) ?_
      show t_X d 157 45 lv12 [pvR 152, pvR 0] g10 P
      refine ts_rb ytr_45 rfl eo_0 hS10 tN152_b.2.2.1 (by rw [gt_0_r.1]; exact ⟨by decide, by decide, Or.inr (by decide)⟩) (fun g13 hS13 e13 => ?_)
      have p5 : g13.2.2.1 0 5 = some 152 := by rw [e13]; exact (pu_rr : pu g10.2.2.1 0 5 (some 152) 0 5 = some 152)
      clear e13
      show t_X d 157 48 lv12 [] g13 P
      refine t_0 ytr_48 rfl (ld_a l0) ?_
      refine t_0 ytr_49 rfl (ld_a l3) ?_
      refine ts_rb ytr_50 rfl eo_0 hS13 tN152_b.2.2.2.1 (by rw [gt_0_r.2]; rcases hk2 with rfl | rfl; exact ⟨by decide, by decide, Or.inr (by decide)⟩; exact ⟨by decide, by decide, Or.inr (by decide)⟩) (fun g14 hS14 e14 => ?_)
      replace p5 : g14.2.2.1 0 5 = some 152 := by rw [e14]; exact (pu_rn (f := g13.2.2.1) (k := 0) (y := 6) (v := some K2) (by decide)).trans p5
      have p6 : g14.2.2.1 0 6 = some K2 := by rw [e14]; exact (pu_rr : pu g13.2.2.1 0 6 (some K2) 0 6 = some K2)
      clear e14
      show t_X d 157 53 lv12 [] g14 P
      refine t_0 ytr_53 rfl (ld_i l2) ?_
      refine t_5 ytr_54 rfl rfl ?_
      exact hO t1 _ _ _ _ (S_J hS14) (S_f hS14 0 (Nat.le_of_ble_eq_true rfl)) p5 p6 (S_f hS14 1 (Nat.le_of_ble_eq_true rfl)) (S_a hS14 0 (Nat.le_of_ble_eq_true rfl)) x4 x1
  · show t_X d 157 8 lv [oI 0] g P
    refine tz_ne ytr_8 (by decide) ⟨by omega, by omega⟩ (fun c15 => absurd c15 (by omega)) (fun c15 => ?_)
    show t_X d 157 11 lv [] g P
    refine t_0 ytr_11 rfl rfl ?_
    refine t_5 ytr_12 rfl rfl ?_
    exact hR t1
theorem m_z0 {d : Nat} {h0 g : pH} {p m s f w7 w4 n : Int} {c e : tC} (hS : sE nvk nva nV h0 g [p, m, s, f, w7, w4, n] [c, e]) {P : Option pv × pH → Prop} (hP : ∀ g1 : pH, J_ nV h0 g1 → cF g1 196 17 = 0 → cF g1 196 24 = w4 → fA g1 212 = e → P (some (oI f), g1)) {lv : List (Nat × pv)} (l0 : px_lg lv 0 = some (pvR 196)) (l2 : px_lg lv 2 = some (oI 0)) : t_X d 264 45 lv [] g P := by
  refine t_0 yty_45 rfl (ld_i l2) ?_
  refine tz_eq yty_46 (by decide) ⟨by omega, by omega⟩ (fun c1 => ?_) (fun c1 => absurd c1 (by omega))
  show t_X d 264 92 lv [] g P
  refine t_0 yty_92 rfl (ld_a l0) ?_
  refine t_0 yty_93 rfl rfl ?_
  refine ts_f (n := 4) rfl rfl (by decide) yty_94 rfl eo_196 hS wt_nV_196_17 gy_196_17 (by decide) ⟨by omega, by omega⟩ (fun g2 hS2 => ?_)
  replace hS2 : sE nvk nva nV h0 g2 [p, m, s, f, 0, w4, n] [c, e] := hS2
  show t_X d 264 97 lv [] g2 P
  refine t_0 yty_97 rfl (ld_i l2) ?_
  refine tz_ne yty_98 (by decide) ⟨by omega, by omega⟩ (fun c3 => absurd c3 (by omega)) (fun c3 => ?_)
  show t_X d 264 101 lv [] g2 P
  refine t_0 yty_101 rfl (ld_a l0) ?_
  refine t_0 yty_102 rfl (pq_cv eo_196 rfl (show cF g2 196 20 = f from S_f hS2 3 (Nat.le_of_ble_eq_true rfl))) ?_
  show t_X d 264 105 lv [oI (f)] g2 P
  refine t_5 yty_105 rfl rfl ?_
  exact hP _ (S_J hS2) (S_f hS2 4 (Nat.le_of_ble_eq_true rfl)) (S_f hS2 5 (Nat.le_of_ble_eq_true rfl)) (S_a hS2 1 (Nat.le_of_ble_eq_true rfl))
theorem m_fi {d : Nat} {h0 g0 : pH} (hJ : J_ nV h0 g0) {P : Option pv × pH → Prop} {f : Int} (hP : ∀ g1 : pH, J_ nV h0 g1 → cF g1 196 17 = 0 → cF g1 196 24 = cF g0 196 24 → fA g1 212 = fA g0 212 → P (some (oI f), g1)) : mFi g0 d P f := by
  intro g p m s u c gf ga hS lv l0 l2
  have h1 : sE nvk nva nV h0 g [cF g 196 18, cF g 196 25, cF g 196 26, cF g 196 20, cF g 196 17, cF g 196 24, cF g 196 19] [fA g 213, fA g 212] := S_1 (J_up nV_b.1 hJ (S_J hS))
  rw [(show cF g 196 20 = f from S_f hS 3 (Nat.le_of_ble_eq_true rfl))] at h1
  exact m_z0 h1 (fun g1 x1 x2 x3 x4 => hP g1 x1 x2 (x3.trans (cF_M (S_J hS).2 nV_b.2.2.2.1)) (x4.trans (fA_M (S_J hS).2 nV_b.2.2.2.2))) l0 l2
set_option maxHeartbeats 2000000 in
theorem m_cy {d : Nat} {h0 : pH} {p m s f w7 w4 n : Int} (hm : 0 ≤ m ∧ m ≤ 60) {c : tC} (hc : ∀ j : Nat, (j : Int) < m → 0 ≤ c j ∧ c j ≤ 31) {P : Option pv × pH → Prop} (hP : ∀ (g1 : pH) (e1 : tC), sE nvk nva nV h0 g1 [p, m, s, f, w7, w4, n] [c, e1] → (∀ j : Nat, (j : Int) < m → e1 j = c j) → P (none, g1)) : ∀ (y k : Nat) (g : pH) (lv : List (Nat × pv)) {e : tC}, m - k ≤ y → (k : Int) ≤ m → sE nvk nva nV h0 g [p, m, s, f, w7, w4, n] [c, e] → (∀ j : Nat, j < k → e j = c j) → px_lg lv 0 = some (pvR 213) → px_lg lv 1 = some (pvR 212) → px_lg lv 2 = some (oI m) → px_lg lv 3 = some (oI (k : Int)) → t_X d 179 2 lv [] g P := by
  intro y
  induction y with
  | zero =>
    intro k g lv e hy hk hS he l0 l1 l2 l3
    refine t_0 ycy_2 rfl (ld_i l3) ?_
    refine t_0 ycy_3 rfl (ld_i l2) ?_
    refine tb_ge ycy_4 (by decide) ⟨by omega, by omega⟩ ⟨by omega, by omega⟩ (fun c1 => ?_) (fun c1 => absurd c1 (by omega))
    show t_X d 179 19 lv [] g P
    refine t_5 ycy_19 rfl rfl ?_
    exact hP _ _ hS (fun j hj => he j (by omega))
  | succ y ih =>
    intro k g lv e hy hk hS he l0 l1 l2 l3
    by_cases hkk : (k : Int) < m
    · skip
      refine t_0 ycy_2 rfl (ld_i l3) ?_
      refine t_0 ycy_3 rfl (ld_i l2) ?_
      refine tb_ge ycy_4 (by decide) ⟨by omega, by omega⟩ ⟨by omega, by omega⟩ (fun c1 => absurd c1 (by omega)) (fun c1 => ?_)
      show t_X d 179 7 lv [] g P
      refine t_0 ycy_7 rfl (ld_a l1) ?_
      refine t_0 ycy_8 rfl (ld_i l3) ?_
      refine t_0 ycy_9 rfl (ld_a l0) ?_
      refine t_0 ycy_10 rfl (ld_i l3) ?_
      have r9 : 0 ≤ c ((k : Int)).toNat ∧ c ((k : Int)).toNat ≤ 31 := hc k (by omega)
      have r2 := pb_a (S_J hS).1 ez_213 (j := (k : Int).toNat) (by omega) gu_213 (show fA g 213 = c from S_a hS 0 (Nat.le_of_ble_eq_true rfl))
      refine t_0 ycy_11 rfl (pq_iv ez_213 rfl ⟨by omega, by omega⟩ (show fA g 213 = c from S_a hS 0 (Nat.le_of_ble_eq_true rfl))) ?_
      show t_X d 179 12 lv [oI (c ((k : Int).toNat)), oI ((k : Int)), pvR 212] g P
      refine ts_a (n := 1) rfl rfl (by decide) ycy_12 hS ez_212 rfl wu_nV_212 gu_212 (by decide) ⟨by omega, by omega⟩ ⟨by omega, by omega⟩ (fun g3 hS3 => ?_)
      replace hS3 : sE nvk nva nV h0 g3 [p, m, s, f, w7, w4, n] [c, updI e (k : Int).toNat (c ((k : Int).toNat))] := hS3
      show t_X d 179 13 lv [] g3 P
      refine t_2 ycy_13 rfl (w := (px_s1 lv 3 (oI ((k : Int) + 1)), [])) (pq_inc l3 (by decide)) ?_
      replace l0 : px_lg (px_s1 lv 3 (oI ((k : Int) + 1))) 0 = some (pvR 213) := s1_ne (by decide) (fun _ => rfl) l0
      replace l1 : px_lg (px_s1 lv 3 (oI ((k : Int) + 1))) 1 = some (pvR 212) := s1_ne (by decide) (fun _ => rfl) l1
      replace l2 : px_lg (px_s1 lv 3 (oI ((k : Int) + 1))) 2 = some (oI (m)) := s1_ne (by decide) (fun _ => rfl) l2
      have l3 : px_lg (px_s1 lv 3 (oI ((k : Int) + 1))) 3 = some (oI ((k : Int) + 1)) := s1_eq
      generalize px_s1 lv 3 (oI ((k : Int) + 1)) = lv4 at l0 l1 l2 l3 ⊢
      show t_X d 179 16 lv4 [] g3 P
      refine t_1 ycy_16 rfl (pb_goto (pc := 16) (by decide)) ?_
      show t_X d 179 2 lv4 [] g3 P
      refine ih (k + 1) _ _ (by omega) (by omega) hS3 (fun j hj => ?_) l0 l1 l2 (l3.trans (congrArg (fun x => some (oI x)) (by omega)))
      unfold updI
      by_cases q : j = k
      · rw [if_pos (by omega), q]; rfl
      · rw [if_neg (by omega)]; exact he j (by omega)
    · skip
      refine t_0 ycy_2 rfl (ld_i l3) ?_
      refine t_0 ycy_3 rfl (ld_i l2) ?_
      refine tb_ge ycy_4 (by decide) ⟨by omega, by omega⟩ ⟨by omega, by omega⟩ (fun c1 => ?_) (fun c1 => absurd c1 (by omega))
      show t_X d 179 19 lv [] g P
      refine t_5 ycy_19 rfl rfl ?_
      exact hP _ _ hS (fun j hj => he j (by omega))
set_option maxHeartbeats 2000000 in
theorem m_o0 {d : Nat} (hd : 1 ≤ d) {h0 g : pH} {p m s f w7 w4 n : Int} {c e : tC} (hS : sE nvk nva nV h0 g [p, m, s, f, w7, w4, n] [c, e]) (hm : 0 ≤ m ∧ m ≤ 60) (hp : 0 ≤ n ∧ n ≤ p ∧ p ≤ 1000 ∧ s = 0) (hc : ∀ j : Nat, (j : Int) < m → 0 ≤ c j ∧ c j ≤ 31) {P : Option pv × pH → Prop} (hP : ∀ (g1 : pH) (e1 : tC), J_ nV h0 g1 → cF g1 196 17 = 0 → cF g1 196 24 = m → fA g1 212 = e1 → (∀ j : Nat, (j : Int) < m → e1 j = c j) → P (some (oI m), g1)) {lv : List (Nat × pv)} (l0 : px_lg lv 0 = some (pvR 196)) (l2 : px_lg lv 2 = some (oI 1)) : t_X d 264 45 lv [] g P := by
  refine t_0 yty_45 rfl (ld_i l2) ?_
  refine tz_eq yty_46 (by decide) ⟨by omega, by omega⟩ (fun c1 => absurd c1 (by omega)) (fun c1 => ?_)
  show t_X d 264 49 lv [] g P
  refine t_0 yty_49 rfl (ld_a l0) ?_
  refine t_0 yty_50 rfl (pq_cv eo_196 rfl (show cF g 196 18 = p from S_f hS 0 (Nat.le_of_ble_eq_true rfl))) ?_
  show t_X d 264 53 lv [oI (p)] g P
  refine t_0 yty_53 rfl (ld_a l0) ?_
  refine t_0 yty_54 rfl (pq_cv eo_196 rfl (show cF g 196 19 = n from S_f hS 6 (Nat.le_of_ble_eq_true rfl))) ?_
  show t_X d 264 57 lv [oI (n), oI (p)] g P
  refine tb_lt yty_57 (by decide) ⟨by omega, by omega⟩ ⟨by omega, by omega⟩ (fun c2 => absurd c2 (by omega)) (fun c2 => ?_)
  show t_X d 264 60 lv [] g P
  refine t_0 yty_60 rfl (ld_a l0) ?_
  refine t_0 yty_61 rfl (pq_cv eo_196 rfl (show cF g 196 26 = s from S_f hS 2 (Nat.le_of_ble_eq_true rfl))) ?_
  show t_X d 264 64 lv [oI (s)] g P
  refine tz_le yty_64 (by decide) ⟨by omega, by omega⟩ (fun c3 => ?_) (fun c3 => absurd c3 (by omega))
  show t_X d 264 92 lv [] g P
  refine t_0 yty_92 rfl (ld_a l0) ?_
  refine t_0 yty_93 rfl rfl ?_
  refine ts_f (n := 4) rfl rfl (by decide) yty_94 rfl eo_196 hS wt_nV_196_17 gy_196_17 (by decide) ⟨by omega, by omega⟩ (fun g4 hS4 => ?_)
  replace hS4 : sE nvk nva nV h0 g4 [p, m, s, f, 0, w4, n] [c, e] := hS4
  show t_X d 264 97 lv [] g4 P
  refine t_0 yty_97 rfl (ld_i l2) ?_
  refine tz_ne yty_98 (by decide) ⟨by omega, by omega⟩ (fun c5 => ?_) (fun c5 => absurd c5 (by omega))
  show t_X d 264 106 lv [] g4 P
  refine t_0 yty_106 rfl (ld_a l0) ?_
  refine t_0 yty_107 rfl (ld_a l0) ?_
  refine t_0 yty_108 rfl (pq_cv eo_196 rfl (show cF g4 196 25 = m from S_f hS4 1 (Nat.le_of_ble_eq_true rfl))) ?_
  show t_X d 264 111 lv [oI (m), pvR 196] g4 P
  refine ts_f (n := 5) rfl rfl (by decide) yty_111 rfl eo_196 hS4 wt_nV_196_24 gy_196_24 (by decide) ⟨by omega, by omega⟩ (fun g6 hS6 => ?_)
  replace hS6 : sE nvk nva nV h0 g6 [p, m, s, f, 0, m, n] [c, e] := hS6
  show t_X d 264 114 lv [] g6 P
  refine t_0 yty_114 rfl (ld_a l0) ?_
  refine t_0 yty_115 rfl (cq_196_28 (S_J hS6).1) ?_
  show t_X d 264 118 lv [pvR 213] g6 P
  refine t_0 yty_118 rfl (ld_a l0) ?_
  refine t_0 yty_119 rfl (cq_196_27 (S_J hS6).1) ?_
  show t_X d 264 122 lv [pvR 212, pvR 213] g6 P
  refine t_0 yty_122 rfl (ld_a l0) ?_
  refine t_0 yty_123 rfl (pq_cv eo_196 rfl (show cF g6 196 25 = m from S_f hS6 1 (Nat.le_of_ble_eq_true rfl))) ?_
  show t_X d 264 126 lv [oI (m), pvR 212, pvR 213] g6 P
  refine t_3 yty_126 rfl (ar := ([pvR 213, pvR 212, oI (m)], [])) (pcal_s ⟨Or.inl rfl, rfl, Nat.le_of_ble_eq_true rfl⟩) ⟨by omega, Nat.le_of_ble_eq_true rfl, Nat.le_of_ble_eq_true rfl, rfl⟩ ?_
  refine t_0 ycy_0 rfl rfl ?_
  refine t_2 ycy_1 rfl (w := (px_s1 _ 3 (oI 0), [])) rfl ?_
  refine m_cy hm hc (fun g7 e7 hS7 x7 => ?_) 60 0 _ _ (by omega) (by omega) hS6 (fun j hj => absurd hj (Nat.not_lt_zero _)) (s1_ne (by decide) (fun _ => rfl) rfl) (s1_ne (by decide) (fun _ => rfl) rfl) (s1_ne (by decide) (fun _ => rfl) rfl) s1_eq
  show t_X d 264 129 lv [] g7 P
  refine t_0 yty_129 rfl (ld_a l0) ?_
  refine t_0 yty_130 rfl (pq_cv eo_196 rfl (show cF g7 196 25 = m from S_f hS7 1 (Nat.le_of_ble_eq_true rfl))) ?_
  show t_X d 264 133 lv [oI (m)] g7 P
  refine t_5 yty_133 rfl rfl ?_
  exact hP _ _ (S_J hS7) (S_f hS7 4 (Nat.le_of_ble_eq_true rfl)) (S_f hS7 5 (Nat.le_of_ble_eq_true rfl)) (S_a hS7 1 (Nat.le_of_ble_eq_true rfl)) x7
theorem m_ok {d : Nat} (hd : 1 ≤ d) {h0 g0 : pH} {B : tC} {n : Int} (hB : nB g0 B n) (hJ : J_ nV h0 g0) {P : Option pv × pH → Prop} {p m : Int} {c : tC} (hm : 0 ≤ m ∧ m ≤ 60) (hp : n ≤ p ∧ p ≤ 1000) (hP : ∀ g1 : pH, J_ nV h0 g1 → cF g1 196 17 = 0 → cF g1 196 24 = m → (∀ j : Nat, (j : Int) < m → fA g1 212 j = c j) → P (some (oI m), g1)) {g : pH} (hg : nSt g0 g p m c []) : mAt d P g := by
  intro lv l0 l2
  obtain ⟨ft, u, c2, gf, ga, hS, hc, hT⟩ := hg
  have h1 : sE nvk nva nV h0 g [cF g 196 18, cF g 196 25, cF g 196 26, cF g 196 20, cF g 196 17, cF g 196 24, cF g 196 19] [fA g 213, fA g 212] := S_1 (J_up nV_b.1 hJ (S_J hS))
  rw [(show cF g 196 18 = p from S_f hS 0 (Nat.le_of_ble_eq_true rfl)), (show cF g 196 25 = m from S_f hS 1 (Nat.le_of_ble_eq_true rfl)), (show cF g 196 26 = ((([] : List (Int × Int)).length : Nat) : Int) from S_f hS 2 (Nat.le_of_ble_eq_true rfl)), (show fA g 213 = c2 from S_a hS 0 (Nat.le_of_ble_eq_true rfl)), ne_l hB hS] at h1
  have hn0 := hB.2.2.1
  refine m_o0 hd h1 hm ⟨hn0, hp.1, hp.2, rfl⟩ (fun j hj => (hc j hj).2) (fun g1 e1 J1 x1 x2 x3 x4 => hP g1 J1 x1 x2 (fun j hj => by rw [x3, x4 j hj, (hc j hj).1])) l0 l2
set_option maxHeartbeats 4000000 in
theorem mt_run {d : Nat} (hd : 8 ≤ d) {h0 : pH} {v0 v1 v2 v3 v4 v5 v6 : Int} {e0 e1 : tC} (hS0 : sE nvk nva nV h0 h0 [v0, v1, v2, v3, v4, v5, v6] [e0, e1]) (hv : 0 ≤ v4 ∧ v4 ≤ 260) {n : Int} (hn : -2147483648 ≤ n ∧ n ≤ 2147483647) {B c0 : tC} (hT : tpR B (fA h0 211)) {r : tR} {P : Option pv × pH → Prop} (hR : ¬ (1 ≤ n ∧ n ≤ 120 ∧ n ≤ v4) → P (some (oI (-1)), h0)) (hr0 : (1 ≤ n ∧ n ≤ 120 ∧ n ≤ v4) → tIs (tH B n) n 0 0 0 c0 r) (hF : ∀ f, r = .inl f → (1 ≤ n ∧ n ≤ 120 ∧ n ≤ v4) → ∀ g1 : pH, J_ nV h0 g1 → cF g1 196 17 = 0 → cF g1 196 24 = v5 → fA g1 212 = e1 → P (some (oI f), g1)) (hO : ∀ p1 m1 c1, r = .inr (p1, m1, c1) → (1 ≤ n ∧ n ≤ 120 ∧ n ≤ v4) → (0 ≤ p1 ∧ p1 ≤ n) ∧ (0 ≤ m1 ∧ m1 ≤ 60) ∧ (p1 < n → ∀ g1 : pH, J_ nV h0 g1 → cF g1 196 17 = 0 → cF g1 196 24 = v5 → fA g1 212 = e1 → P (some (oI (-1000 - p1)), g1)) ∧ (n ≤ p1 → ∀ g1 : pH, J_ nV h0 g1 → cF g1 196 17 = 0 → cF g1 196 24 = m1 → (∀ j : Nat, (j : Int) < m1 → fA g1 212 j = c1 j) → P (some (oI m1), g1))) {lv : List (Nat × pv)} (l0 : px_lg lv 0 = some (pvR 196)) (l1 : px_lg lv 1 = some (oI n)) : t_X d 264 0 lv [] h0 P := by
  refine t_0 yty_0 rfl (ld_i l1) ?_
  refine t_0 yty_1 rfl rfl ?_
  refine t_0 yty_2 rfl (pq_b (by decide)) ?_
  refine t_3 yty_4 rfl (ar := ([oI (n), oI 1, oI 120], [])) (pcal_s ⟨Or.inl rfl, rfl, Nat.le_of_ble_eq_true rfl⟩) ⟨by omega, Nat.le_of_ble_eq_true rfl, Nat.le_of_ble_eq_true rfl, rfl⟩ ?_
  refine in_run ⟨by omega, by omega⟩ ⟨by omega, by omega⟩ ⟨by omega, by omega⟩ rfl rfl rfl (fun t21 => ?_) (fun t21 => ?_)
  · show t_X d 264 7 lv [oI 1] h0 P
    refine tz_eq yty_7 (by decide) ⟨by omega, by omega⟩ (fun c22 => absurd c22 (by omega)) (fun c22 => ?_)
    show t_X d 264 10 lv [] h0 P
    refine t_0 yty_10 rfl (ld_i l1) ?_
    refine t_0 yty_11 rfl (ld_a l0) ?_
    refine t_0 yty_12 rfl (pq_cv eo_196 rfl (show cF h0 196 17 = v4 from S_f hS0 4 (Nat.le_of_ble_eq_true rfl))) ?_
    show t_X d 264 15 lv [oI (v4), oI (n)] h0 P
    refine tb_le yty_15 (by decide) ⟨by omega, by omega⟩ ⟨by omega, by omega⟩ (fun c23 => ?_) (fun c23 => ?_)
    · show t_X d 264 20 lv [] h0 P
      refine t_0 yty_20 rfl (ld_a l0) ?_
      refine t_0 yty_21 rfl rfl ?_
      refine ts_f (n := 0) rfl rfl (by decide) yty_22 rfl eo_196 hS0 wt_nV_196_18 gy_196_18 (by decide) ⟨by omega, by omega⟩ (fun g24 hS24 => ?_)
      replace hS24 : sE nvk nva nV h0 g24 [0, v1, v2, v3, v4, v5, v6] [e0, e1] := hS24
      show t_X d 264 25 lv [] g24 P
      refine t_0 yty_25 rfl (ld_a l0) ?_
      refine t_0 yty_26 rfl (ld_i l1) ?_
      refine ts_f (n := 6) rfl rfl (by decide) yty_27 rfl eo_196 hS24 wt_nV_196_19 gy_196_19 (by decide) ⟨by omega, by omega⟩ (fun g25 hS25 => ?_)
      replace hS25 : sE nvk nva nV h0 g25 [0, v1, v2, v3, v4, v5, n] [e0, e1] := hS25
      show t_X d 264 30 lv [] g25 P
      refine t_0 yty_30 rfl (ld_a l0) ?_
      refine t_0 yty_31 rfl rfl ?_
      refine ts_f (n := 1) rfl rfl (by decide) yty_32 rfl eo_196 hS25 wt_nV_196_25 gy_196_25 (by decide) ⟨by omega, by omega⟩ (fun g26 hS26 => ?_)
      replace hS26 : sE nvk nva nV h0 g26 [0, 0, v2, v3, v4, v5, n] [e0, e1] := hS26
      show t_X d 264 35 lv [] g26 P
      refine t_0 yty_35 rfl (ld_a l0) ?_
      refine t_0 yty_36 rfl rfl ?_
      refine ts_f (n := 2) rfl rfl (by decide) yty_37 rfl eo_196 hS26 wt_nV_196_26 gy_196_26 (by decide) ⟨by omega, by omega⟩ (fun g27 hS27 => ?_)
      replace hS27 : sE nvk nva nV h0 g27 [0, 0, 0, v3, v4, v5, n] [e0, e1] := hS27
      show t_X d 264 40 lv [] g27 P
      refine t_0 yty_40 rfl (ld_a l0) ?_
      have hJ := S_J hS27
      have hB : nB g27 B n := ⟨S_f hS27 6 (Nat.le_of_ble_eq_true rfl), (by rw [fA_M hJ.2 nV_b.2.1]; exact hT), by omega, by omega⟩
      have hS : nS g27 g27 (cF g27 196 18) (cF g27 196 25) (cF g27 196 26) (cF g27 196 20) (cF g27 196 21) (fA g27 213) (fA g27 214) (fA g27 215) := S_0 hJ.1
      rw [(show cF g27 196 18 = 0 from S_f hS27 0 (Nat.le_of_ble_eq_true rfl)), (show cF g27 196 25 = 0 from S_f hS27 1 (Nat.le_of_ble_eq_true rfl)), (show cF g27 196 26 = 0 from S_f hS27 2 (Nat.le_of_ble_eq_true rfl))] at hS
      refine t_3 yty_41 rfl (ar := ([pvR 196], [])) (pcal_w (as := []) rfl rfl rfl eo_196) ⟨by omega, Nat.le_of_ble_eq_true rfl, Nat.le_of_ble_eq_true rfl, rfl⟩ ?_
      have hQ : mQo g27 d P (fun o => t_X d 264 44 lv (o.1.toList ++ []) o.2 P) := by
        refine ⟨fun g9 a9 => ?_, fun g9 a9 => ?_⟩
        · show t_X d 264 44 lv [oI 1] g9 P
          refine t_2 yty_44 rfl (w := (px_s1 lv 2 (oI 1), [])) rfl ?_
          replace l0 : px_lg (px_s1 lv 2 (oI 1)) 0 = some (pvR 196) := s1_ne (by decide) (fun _ => rfl) l0
          replace l1 : px_lg (px_s1 lv 2 (oI 1)) 1 = some (oI (n)) := s1_ne (by decide) (fun _ => rfl) l1
          have l2 : px_lg (px_s1 lv 2 (oI 1)) 2 = some (oI 1) := s1_eq
          generalize px_s1 lv 2 (oI 1) = lv28 at l0 l1 l2 ⊢
          show t_X d 264 45 lv28 [] g9 P
          exact a9 _ l0 l2
        · show t_X d 264 44 lv [oI 0] g9 P
          refine t_2 yty_44 rfl (w := (px_s1 lv 2 (oI 0), [])) rfl ?_
          replace l0 : px_lg (px_s1 lv 2 (oI 0)) 0 = some (pvR 196) := s1_ne (by decide) (fun _ => rfl) l0
          replace l1 : px_lg (px_s1 lv 2 (oI 0)) 1 = some (oI (n)) := s1_ne (by decide) (fun _ => rfl) l1
          have l2 : px_lg (px_s1 lv 2 (oI 0)) 2 = some (oI 0) := s1_eq
          generalize px_s1 lv 2 (oI 0) = lv29 at l0 l1 l2 ⊢
          show t_X d 264 45 lv29 [] g9 P
          exact a9 _ l0 l2
      have hr := hr0 (by omega)
      have hq := hr (mI (tH B n) g27 d P true) (mI (tH B n) g27 d P false) (m_cl hB (by omega))
      have hg : nSt g27 g27 0 0 c0 [] := ⟨_, _, _, _, _, hS, fun j hj => absurd hj (by omega), trivial⟩
      rcases r with f | ⟨p1, m1, c1⟩
      · exact hq (m_fi hJ (fun g9 x1 x2 x3 x4 => hF f rfl (by omega) g9 x1 x2 (x3.trans (S_f hS27 5 (Nat.le_of_ble_eq_true rfl))) (x4.trans (S_a hS27 1 (Nat.le_of_ble_eq_true rfl))))) [] rfl (by omega) _ hQ _ _ hg rfl
      · have hQ9 := hO p1 m1 c1 rfl (by omega)
        refine hq.2 [] rfl (by omega) (m_c0 hB (by omega) hQ9.1 (Or.inr rfl) (fun g8 h8 => ?_)) _ hQ _ _ hg rfl
        by_cases q : p1 < n
        · exact m_a0 hB (by omega) hQ9.1 (hq.1 rfl) (Or.inl q) (m_fi hJ (fun g9 x1 x2 x3 x4 => hQ9.2.2.1 q g9 x1 x2 (x3.trans (S_f hS27 5 (Nat.le_of_ble_eq_true rfl))) (x4.trans (S_a hS27 1 (Nat.le_of_ble_eq_true rfl))))) h8
        · exact m_ok (by omega) hB hJ hQ9.2.1 ⟨by omega, by omega⟩ (hQ9.2.2.2 (by omega)) h8
    · show t_X d 264 18 lv [] h0 P
      refine t_0 yty_18 rfl rfl ?_
      refine t_5 yty_19 rfl rfl ?_
      exact hR (by omega)
  · show t_X d 264 7 lv [oI 0] h0 P
    refine tz_eq yty_7 (by decide) ⟨by omega, by omega⟩ (fun c30 => ?_) (fun c30 => absurd c30 (by omega))
    show t_X d 264 18 lv [] h0 P
    refine t_0 yty_18 rfl rfl ?_
    refine t_5 yty_19 rfl rfl ?_
    exact hR (by omega)
theorem pk_150 : tN150.testBit (cn 211) = false ∧ tX150.testBit (cn 211) = false ∧ tN150.testBit (cn 196 + 17) = false ∧ tX150.testBit (cn 196 + 17) = false := by decide +kernel
theorem pt_150 {g : pH} (hG : g_I eG g) (hR : R0 g) (hr : g.2.2.1 0 6 = some 150) {K2 : Nat} (hr5 : g.2.2.1 0 5 = some K2) (hk2 : K2 = 150 ∨ K2 = 152) (x1 : Int32) : t_X 99 157 0 (px_ar 0 [pvR 0, .inl x1]) [] g (fun o => ∃ v, o.1 = some v ∧ t_X 99 264 0 (px_ar 0 [pvR 196, .inl x1]) [] o.2 (fun o2 => o2.1 = some v)) := by
  have hb := cb_0_1 hG
  have hl := hR.2
  have hT := hR.1.2.1
  have key : ∀ (W : Nat) (g1 : pH), J_ W g g1 → W.testBit (cn 211) = false → W.testBit (cn 196 + 17) = false → ∀ (r : tR) (c0 : tC) (z : Int), ((1 ≤ x1.toInt ∧ x1.toInt ≤ 120 ∧ x1.toInt ≤ cF g 0 1) → tIs (tH (fA g 1) x1.toInt) x1.toInt 0 0 0 c0 r) → (∀ f, r = .inl f → z = f) → (∀ p1 m1 c1, r = .inr (p1, m1, c1) → (0 ≤ p1 ∧ p1 ≤ x1.toInt) ∧ (0 ≤ m1 ∧ m1 ≤ 60) ∧ (p1 < x1.toInt → z = -1000 - p1) ∧ (x1.toInt ≤ p1 → z = m1)) → (¬ (1 ≤ x1.toInt ∧ x1.toInt ≤ 120 ∧ x1.toInt ≤ cF g 0 1) → z = -1) → t_X 99 264 0 (px_ar 0 [pvR 196, .inl x1]) [] g1 (fun o2 => o2.1 = some (oI z)) := by
    intro W g1 J1 w1 w2 r c0 z hr hF hO hZ
    have e17 : cF g1 196 17 = cF g 0 1 := (cF_M J1.2 w2).trans hl.symm
    have hS0 : sE nvk nva nV g1 g1 [cF g1 196 18, cF g1 196 25, cF g1 196 26, cF g1 196 20, cF g1 196 17, cF g1 196 24, cF g1 196 19] [fA g1 213, fA g1 212] := S_0 J1.1
    refine mt_run (by decide) hS0 (by omega) (i32_b x1) (B := fA g 1) (c0 := c0) (r := r) (by rw [fA_M J1.2 w1]; exact hT) (fun h => ?_) (fun h => hr (by rw [e17] at h; exact h)) (fun f e _ g2 _ _ _ _ => ?_) (fun p1 m1 c1 e _ => ?_) rfl (congrArg some (oI_r x1))
    · rw [e17] at h
      rw [hZ h]
    · rw [hF f e]
    · have q := hO p1 m1 c1 e
      exact ⟨q.1, q.2.1, fun h g2 _ _ _ _ => by rw [q.2.2.1 h], fun h g2 _ _ _ _ => by rw [q.2.2.2 h]⟩
  have hS : sE thk [] 0 g g [cF g 0 1] [] := S_0 hG
  refine tr150_run (by decide) hS hb hr hr5 hk2 (i32_b x1) (fun h => ?_) (fun h g1 f c J1 _ u1 hx => ?_) (fun h g1 p m c c1 J1 _ y0 y1 y2 hx => ?_) (fun h g1 m c c1 J1 _ _ _ _ _ hm hx => ?_) rfl (congrArg some (oI_r x1))
  · exact ⟨_, rfl, key 0 g (J_rf hG) (Nat.zero_testBit _) (Nat.zero_testBit _) (.inl (-1)) (fun _ => 0) (-1) (fun z => absurd z h) (fun f e => by cases e; rfl) (fun p1 m1 c1 e => by cases e) (fun _ => rfl)⟩
  · exact ⟨_, rfl, key _ g1 J1 pk_150.1 pk_150.2.2.1 (.inl f) c f (fun _ => hx) (fun f' e => by cases e; rfl) (fun p1 m1 c1 e => by cases e) (fun z => absurd h z)⟩
  · exact ⟨_, rfl, key _ g1 J1 pk_150.1 pk_150.2.2.1 (.inr (p, m, c1)) c (-1000 - p) (fun _ => hx) (fun f' e => by cases e) (fun p1 m1 c2 e => by cases e; exact ⟨⟨y0, by omega⟩, y2, fun _ => rfl, fun z => absurd z (by omega)⟩) (fun z => absurd h z)⟩
  · exact ⟨_, rfl, key _ g1 J1 pk_150.2.1 pk_150.2.2.2 (.inr (x1.toInt, m, c1)) c m (fun _ => hx) (fun f' e => by cases e) (fun p1 m1 c2 e => by cases e; exact ⟨⟨by omega, by omega⟩, ⟨by omega, hm.2⟩, fun z => absurd z (by omega), fun _ => rfl⟩) (fun z => absurd h z)⟩
theorem pk_152 : tN152.testBit (cn 211) = false ∧ tX152.testBit (cn 211) = false ∧ tN152.testBit (cn 196 + 17) = false ∧ tX152.testBit (cn 196 + 17) = false := by decide +kernel
theorem pt_152 {g : pH} (hG : g_I eG g) (hR : R0 g) (hr : g.2.2.1 0 6 = some 152) {K2 : Nat} (hr5 : g.2.2.1 0 5 = some K2) (hk2 : K2 = 150 ∨ K2 = 152) (x1 : Int32) : t_X 99 157 0 (px_ar 0 [pvR 0, .inl x1]) [] g (fun o => ∃ v, o.1 = some v ∧ t_X 99 264 0 (px_ar 0 [pvR 196, .inl x1]) [] o.2 (fun o2 => o2.1 = some v)) := by
  have hb := cb_0_1 hG
  have hl := hR.2
  have hT := hR.1.2.1
  have key : ∀ (W : Nat) (g1 : pH), J_ W g g1 → W.testBit (cn 211) = false → W.testBit (cn 196 + 17) = false → ∀ (r : tR) (c0 : tC) (z : Int), ((1 ≤ x1.toInt ∧ x1.toInt ≤ 120 ∧ x1.toInt ≤ cF g 0 1) → tIs (tH (fA g 1) x1.toInt) x1.toInt 0 0 0 c0 r) → (∀ f, r = .inl f → z = f) → (∀ p1 m1 c1, r = .inr (p1, m1, c1) → (0 ≤ p1 ∧ p1 ≤ x1.toInt) ∧ (0 ≤ m1 ∧ m1 ≤ 60) ∧ (p1 < x1.toInt → z = -1000 - p1) ∧ (x1.toInt ≤ p1 → z = m1)) → (¬ (1 ≤ x1.toInt ∧ x1.toInt ≤ 120 ∧ x1.toInt ≤ cF g 0 1) → z = -1) → t_X 99 264 0 (px_ar 0 [pvR 196, .inl x1]) [] g1 (fun o2 => o2.1 = some (oI z)) := by
    intro W g1 J1 w1 w2 r c0 z hr hF hO hZ
    have e17 : cF g1 196 17 = cF g 0 1 := (cF_M J1.2 w2).trans hl.symm
    have hS0 : sE nvk nva nV g1 g1 [cF g1 196 18, cF g1 196 25, cF g1 196 26, cF g1 196 20, cF g1 196 17, cF g1 196 24, cF g1 196 19] [fA g1 213, fA g1 212] := S_0 J1.1
    refine mt_run (by decide) hS0 (by omega) (i32_b x1) (B := fA g 1) (c0 := c0) (r := r) (by rw [fA_M J1.2 w1]; exact hT) (fun h => ?_) (fun h => hr (by rw [e17] at h; exact h)) (fun f e _ g2 _ _ _ _ => ?_) (fun p1 m1 c1 e _ => ?_) rfl (congrArg some (oI_r x1))
    · rw [e17] at h
      rw [hZ h]
    · rw [hF f e]
    · have q := hO p1 m1 c1 e
      exact ⟨q.1, q.2.1, fun h g2 _ _ _ _ => by rw [q.2.2.1 h], fun h g2 _ _ _ _ => by rw [q.2.2.2 h]⟩
  have hS : sE thk [] 0 g g [cF g 0 1] [] := S_0 hG
  refine tr152_run (by decide) hS hb hr hr5 hk2 (i32_b x1) (fun h => ?_) (fun h g1 f c J1 _ u1 hx => ?_) (fun h g1 p m c c1 J1 _ y0 y1 y2 hx => ?_) (fun h g1 m c c1 J1 _ _ _ _ _ hm hx => ?_) rfl (congrArg some (oI_r x1))
  · exact ⟨_, rfl, key 0 g (J_rf hG) (Nat.zero_testBit _) (Nat.zero_testBit _) (.inl (-1)) (fun _ => 0) (-1) (fun z => absurd z h) (fun f e => by cases e; rfl) (fun p1 m1 c1 e => by cases e) (fun _ => rfl)⟩
  · exact ⟨_, rfl, key _ g1 J1 pk_152.1 pk_152.2.2.1 (.inl f) c f (fun _ => hx) (fun f' e => by cases e; rfl) (fun p1 m1 c1 e => by cases e) (fun z => absurd h z)⟩
  · exact ⟨_, rfl, key _ g1 J1 pk_152.1 pk_152.2.2.1 (.inr (p, m, c1)) c (-1000 - p) (fun _ => hx) (fun f' e => by cases e) (fun p1 m1 c2 e => by cases e; exact ⟨⟨y0, by omega⟩, y2, fun _ => rfl, fun z => absurd z (by omega)⟩) (fun z => absurd h z)⟩
  · exact ⟨_, rfl, key _ g1 J1 pk_152.2.1 pk_152.2.2.2 (.inr (x1.toInt, m, c1)) c m (fun _ => hx) (fun f' e => by cases e) (fun p1 m1 c2 e => by cases e; exact ⟨⟨by omega, by omega⟩, ⟨by omega, hm.2⟩, fun z => absurd z (by omega), fun _ => rfl⟩) (fun z => absurd h z)⟩
end
section
/-! tray of both sides: the pair with its answers -/
theorem pr_an {R : pH → Prop} {μ ν : Nat} {as : List pv} {τ : Nat} {g : pH} (h : pr_ R μ ν as τ false g) (h' : t_X 99 μ 0 (px_ar 0 (pvR 0 :: as)) [] g (fun o => ∃ v, o.1 = some v ∧ t_X 99 ν 0 (px_ar 0 (pvR 196 :: as)) [] o.2 (fun o2 => o2.1 = some v))) : pr_ R μ ν as τ true g := t_mono (t_and h h') (fun o ho => by
  obtain ⟨⟨v, h1, h2, h3⟩, v', h4, h5⟩ := ho
  obtain rfl : v = v' := Option.some.inj (h1.symm.trans h4)
  refine ⟨v, h1, h2, t_mono (t_and h3 h5) (fun o2 ho2 => ?_)⟩
  obtain ⟨⟨w, k1, k2, k3, k4, k5, -⟩, k6⟩ := ho2
  exact ⟨w, k1, k2, k3, k4, k5, fun _ => Option.some.inj (k6.symm.trans k1)⟩)
theorem pz_tray {g : pH} (hG : g_I eG g) (hx : xL g) (hR : R0 g) (x1 : Int32) : pr_ R0 157 264 [.inl x1] 0 true g := by
  obtain ⟨h5, h6⟩ := sp_2 hG
  refine pr_an (pr_tray hG hx hR x1) ?_
  rcases h6 with h6 | h6 <;> rcases h5 with h5 | h5
  · exact pt_150 hG hR h6 h5 (Or.inl rfl) x1
  · exact pt_150 hG hR h6 h5 (Or.inr rfl) x1
  · exact pt_152 hG hR h6 h5 (Or.inl rfl) x1
  · exact pt_152 hG hR h6 h5 (Or.inr rfl) x1
end
