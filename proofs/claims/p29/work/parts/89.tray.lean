section
/-! by hand: tray (printed in part by wip/e2/ty.py) -/
theorem qcg_0 : xe_look (xc 175) 0 = some (.aload_n 0, 1, 0, 0, 0) := by decide +kernel
theorem qcg_1 : xe_look (xc 175) 1 = some (.aload_n 0, 1, 0, 0, 0) := by decide +kernel
theorem qcg_2 : xe_look (xc 175) 2 = some (.getfield 242, 3, 12, 18, 1135) := by decide +kernel
theorem qcg_5 : xe_look (xc 175) 5 = some (.iconst 1, 1, 0, 0, 0) := by decide +kernel
theorem qcg_6 : xe_look (xc 175) 6 = some (.iadd, 1, 0, 0, 0) := by decide +kernel
theorem qcg_7 : xe_look (xc 175) 7 = some (.putfield 242, 3, 12, 18, 1135) := by decide +kernel
theorem qcg_10 : xe_look (xc 175) 10 = some (.aload_n 0, 1, 0, 0, 0) := by decide +kernel
theorem qcg_11 : xe_look (xc 175) 11 = some (.invokevirtual 248, 3, 0, 203, 1136) := by decide +kernel
theorem qcg_14 : xe_look (xc 175) 14 = some (.ifCond .eq 12, 3, 0, 0, 0) := by decide +kernel
theorem qcg_17 : xe_look (xc 175) 17 = some (.aload_n 0, 1, 0, 0, 0) := by decide +kernel
theorem qcg_18 : xe_look (xc 175) 18 = some (.invokevirtual 252, 3, 0, 198, 1137) := by decide +kernel
theorem qcg_21 : xe_look (xc 175) 21 = some (.bipush 50, 2, 0, 0, 0) := by decide +kernel
theorem qcg_23 : xe_look (xc 175) 23 = some (.if_icmp .ge 13, 3, 0, 0, 0) := by decide +kernel
theorem qcg_26 : xe_look (xc 175) 26 = some (.aload_n 0, 1, 0, 0, 0) := by decide +kernel
theorem qcg_27 : xe_look (xc 175) 27 = some (.iconst 1, 1, 0, 0, 0) := by decide +kernel
theorem qcg_28 : xe_look (xc 175) 28 = some (.aload_n 0, 1, 0, 0, 0) := by decide +kernel
theorem qcg_29 : xe_look (xc 175) 29 = some (.getfield 242, 3, 12, 18, 1135) := by decide +kernel
theorem qcg_32 : xe_look (xc 175) 32 = some (.invokevirtual 256, 3, 0, 274, 1138) := by decide +kernel
theorem qcg_35 : xe_look (xc 175) 35 = some (.ireturn, 1, 0, 0, 0) := by decide +kernel
theorem qcg_36 : xe_look (xc 175) 36 = some (.aload_n 0, 1, 0, 0, 0) := by decide +kernel
theorem qcg_37 : xe_look (xc 175) 37 = some (.invokevirtual 252, 3, 0, 198, 1137) := by decide +kernel
theorem qcg_40 : xe_look (xc 175) 40 = some (.bipush 48, 2, 0, 0, 0) := by decide +kernel
theorem qcg_42 : xe_look (xc 175) 42 = some (.isub, 1, 0, 0, 0) := by decide +kernel
theorem qcg_43 : xe_look (xc 175) 43 = some (.istore_n 1, 1, 0, 0, 0) := by decide +kernel
theorem qcg_44 : xe_look (xc 175) 44 = some (.aload_n 0, 1, 0, 0, 0) := by decide +kernel
theorem qcg_45 : xe_look (xc 175) 45 = some (.aload_n 0, 1, 0, 0, 0) := by decide +kernel
theorem qcg_46 : xe_look (xc 175) 46 = some (.getfield 242, 3, 12, 18, 1135) := by decide +kernel
theorem qcg_49 : xe_look (xc 175) 49 = some (.iconst 1, 1, 0, 0, 0) := by decide +kernel
theorem qcg_50 : xe_look (xc 175) 50 = some (.iadd, 1, 0, 0, 0) := by decide +kernel
theorem qcg_51 : xe_look (xc 175) 51 = some (.putfield 242, 3, 12, 18, 1135) := by decide +kernel
theorem qcg_54 : xe_look (xc 175) 54 = some (.aload_n 0, 1, 0, 0, 0) := by decide +kernel
theorem qcg_55 : xe_look (xc 175) 55 = some (.aload_n 0, 1, 0, 0, 0) := by decide +kernel
theorem qcg_56 : xe_look (xc 175) 56 = some (.getfield 265, 3, 12, 26, 1139) := by decide +kernel
theorem qcg_59 : xe_look (xc 175) 59 = some (.iconst 1, 1, 0, 0, 0) := by decide +kernel
theorem qcg_60 : xe_look (xc 175) 60 = some (.isub, 1, 0, 0, 0) := by decide +kernel
theorem qcg_61 : xe_look (xc 175) 61 = some (.putfield 265, 3, 12, 26, 1139) := by decide +kernel
theorem qcg_64 : xe_look (xc 175) 64 = some (.aload_n 0, 1, 0, 0, 0) := by decide +kernel
theorem qcg_65 : xe_look (xc 175) 65 = some (.getfield 65, 3, 12, 30, 1140) := by decide +kernel
theorem qcg_68 : xe_look (xc 175) 68 = some (.aload_n 0, 1, 0, 0, 0) := by decide +kernel
theorem qcg_69 : xe_look (xc 175) 69 = some (.getfield 265, 3, 12, 26, 1139) := by decide +kernel
theorem qcg_72 : xe_look (xc 175) 72 = some (.iaload, 1, 0, 0, 0) := by decide +kernel
theorem qcg_73 : xe_look (xc 175) 73 = some (.istore_n 2, 1, 0, 0, 0) := by decide +kernel
theorem qcg_74 : xe_look (xc 175) 74 = some (.aload_n 0, 1, 0, 0, 0) := by decide +kernel
theorem qcg_75 : xe_look (xc 175) 75 = some (.getfield 262, 3, 12, 25, 1141) := by decide +kernel
theorem qcg_78 : xe_look (xc 175) 78 = some (.iload_n 2, 1, 0, 0, 0) := by decide +kernel
theorem qcg_79 : xe_look (xc 175) 79 = some (.isub, 1, 0, 0, 0) := by decide +kernel
theorem qcg_80 : xe_look (xc 175) 80 = some (.istore_n 3, 1, 0, 0, 0) := by decide +kernel
theorem qcg_81 : xe_look (xc 175) 81 = some (.iload_n 2, 1, 0, 0, 0) := by decide +kernel
theorem qcg_82 : xe_look (xc 175) 82 = some (.iload_n 3, 1, 0, 0, 0) := by decide +kernel
theorem qcg_83 : xe_look (xc 175) 83 = some (.iload_n 1, 1, 0, 0, 0) := by decide +kernel
theorem qcg_84 : xe_look (xc 175) 84 = some (.imul, 1, 0, 0, 0) := by decide +kernel
theorem qcg_85 : xe_look (xc 175) 85 = some (.iadd, 1, 0, 0, 0) := by decide +kernel
theorem qcg_86 : xe_look (xc 175) 86 = some (.bipush 60, 2, 0, 0, 0) := by decide +kernel
theorem qcg_88 : xe_look (xc 175) 88 = some (.if_icmp .le 19, 3, 0, 0, 0) := by decide +kernel
theorem qcg_91 : xe_look (xc 175) 91 = some (.aload_n 0, 1, 0, 0, 0) := by decide +kernel
theorem qcg_92 : xe_look (xc 175) 92 = some (.bipush 6, 2, 0, 0, 0) := by decide +kernel
theorem qcg_94 : xe_look (xc 175) 94 = some (.aload_n 0, 1, 0, 0, 0) := by decide +kernel
theorem qcg_95 : xe_look (xc 175) 95 = some (.getfield 62, 3, 12, 29, 1142) := by decide +kernel
theorem qcg_98 : xe_look (xc 175) 98 = some (.aload_n 0, 1, 0, 0, 0) := by decide +kernel
theorem qcg_99 : xe_look (xc 175) 99 = some (.getfield 265, 3, 12, 26, 1139) := by decide +kernel
theorem qcg_102 : xe_look (xc 175) 102 = some (.iaload, 1, 0, 0, 0) := by decide +kernel
theorem qcg_103 : xe_look (xc 175) 103 = some (.invokevirtual 256, 3, 0, 274, 1138) := by decide +kernel
theorem qcg_106 : xe_look (xc 175) 106 = some (.ireturn, 1, 0, 0, 0) := by decide +kernel
theorem qcg_107 : xe_look (xc 175) 107 = some (.iload_n 3, 1, 0, 0, 0) := by decide +kernel
theorem qcg_108 : xe_look (xc 175) 108 = some (.istore 4, 2, 0, 0, 0) := by decide +kernel
theorem qcg_110 : xe_look (xc 175) 110 = some (.iload 4, 2, 0, 0, 0) := by decide +kernel
theorem qcg_112 : xe_look (xc 175) 112 = some (.iload_n 3, 1, 0, 0, 0) := by decide +kernel
theorem qcg_113 : xe_look (xc 175) 113 = some (.iload_n 1, 1, 0, 0, 0) := by decide +kernel
theorem qcg_114 : xe_look (xc 175) 114 = some (.imul, 1, 0, 0, 0) := by decide +kernel
theorem qcg_115 : xe_look (xc 175) 115 = some (.if_icmp .ge 29, 3, 0, 0, 0) := by decide +kernel
theorem qcg_118 : xe_look (xc 175) 118 = some (.aload_n 0, 1, 0, 0, 0) := by decide +kernel
theorem qcg_119 : xe_look (xc 175) 119 = some (.getfield 59, 3, 12, 28, 1143) := by decide +kernel
theorem qcg_122 : xe_look (xc 175) 122 = some (.iload_n 2, 1, 0, 0, 0) := by decide +kernel
theorem qcg_123 : xe_look (xc 175) 123 = some (.iload 4, 2, 0, 0, 0) := by decide +kernel
theorem qcg_125 : xe_look (xc 175) 125 = some (.iadd, 1, 0, 0, 0) := by decide +kernel
theorem qcg_126 : xe_look (xc 175) 126 = some (.aload_n 0, 1, 0, 0, 0) := by decide +kernel
theorem qcg_127 : xe_look (xc 175) 127 = some (.getfield 59, 3, 12, 28, 1143) := by decide +kernel
theorem qcg_130 : xe_look (xc 175) 130 = some (.iload_n 2, 1, 0, 0, 0) := by decide +kernel
theorem qcg_131 : xe_look (xc 175) 131 = some (.iload 4, 2, 0, 0, 0) := by decide +kernel
theorem qcg_133 : xe_look (xc 175) 133 = some (.iadd, 1, 0, 0, 0) := by decide +kernel
theorem qcg_134 : xe_look (xc 175) 134 = some (.iload_n 3, 1, 0, 0, 0) := by decide +kernel
theorem qcg_135 : xe_look (xc 175) 135 = some (.isub, 1, 0, 0, 0) := by decide +kernel
theorem qcg_136 : xe_look (xc 175) 136 = some (.iaload, 1, 0, 0, 0) := by decide +kernel
theorem qcg_137 : xe_look (xc 175) 137 = some (.iastore, 1, 0, 0, 0) := by decide +kernel
theorem qcg_138 : xe_look (xc 175) 138 = some (.iinc 4 1, 3, 0, 0, 0) := by decide +kernel
theorem qcg_141 : xe_look (xc 175) 141 = some (.goto (-31), 3, 0, 0, 0) := by decide +kernel
theorem qcg_144 : xe_look (xc 175) 144 = some (.aload_n 0, 1, 0, 0, 0) := by decide +kernel
theorem qcg_145 : xe_look (xc 175) 145 = some (.iload_n 2, 1, 0, 0, 0) := by decide +kernel
theorem qcg_146 : xe_look (xc 175) 146 = some (.iload_n 3, 1, 0, 0, 0) := by decide +kernel
theorem qcg_147 : xe_look (xc 175) 147 = some (.iload_n 1, 1, 0, 0, 0) := by decide +kernel
theorem qcg_148 : xe_look (xc 175) 148 = some (.imul, 1, 0, 0, 0) := by decide +kernel
theorem qcg_149 : xe_look (xc 175) 149 = some (.iadd, 1, 0, 0, 0) := by decide +kernel
theorem qcg_150 : xe_look (xc 175) 150 = some (.putfield 262, 3, 12, 25, 1141) := by decide +kernel
theorem qcg_153 : xe_look (xc 175) 153 = some (.iconst 1, 1, 0, 0, 0) := by decide +kernel
theorem qcg_154 : xe_look (xc 175) 154 = some (.ireturn, 1, 0, 0, 0) := by decide +kernel
theorem qcp_0 : xe_look (xc 179) 0 = some (.iconst 0, 1, 0, 0, 0) := by decide +kernel
theorem qcp_1 : xe_look (xc 179) 1 = some (.istore_n 3, 1, 0, 0, 0) := by decide +kernel
theorem qcp_2 : xe_look (xc 179) 2 = some (.iload_n 3, 1, 0, 0, 0) := by decide +kernel
theorem qcp_3 : xe_look (xc 179) 3 = some (.iload_n 2, 1, 0, 0, 0) := by decide +kernel
theorem qcp_4 : xe_look (xc 179) 4 = some (.if_icmp .ge 15, 3, 0, 0, 0) := by decide +kernel
theorem qcp_7 : xe_look (xc 179) 7 = some (.aload_n 1, 1, 0, 0, 0) := by decide +kernel
theorem qcp_8 : xe_look (xc 179) 8 = some (.iload_n 3, 1, 0, 0, 0) := by decide +kernel
theorem qcp_9 : xe_look (xc 179) 9 = some (.aload_n 0, 1, 0, 0, 0) := by decide +kernel
theorem qcp_10 : xe_look (xc 179) 10 = some (.iload_n 3, 1, 0, 0, 0) := by decide +kernel
theorem qcp_11 : xe_look (xc 179) 11 = some (.iaload, 1, 0, 0, 0) := by decide +kernel
theorem qcp_12 : xe_look (xc 179) 12 = some (.iastore, 1, 0, 0, 0) := by decide +kernel
theorem qcp_13 : xe_look (xc 179) 13 = some (.iinc 3 1, 3, 0, 0, 0) := by decide +kernel
theorem qcp_16 : xe_look (xc 179) 16 = some (.goto (-14), 3, 0, 0, 0) := by decide +kernel
theorem qcp_19 : xe_look (xc 179) 19 = some (.return_, 1, 0, 0, 0) := by decide +kernel
theorem qog_0 : xe_look (xc 230) 0 = some (.aload_n 0, 1, 0, 0, 0) := by decide +kernel
theorem qog_1 : xe_look (xc 230) 1 = some (.getfield 265, 3, 12, 26, 1139) := by decide +kernel
theorem qog_4 : xe_look (xc 230) 4 = some (.iconst 4, 1, 0, 0, 0) := by decide +kernel
theorem qog_5 : xe_look (xc 230) 5 = some (.if_icmp .ne 13, 3, 0, 0, 0) := by decide +kernel
theorem qog_8 : xe_look (xc 230) 8 = some (.aload_n 0, 1, 0, 0, 0) := by decide +kernel
theorem qog_9 : xe_look (xc 230) 9 = some (.iconst 5, 1, 0, 0, 0) := by decide +kernel
theorem qog_10 : xe_look (xc 230) 10 = some (.aload_n 0, 1, 0, 0, 0) := by decide +kernel
theorem qog_11 : xe_look (xc 230) 11 = some (.getfield 242, 3, 12, 18, 1135) := by decide +kernel
theorem qog_14 : xe_look (xc 230) 14 = some (.invokevirtual 256, 3, 0, 274, 1138) := by decide +kernel
theorem qog_17 : xe_look (xc 230) 17 = some (.ireturn, 1, 0, 0, 0) := by decide +kernel
theorem qog_18 : xe_look (xc 230) 18 = some (.aload_n 0, 1, 0, 0, 0) := by decide +kernel
theorem qog_19 : xe_look (xc 230) 19 = some (.getfield 62, 3, 12, 29, 1142) := by decide +kernel
theorem qog_22 : xe_look (xc 230) 22 = some (.aload_n 0, 1, 0, 0, 0) := by decide +kernel
theorem qog_23 : xe_look (xc 230) 23 = some (.getfield 265, 3, 12, 26, 1139) := by decide +kernel
theorem qog_26 : xe_look (xc 230) 26 = some (.aload_n 0, 1, 0, 0, 0) := by decide +kernel
theorem qog_27 : xe_look (xc 230) 27 = some (.getfield 242, 3, 12, 18, 1135) := by decide +kernel
theorem qog_30 : xe_look (xc 230) 30 = some (.iastore, 1, 0, 0, 0) := by decide +kernel
theorem qog_31 : xe_look (xc 230) 31 = some (.aload_n 0, 1, 0, 0, 0) := by decide +kernel
theorem qog_32 : xe_look (xc 230) 32 = some (.getfield 65, 3, 12, 30, 1140) := by decide +kernel
theorem qog_35 : xe_look (xc 230) 35 = some (.aload_n 0, 1, 0, 0, 0) := by decide +kernel
theorem qog_36 : xe_look (xc 230) 36 = some (.getfield 265, 3, 12, 26, 1139) := by decide +kernel
theorem qog_39 : xe_look (xc 230) 39 = some (.aload_n 0, 1, 0, 0, 0) := by decide +kernel
theorem qog_40 : xe_look (xc 230) 40 = some (.getfield 262, 3, 12, 25, 1141) := by decide +kernel
theorem qog_43 : xe_look (xc 230) 43 = some (.iastore, 1, 0, 0, 0) := by decide +kernel
theorem qog_44 : xe_look (xc 230) 44 = some (.aload_n 0, 1, 0, 0, 0) := by decide +kernel
theorem qog_45 : xe_look (xc 230) 45 = some (.aload_n 0, 1, 0, 0, 0) := by decide +kernel
theorem qog_46 : xe_look (xc 230) 46 = some (.getfield 265, 3, 12, 26, 1139) := by decide +kernel
theorem qog_49 : xe_look (xc 230) 49 = some (.iconst 1, 1, 0, 0, 0) := by decide +kernel
theorem qog_50 : xe_look (xc 230) 50 = some (.iadd, 1, 0, 0, 0) := by decide +kernel
theorem qog_51 : xe_look (xc 230) 51 = some (.putfield 265, 3, 12, 26, 1139) := by decide +kernel
theorem qog_54 : xe_look (xc 230) 54 = some (.aload_n 0, 1, 0, 0, 0) := by decide +kernel
theorem qog_55 : xe_look (xc 230) 55 = some (.aload_n 0, 1, 0, 0, 0) := by decide +kernel
theorem qog_56 : xe_look (xc 230) 56 = some (.getfield 242, 3, 12, 18, 1135) := by decide +kernel
theorem qog_59 : xe_look (xc 230) 59 = some (.iconst 1, 1, 0, 0, 0) := by decide +kernel
theorem qog_60 : xe_look (xc 230) 60 = some (.iadd, 1, 0, 0, 0) := by decide +kernel
theorem qog_61 : xe_look (xc 230) 61 = some (.putfield 242, 3, 12, 18, 1135) := by decide +kernel
theorem qog_64 : xe_look (xc 230) 64 = some (.iconst 1, 1, 0, 0, 0) := by decide +kernel
theorem qog_65 : xe_look (xc 230) 65 = some (.ireturn, 1, 0, 0, 0) := by decide +kernel
theorem qri_0 : xe_look (xc 237) 0 = some (.aload_n 0, 1, 0, 0, 0) := by decide +kernel
theorem qri_1 : xe_look (xc 237) 1 = some (.invokevirtual 252, 3, 0, 198, 1137) := by decide +kernel
theorem qri_4 : xe_look (xc 237) 4 = some (.bipush 40, 2, 0, 0, 0) := by decide +kernel
theorem qri_6 : xe_look (xc 237) 6 = some (.if_icmp .ne 12, 3, 0, 0, 0) := by decide +kernel
theorem qri_9 : xe_look (xc 237) 9 = some (.aload_n 0, 1, 0, 0, 0) := by decide +kernel
theorem qri_10 : xe_look (xc 237) 10 = some (.invokevirtual 268, 3, 0, 230, 1265) := by decide +kernel
theorem qri_13 : xe_look (xc 237) 13 = some (.ifCond .ne (-13), 3, 0, 0, 0) := by decide +kernel
theorem qri_16 : xe_look (xc 237) 16 = some (.iconst 0, 1, 0, 0, 0) := by decide +kernel
theorem qri_17 : xe_look (xc 237) 17 = some (.ireturn, 1, 0, 0, 0) := by decide +kernel
theorem qri_18 : xe_look (xc 237) 18 = some (.aload_n 0, 1, 0, 0, 0) := by decide +kernel
theorem qri_19 : xe_look (xc 237) 19 = some (.invokevirtual 271, 3, 0, 239, 1266) := by decide +kernel
theorem qri_22 : xe_look (xc 237) 22 = some (.ifCond .ne 5, 3, 0, 0, 0) := by decide +kernel
theorem qri_25 : xe_look (xc 237) 25 = some (.iconst 0, 1, 0, 0, 0) := by decide +kernel
theorem qri_26 : xe_look (xc 237) 26 = some (.ireturn, 1, 0, 0, 0) := by decide +kernel
theorem qri_27 : xe_look (xc 237) 27 = some (.aload_n 0, 1, 0, 0, 0) := by decide +kernel
theorem qri_28 : xe_look (xc 237) 28 = some (.invokevirtual 252, 3, 0, 198, 1137) := by decide +kernel
theorem qri_31 : xe_look (xc 237) 31 = some (.bipush 41, 2, 0, 0, 0) := by decide +kernel
theorem qri_33 : xe_look (xc 237) 33 = some (.if_icmp .ne 19, 3, 0, 0, 0) := by decide +kernel
theorem qri_36 : xe_look (xc 237) 36 = some (.aload_n 0, 1, 0, 0, 0) := by decide +kernel
theorem qri_37 : xe_look (xc 237) 37 = some (.getfield 265, 3, 12, 26, 1139) := by decide +kernel
theorem qri_40 : xe_look (xc 237) 40 = some (.ifCond .le 12, 3, 0, 0, 0) := by decide +kernel
theorem qri_43 : xe_look (xc 237) 43 = some (.aload_n 0, 1, 0, 0, 0) := by decide +kernel
theorem qri_44 : xe_look (xc 237) 44 = some (.invokevirtual 274, 3, 0, 175, 1267) := by decide +kernel
theorem qri_47 : xe_look (xc 237) 47 = some (.ifCond .ne (-20), 3, 0, 0, 0) := by decide +kernel
theorem qri_50 : xe_look (xc 237) 50 = some (.iconst 0, 1, 0, 0, 0) := by decide +kernel
theorem qri_51 : xe_look (xc 237) 51 = some (.ireturn, 1, 0, 0, 0) := by decide +kernel
theorem qri_52 : xe_look (xc 237) 52 = some (.iconst 1, 1, 0, 0, 0) := by decide +kernel
theorem qri_53 : xe_look (xc 237) 53 = some (.ireturn, 1, 0, 0, 0) := by decide +kernel
theorem qrr_0 : xe_look (xc 239) 0 = some (.aload_n 0, 1, 0, 0, 0) := by decide +kernel
theorem qrr_1 : xe_look (xc 239) 1 = some (.getfield 242, 3, 12, 18, 1135) := by decide +kernel
theorem qrr_4 : xe_look (xc 239) 4 = some (.istore_n 1, 1, 0, 0, 0) := by decide +kernel
theorem qrr_5 : xe_look (xc 239) 5 = some (.aload_n 0, 1, 0, 0, 0) := by decide +kernel
theorem qrr_6 : xe_look (xc 239) 6 = some (.invokevirtual 259, 3, 0, 240, 1268) := by decide +kernel
theorem qrr_9 : xe_look (xc 239) 9 = some (.ifCond .ne 5, 3, 0, 0, 0) := by decide +kernel
theorem qrr_12 : xe_look (xc 239) 12 = some (.iconst 0, 1, 0, 0, 0) := by decide +kernel
theorem qrr_13 : xe_look (xc 239) 13 = some (.ireturn, 1, 0, 0, 0) := by decide +kernel
theorem qrr_14 : xe_look (xc 239) 14 = some (.aload_n 0, 1, 0, 0, 0) := by decide +kernel
theorem qrr_15 : xe_look (xc 239) 15 = some (.getfield 245, 3, 12, 21, 1263) := by decide +kernel
theorem qrr_18 : xe_look (xc 239) 18 = some (.istore_n 2, 1, 0, 0, 0) := by decide +kernel
theorem qrr_19 : xe_look (xc 239) 19 = some (.aload_n 0, 1, 0, 0, 0) := by decide +kernel
theorem qrr_20 : xe_look (xc 239) 20 = some (.invokevirtual 252, 3, 0, 198, 1137) := by decide +kernel
theorem qrr_23 : xe_look (xc 239) 23 = some (.bipush 45, 2, 0, 0, 0) := by decide +kernel
theorem qrr_25 : xe_look (xc 239) 25 = some (.if_icmp .ne 22, 3, 0, 0, 0) := by decide +kernel
theorem qrr_28 : xe_look (xc 239) 28 = some (.aload_n 0, 1, 0, 0, 0) := by decide +kernel
theorem qrr_29 : xe_look (xc 239) 29 = some (.aload_n 0, 1, 0, 0, 0) := by decide +kernel
theorem qrr_30 : xe_look (xc 239) 30 = some (.getfield 242, 3, 12, 18, 1135) := by decide +kernel
theorem qrr_33 : xe_look (xc 239) 33 = some (.iconst 1, 1, 0, 0, 0) := by decide +kernel
theorem qrr_34 : xe_look (xc 239) 34 = some (.iadd, 1, 0, 0, 0) := by decide +kernel
theorem qrr_35 : xe_look (xc 239) 35 = some (.putfield 242, 3, 12, 18, 1135) := by decide +kernel
theorem qrr_38 : xe_look (xc 239) 38 = some (.aload_n 0, 1, 0, 0, 0) := by decide +kernel
theorem qrr_39 : xe_look (xc 239) 39 = some (.invokevirtual 259, 3, 0, 240, 1268) := by decide +kernel
theorem qrr_42 : xe_look (xc 239) 42 = some (.ifCond .ne 5, 3, 0, 0, 0) := by decide +kernel
theorem qrr_45 : xe_look (xc 239) 45 = some (.iconst 0, 1, 0, 0, 0) := by decide +kernel
theorem qrr_46 : xe_look (xc 239) 46 = some (.ireturn, 1, 0, 0, 0) := by decide +kernel
theorem qrr_47 : xe_look (xc 239) 47 = some (.aload_n 0, 1, 0, 0, 0) := by decide +kernel
theorem qrr_48 : xe_look (xc 239) 48 = some (.getfield 245, 3, 12, 21, 1263) := by decide +kernel
theorem qrr_51 : xe_look (xc 239) 51 = some (.iload_n 2, 1, 0, 0, 0) := by decide +kernel
theorem qrr_52 : xe_look (xc 239) 52 = some (.if_icmp .ge 7, 3, 0, 0, 0) := by decide +kernel
theorem qrr_55 : xe_look (xc 239) 55 = some (.iconst (-1), 1, 0, 0, 0) := by decide +kernel
theorem qrr_56 : xe_look (xc 239) 56 = some (.goto 4, 3, 0, 0, 0) := by decide +kernel
theorem qrr_59 : xe_look (xc 239) 59 = some (.iconst 1, 1, 0, 0, 0) := by decide +kernel
theorem qrr_60 : xe_look (xc 239) 60 = some (.istore_n 3, 1, 0, 0, 0) := by decide +kernel
theorem qrr_61 : xe_look (xc 239) 61 = some (.aload_n 0, 1, 0, 0, 0) := by decide +kernel
theorem qrr_62 : xe_look (xc 239) 62 = some (.getfield 245, 3, 12, 21, 1263) := by decide +kernel
theorem qrr_65 : xe_look (xc 239) 65 = some (.iload_n 2, 1, 0, 0, 0) := by decide +kernel
theorem qrr_66 : xe_look (xc 239) 66 = some (.isub, 1, 0, 0, 0) := by decide +kernel
theorem qrr_67 : xe_look (xc 239) 67 = some (.iload_n 3, 1, 0, 0, 0) := by decide +kernel
theorem qrr_68 : xe_look (xc 239) 68 = some (.imul, 1, 0, 0, 0) := by decide +kernel
theorem qrr_69 : xe_look (xc 239) 69 = some (.iconst 1, 1, 0, 0, 0) := by decide +kernel
theorem qrr_70 : xe_look (xc 239) 70 = some (.iadd, 1, 0, 0, 0) := by decide +kernel
theorem qrr_71 : xe_look (xc 239) 71 = some (.istore 4, 2, 0, 0, 0) := by decide +kernel
theorem qrr_73 : xe_look (xc 239) 73 = some (.aload_n 0, 1, 0, 0, 0) := by decide +kernel
theorem qrr_74 : xe_look (xc 239) 74 = some (.getfield 262, 3, 12, 25, 1141) := by decide +kernel
theorem qrr_77 : xe_look (xc 239) 77 = some (.iload 4, 2, 0, 0, 0) := by decide +kernel
theorem qrr_79 : xe_look (xc 239) 79 = some (.iadd, 1, 0, 0, 0) := by decide +kernel
theorem qrr_80 : xe_look (xc 239) 80 = some (.bipush 60, 2, 0, 0, 0) := by decide +kernel
theorem qrr_82 : xe_look (xc 239) 82 = some (.if_icmp .le 11, 3, 0, 0, 0) := by decide +kernel
theorem qrr_85 : xe_look (xc 239) 85 = some (.aload_n 0, 1, 0, 0, 0) := by decide +kernel
theorem qrr_86 : xe_look (xc 239) 86 = some (.bipush 6, 2, 0, 0, 0) := by decide +kernel
theorem qrr_88 : xe_look (xc 239) 88 = some (.iload_n 1, 1, 0, 0, 0) := by decide +kernel
theorem qrr_89 : xe_look (xc 239) 89 = some (.invokevirtual 256, 3, 0, 274, 1138) := by decide +kernel
theorem qrr_92 : xe_look (xc 239) 92 = some (.ireturn, 1, 0, 0, 0) := by decide +kernel
theorem qrr_93 : xe_look (xc 239) 93 = some (.iconst 0, 1, 0, 0, 0) := by decide +kernel
theorem qrr_94 : xe_look (xc 239) 94 = some (.istore 5, 2, 0, 0, 0) := by decide +kernel
theorem qrr_96 : xe_look (xc 239) 96 = some (.iload 5, 2, 0, 0, 0) := by decide +kernel
theorem qrr_98 : xe_look (xc 239) 98 = some (.iload 4, 2, 0, 0, 0) := by decide +kernel
theorem qrr_100 : xe_look (xc 239) 100 = some (.if_icmp .ge 27, 3, 0, 0, 0) := by decide +kernel
theorem qrr_103 : xe_look (xc 239) 103 = some (.aload_n 0, 1, 0, 0, 0) := by decide +kernel
theorem qrr_104 : xe_look (xc 239) 104 = some (.getfield 59, 3, 12, 28, 1143) := by decide +kernel
theorem qrr_107 : xe_look (xc 239) 107 = some (.aload_n 0, 1, 0, 0, 0) := by decide +kernel
theorem qrr_108 : xe_look (xc 239) 108 = some (.getfield 262, 3, 12, 25, 1141) := by decide +kernel
theorem qrr_111 : xe_look (xc 239) 111 = some (.iload 5, 2, 0, 0, 0) := by decide +kernel
theorem qrr_113 : xe_look (xc 239) 113 = some (.iadd, 1, 0, 0, 0) := by decide +kernel
theorem qrr_114 : xe_look (xc 239) 114 = some (.iload_n 2, 1, 0, 0, 0) := by decide +kernel
theorem qrr_115 : xe_look (xc 239) 115 = some (.iload_n 3, 1, 0, 0, 0) := by decide +kernel
theorem qrr_116 : xe_look (xc 239) 116 = some (.iload 5, 2, 0, 0, 0) := by decide +kernel
theorem qrr_118 : xe_look (xc 239) 118 = some (.imul, 1, 0, 0, 0) := by decide +kernel
theorem qrr_119 : xe_look (xc 239) 119 = some (.iadd, 1, 0, 0, 0) := by decide +kernel
theorem qrr_120 : xe_look (xc 239) 120 = some (.iastore, 1, 0, 0, 0) := by decide +kernel
theorem qrr_121 : xe_look (xc 239) 121 = some (.iinc 5 1, 3, 0, 0, 0) := by decide +kernel
theorem qrr_124 : xe_look (xc 239) 124 = some (.goto (-28), 3, 0, 0, 0) := by decide +kernel
theorem qrr_127 : xe_look (xc 239) 127 = some (.aload_n 0, 1, 0, 0, 0) := by decide +kernel
theorem qrr_128 : xe_look (xc 239) 128 = some (.aload_n 0, 1, 0, 0, 0) := by decide +kernel
theorem qrr_129 : xe_look (xc 239) 129 = some (.getfield 262, 3, 12, 25, 1141) := by decide +kernel
theorem qrr_132 : xe_look (xc 239) 132 = some (.iload 4, 2, 0, 0, 0) := by decide +kernel
theorem qrr_134 : xe_look (xc 239) 134 = some (.iadd, 1, 0, 0, 0) := by decide +kernel
theorem qrr_135 : xe_look (xc 239) 135 = some (.putfield 262, 3, 12, 25, 1141) := by decide +kernel
theorem qrr_138 : xe_look (xc 239) 138 = some (.iconst 1, 1, 0, 0, 0) := by decide +kernel
theorem qrr_139 : xe_look (xc 239) 139 = some (.ireturn, 1, 0, 0, 0) := by decide +kernel
theorem qrs_0 : xe_look (xc 240) 0 = some (.aload_n 0, 1, 0, 0, 0) := by decide +kernel
theorem qrs_1 : xe_look (xc 240) 1 = some (.getfield 242, 3, 12, 18, 1135) := by decide +kernel
theorem qrs_4 : xe_look (xc 240) 4 = some (.istore_n 1, 1, 0, 0, 0) := by decide +kernel
theorem qrs_5 : xe_look (xc 240) 5 = some (.aload_n 0, 1, 0, 0, 0) := by decide +kernel
theorem qrs_6 : xe_look (xc 240) 6 = some (.iconst 0, 1, 0, 0, 0) := by decide +kernel
theorem qrs_7 : xe_look (xc 240) 7 = some (.putfield 245, 3, 12, 21, 1263) := by decide +kernel
theorem qrs_10 : xe_look (xc 240) 10 = some (.aload_n 0, 1, 0, 0, 0) := by decide +kernel
theorem qrs_11 : xe_look (xc 240) 11 = some (.invokevirtual 248, 3, 0, 203, 1136) := by decide +kernel
theorem qrs_14 : xe_look (xc 240) 14 = some (.ifCond .eq 45, 3, 0, 0, 0) := by decide +kernel
theorem qrs_17 : xe_look (xc 240) 17 = some (.aload_n 0, 1, 0, 0, 0) := by decide +kernel
theorem qrs_18 : xe_look (xc 240) 18 = some (.getfield 242, 3, 12, 18, 1135) := by decide +kernel
theorem qrs_21 : xe_look (xc 240) 21 = some (.iload_n 1, 1, 0, 0, 0) := by decide +kernel
theorem qrs_22 : xe_look (xc 240) 22 = some (.iconst 2, 1, 0, 0, 0) := by decide +kernel
theorem qrs_23 : xe_look (xc 240) 23 = some (.iadd, 1, 0, 0, 0) := by decide +kernel
theorem qrs_24 : xe_look (xc 240) 24 = some (.if_icmp .ge 35, 3, 0, 0, 0) := by decide +kernel
theorem qrs_27 : xe_look (xc 240) 27 = some (.aload_n 0, 1, 0, 0, 0) := by decide +kernel
theorem qrs_28 : xe_look (xc 240) 28 = some (.bipush 10, 2, 0, 0, 0) := by decide +kernel
theorem qrs_30 : xe_look (xc 240) 30 = some (.aload_n 0, 1, 0, 0, 0) := by decide +kernel
theorem qrs_31 : xe_look (xc 240) 31 = some (.getfield 245, 3, 12, 21, 1263) := by decide +kernel
theorem qrs_34 : xe_look (xc 240) 34 = some (.imul, 1, 0, 0, 0) := by decide +kernel
theorem qrs_35 : xe_look (xc 240) 35 = some (.aload_n 0, 1, 0, 0, 0) := by decide +kernel
theorem qrs_36 : xe_look (xc 240) 36 = some (.invokevirtual 252, 3, 0, 198, 1137) := by decide +kernel
theorem qrs_39 : xe_look (xc 240) 39 = some (.iadd, 1, 0, 0, 0) := by decide +kernel
theorem qrs_40 : xe_look (xc 240) 40 = some (.bipush 48, 2, 0, 0, 0) := by decide +kernel
theorem qrs_42 : xe_look (xc 240) 42 = some (.isub, 1, 0, 0, 0) := by decide +kernel
theorem qrs_43 : xe_look (xc 240) 43 = some (.putfield 245, 3, 12, 21, 1263) := by decide +kernel
theorem qrs_46 : xe_look (xc 240) 46 = some (.aload_n 0, 1, 0, 0, 0) := by decide +kernel
theorem qrs_47 : xe_look (xc 240) 47 = some (.aload_n 0, 1, 0, 0, 0) := by decide +kernel
theorem qrs_48 : xe_look (xc 240) 48 = some (.getfield 242, 3, 12, 18, 1135) := by decide +kernel
theorem qrs_51 : xe_look (xc 240) 51 = some (.iconst 1, 1, 0, 0, 0) := by decide +kernel
theorem qrs_52 : xe_look (xc 240) 52 = some (.iadd, 1, 0, 0, 0) := by decide +kernel
theorem qrs_53 : xe_look (xc 240) 53 = some (.putfield 242, 3, 12, 18, 1135) := by decide +kernel
theorem qrs_56 : xe_look (xc 240) 56 = some (.goto (-46), 3, 0, 0, 0) := by decide +kernel
theorem qrs_59 : xe_look (xc 240) 59 = some (.aload_n 0, 1, 0, 0, 0) := by decide +kernel
theorem qrs_60 : xe_look (xc 240) 60 = some (.getfield 242, 3, 12, 18, 1135) := by decide +kernel
theorem qrs_63 : xe_look (xc 240) 63 = some (.iload_n 1, 1, 0, 0, 0) := by decide +kernel
theorem qrs_64 : xe_look (xc 240) 64 = some (.if_icmp .ne 13, 3, 0, 0, 0) := by decide +kernel
theorem qrs_67 : xe_look (xc 240) 67 = some (.aload_n 0, 1, 0, 0, 0) := by decide +kernel
theorem qrs_68 : xe_look (xc 240) 68 = some (.iconst 1, 1, 0, 0, 0) := by decide +kernel
theorem qrs_69 : xe_look (xc 240) 69 = some (.aload_n 0, 1, 0, 0, 0) := by decide +kernel
theorem qrs_70 : xe_look (xc 240) 70 = some (.getfield 242, 3, 12, 18, 1135) := by decide +kernel
theorem qrs_73 : xe_look (xc 240) 73 = some (.invokevirtual 256, 3, 0, 274, 1138) := by decide +kernel
theorem qrs_76 : xe_look (xc 240) 76 = some (.ireturn, 1, 0, 0, 0) := by decide +kernel
theorem qrs_77 : xe_look (xc 240) 77 = some (.aload_n 0, 1, 0, 0, 0) := by decide +kernel
theorem qrs_78 : xe_look (xc 240) 78 = some (.getfield 245, 3, 12, 21, 1263) := by decide +kernel
theorem qrs_81 : xe_look (xc 240) 81 = some (.bipush 32, 2, 0, 0, 0) := by decide +kernel
theorem qrs_83 : xe_look (xc 240) 83 = some (.if_icmp .lt 12, 3, 0, 0, 0) := by decide +kernel
theorem qrs_86 : xe_look (xc 240) 86 = some (.aload_n 0, 1, 0, 0, 0) := by decide +kernel
theorem qrs_87 : xe_look (xc 240) 87 = some (.iconst 3, 1, 0, 0, 0) := by decide +kernel
theorem qrs_88 : xe_look (xc 240) 88 = some (.iload_n 1, 1, 0, 0, 0) := by decide +kernel
theorem qrs_89 : xe_look (xc 240) 89 = some (.invokevirtual 256, 3, 0, 274, 1138) := by decide +kernel
theorem qrs_92 : xe_look (xc 240) 92 = some (.ifCond .eq 7, 3, 0, 0, 0) := by decide +kernel
theorem qrs_95 : xe_look (xc 240) 95 = some (.iconst 1, 1, 0, 0, 0) := by decide +kernel
theorem qrs_96 : xe_look (xc 240) 96 = some (.goto 4, 3, 0, 0, 0) := by decide +kernel
theorem qrs_99 : xe_look (xc 240) 99 = some (.iconst 0, 1, 0, 0, 0) := by decide +kernel
theorem qrs_100 : xe_look (xc 240) 100 = some (.ireturn, 1, 0, 0, 0) := by decide +kernel
theorem qty_0 : xe_look (xc 264) 0 = some (.iload_n 1, 1, 0, 0, 0) := by decide +kernel
theorem qty_1 : xe_look (xc 264) 1 = some (.iconst 1, 1, 0, 0, 0) := by decide +kernel
theorem qty_2 : xe_look (xc 264) 2 = some (.bipush 120, 2, 0, 0, 0) := by decide +kernel
theorem qty_4 : xe_look (xc 264) 4 = some (.invokestatic 201, 3, 0, 199, 1131) := by decide +kernel
theorem qty_7 : xe_look (xc 264) 7 = some (.ifCond .eq 11, 3, 0, 0, 0) := by decide +kernel
theorem qty_10 : xe_look (xc 264) 10 = some (.iload_n 1, 1, 0, 0, 0) := by decide +kernel
theorem qty_11 : xe_look (xc 264) 11 = some (.aload_n 0, 1, 0, 0, 0) := by decide +kernel
theorem qty_12 : xe_look (xc 264) 12 = some (.getfield 194, 3, 12, 17, 1132) := by decide +kernel
theorem qty_15 : xe_look (xc 264) 15 = some (.if_icmp .le 5, 3, 0, 0, 0) := by decide +kernel
theorem qty_18 : xe_look (xc 264) 18 = some (.iconst (-1), 1, 0, 0, 0) := by decide +kernel
theorem qty_19 : xe_look (xc 264) 19 = some (.ireturn, 1, 0, 0, 0) := by decide +kernel
theorem qty_20 : xe_look (xc 264) 20 = some (.aload_n 0, 1, 0, 0, 0) := by decide +kernel
theorem qty_21 : xe_look (xc 264) 21 = some (.iconst 0, 1, 0, 0, 0) := by decide +kernel
theorem qty_22 : xe_look (xc 264) 22 = some (.putfield 242, 3, 12, 18, 1135) := by decide +kernel
theorem qty_25 : xe_look (xc 264) 25 = some (.aload_n 0, 1, 0, 0, 0) := by decide +kernel
theorem qty_26 : xe_look (xc 264) 26 = some (.iload_n 1, 1, 0, 0, 0) := by decide +kernel
theorem qty_27 : xe_look (xc 264) 27 = some (.putfield 277, 3, 12, 19, 1190) := by decide +kernel
theorem qty_30 : xe_look (xc 264) 30 = some (.aload_n 0, 1, 0, 0, 0) := by decide +kernel
theorem qty_31 : xe_look (xc 264) 31 = some (.iconst 0, 1, 0, 0, 0) := by decide +kernel
theorem qty_32 : xe_look (xc 264) 32 = some (.putfield 262, 3, 12, 25, 1141) := by decide +kernel
theorem qty_35 : xe_look (xc 264) 35 = some (.aload_n 0, 1, 0, 0, 0) := by decide +kernel
theorem qty_36 : xe_look (xc 264) 36 = some (.iconst 0, 1, 0, 0, 0) := by decide +kernel
theorem qty_37 : xe_look (xc 264) 37 = some (.putfield 265, 3, 12, 26, 1139) := by decide +kernel
theorem qty_40 : xe_look (xc 264) 40 = some (.aload_n 0, 1, 0, 0, 0) := by decide +kernel
theorem qty_41 : xe_look (xc 264) 41 = some (.invokevirtual 280, 3, 0, 237, 1285) := by decide +kernel
theorem qty_44 : xe_look (xc 264) 44 = some (.istore_n 2, 1, 0, 0, 0) := by decide +kernel
theorem qty_45 : xe_look (xc 264) 45 = some (.iload_n 2, 1, 0, 0, 0) := by decide +kernel
theorem qty_46 : xe_look (xc 264) 46 = some (.ifCond .eq 46, 3, 0, 0, 0) := by decide +kernel
theorem qty_49 : xe_look (xc 264) 49 = some (.aload_n 0, 1, 0, 0, 0) := by decide +kernel
theorem qty_50 : xe_look (xc 264) 50 = some (.getfield 242, 3, 12, 18, 1135) := by decide +kernel
theorem qty_53 : xe_look (xc 264) 53 = some (.aload_n 0, 1, 0, 0, 0) := by decide +kernel
theorem qty_54 : xe_look (xc 264) 54 = some (.getfield 277, 3, 12, 19, 1190) := by decide +kernel
theorem qty_57 : xe_look (xc 264) 57 = some (.if_icmp .lt 10, 3, 0, 0, 0) := by decide +kernel
theorem qty_60 : xe_look (xc 264) 60 = some (.aload_n 0, 1, 0, 0, 0) := by decide +kernel
theorem qty_61 : xe_look (xc 264) 61 = some (.getfield 265, 3, 12, 26, 1139) := by decide +kernel
theorem qty_64 : xe_look (xc 264) 64 = some (.ifCond .le 28, 3, 0, 0, 0) := by decide +kernel
theorem qty_67 : xe_look (xc 264) 67 = some (.aload_n 0, 1, 0, 0, 0) := by decide +kernel
theorem qty_68 : xe_look (xc 264) 68 = some (.bipush 44, 2, 0, 0, 0) := by decide +kernel
theorem qty_70 : xe_look (xc 264) 70 = some (.invokevirtual 283, 3, 0, 260, 1232) := by decide +kernel
theorem qty_73 : xe_look (xc 264) 73 = some (.ifCond .eq 14, 3, 0, 0, 0) := by decide +kernel
theorem qty_76 : xe_look (xc 264) 76 = some (.aload_n 0, 1, 0, 0, 0) := by decide +kernel
theorem qty_77 : xe_look (xc 264) 77 = some (.invokevirtual 280, 3, 0, 237, 1285) := by decide +kernel
theorem qty_80 : xe_look (xc 264) 80 = some (.ifCond .eq 7, 3, 0, 0, 0) := by decide +kernel
theorem qty_83 : xe_look (xc 264) 83 = some (.iconst 1, 1, 0, 0, 0) := by decide +kernel
theorem qty_84 : xe_look (xc 264) 84 = some (.goto 4, 3, 0, 0, 0) := by decide +kernel
theorem qty_87 : xe_look (xc 264) 87 = some (.iconst 0, 1, 0, 0, 0) := by decide +kernel
theorem qty_88 : xe_look (xc 264) 88 = some (.istore_n 2, 1, 0, 0, 0) := by decide +kernel
theorem qty_89 : xe_look (xc 264) 89 = some (.goto (-44), 3, 0, 0, 0) := by decide +kernel
theorem qty_92 : xe_look (xc 264) 92 = some (.aload_n 0, 1, 0, 0, 0) := by decide +kernel
theorem qty_93 : xe_look (xc 264) 93 = some (.iconst 0, 1, 0, 0, 0) := by decide +kernel
theorem qty_94 : xe_look (xc 264) 94 = some (.putfield 194, 3, 12, 17, 1132) := by decide +kernel
theorem qty_97 : xe_look (xc 264) 97 = some (.iload_n 2, 1, 0, 0, 0) := by decide +kernel
theorem qty_98 : xe_look (xc 264) 98 = some (.ifCond .ne 8, 3, 0, 0, 0) := by decide +kernel
theorem qty_101 : xe_look (xc 264) 101 = some (.aload_n 0, 1, 0, 0, 0) := by decide +kernel
theorem qty_102 : xe_look (xc 264) 102 = some (.getfield 286, 3, 12, 20, 1233) := by decide +kernel
theorem qty_105 : xe_look (xc 264) 105 = some (.ireturn, 1, 0, 0, 0) := by decide +kernel
theorem qty_106 : xe_look (xc 264) 106 = some (.aload_n 0, 1, 0, 0, 0) := by decide +kernel
theorem qty_107 : xe_look (xc 264) 107 = some (.aload_n 0, 1, 0, 0, 0) := by decide +kernel
theorem qty_108 : xe_look (xc 264) 108 = some (.getfield 262, 3, 12, 25, 1141) := by decide +kernel
theorem qty_111 : xe_look (xc 264) 111 = some (.putfield 289, 3, 12, 24, 1161) := by decide +kernel
theorem qty_114 : xe_look (xc 264) 114 = some (.aload_n 0, 1, 0, 0, 0) := by decide +kernel
theorem qty_115 : xe_look (xc 264) 115 = some (.getfield 59, 3, 12, 28, 1143) := by decide +kernel
theorem qty_118 : xe_look (xc 264) 118 = some (.aload_n 0, 1, 0, 0, 0) := by decide +kernel
theorem qty_119 : xe_look (xc 264) 119 = some (.getfield 56, 3, 12, 27, 1183) := by decide +kernel
theorem qty_122 : xe_look (xc 264) 122 = some (.aload_n 0, 1, 0, 0, 0) := by decide +kernel
theorem qty_123 : xe_look (xc 264) 123 = some (.getfield 262, 3, 12, 25, 1141) := by decide +kernel
theorem qty_126 : xe_look (xc 264) 126 = some (.invokestatic 292, 3, 0, 179, 1228) := by decide +kernel
theorem qty_129 : xe_look (xc 264) 129 = some (.aload_n 0, 1, 0, 0, 0) := by decide +kernel
theorem qty_130 : xe_look (xc 264) 130 = some (.getfield 262, 3, 12, 25, 1141) := by decide +kernel
theorem qty_133 : xe_look (xc 264) 133 = some (.ireturn, 1, 0, 0, 0) := by decide +kernel
theorem ga_212 : eG (cn 212) = (0, 31, []) := by decide +kernel
theorem ga_213 : eG (cn 213) = ((-2147483648), 2147483647, []) := by decide +kernel
theorem ga_214 : eG (cn 214) = ((-2147483648), 2147483647, []) := by decide +kernel
theorem ga_215 : eG (cn 215) = ((-2147483648), 2147483647, []) := by decide +kernel
theorem gf_19 : eG (cn 196 + 19) = ((-2147483648), 2147483647, []) := by decide +kernel
theorem gf_21 : eG (cn 196 + 21) = ((-2147483648), 2147483647, []) := by decide +kernel
theorem gf_24 : eG (cn 196 + 24) = (0, 60, []) := by decide +kernel
theorem gf_25 : eG (cn 196 + 25) = ((-2147483648), 2147483647, []) := by decide +kernel
theorem gf_26 : eG (cn 196 + 26) = ((-2147483648), 2147483647, []) := by decide +kernel
def Wt : Nat := 2 ^ (cn 196 + 17) + 2 ^ (cn 196 + 18) + 2 ^ (cn 196 + 19) + 2 ^ (cn 196 + 20) + 2 ^ (cn 196 + 21) + 2 ^ (cn 196 + 24) + 2 ^ (cn 196 + 25) + 2 ^ (cn 196 + 26) + 2 ^ cn 212 + 2 ^ cn 213 + 2 ^ cn 214 + 2 ^ cn 215
theorem Wt_f : Wt.testBit (cn 196 + 17) = true ∧ Wt.testBit (cn 196 + 18) = true ∧ Wt.testBit (cn 196 + 19) = true ∧ Wt.testBit (cn 196 + 20) = true ∧ Wt.testBit (cn 196 + 21) = true ∧ Wt.testBit (cn 196 + 24) = true ∧ Wt.testBit (cn 196 + 25) = true ∧ Wt.testBit (cn 196 + 26) = true := by decide +kernel
theorem Wt_a : Wt.testBit (cn 212) = true ∧ Wt.testBit (cn 213) = true ∧ Wt.testBit (cn 214) = true ∧ Wt.testBit (cn 215) = true ∧ Wt &&& eDX = 0 := by decide +kernel
def tI (g : pH) : Prop := 0 ≤ fF g 18 ∧ fF g 18 ≤ fF g 19 ∧ fF g 19 ≤ 240
def tJ (g : pH) : Prop := (0 ≤ fF g 25 ∧ fF g 25 ≤ 60 ∧ 0 ≤ fF g 26 ∧ fF g 26 ≤ 4) ∧ (∀ k : Nat, (k : Int) < fF g 25 → 0 ≤ fA g 213 k ∧ fA g 213 k ≤ 31) ∧ (∀ j : Nat, (j : Int) < fF g 26 → 0 ≤ fA g 215 j ∧ fA g 215 j ≤ fF g 25)
set_option maxHeartbeats 4000000 in
theorem rs_loop {d : Nat} (hd : 2 ≤ d) {h0 h : pH} (hh : tI h) {P : Option pv × pH → Prop} (h1 : ∀ g1 : pH, fF h 18 < fF g1 18 → fF g1 18 ≤ fF g1 19 → fF g1 19 = fF h 19 → fF g1 25 = fF h 25 → fF g1 26 = fF h 26 → (0 ≤ fF g1 21 ∧ fF g1 21 ≤ 31) → fA g1 = fA h → J_ Wt h0 g1 → P (some (oI 1), g1)) (h2 : ∀ g1 : pH, J_ Wt h0 g1 → P (some (oI 0), g1)) {f : Int} (hf : f = fF h 18) : ∀ (m : Nat) (g : pH) (lv : List (Nat × pv)), f + 3 - fF g 18 ≤ m → J_ Wt h0 g → ((fF g 18 = f ∧ fF g 21 = 0) ∨ (fF g 18 = f + 1 ∧ 0 ≤ fF g 21 ∧ fF g 21 ≤ 9) ∨ (fF g 18 = f + 2 ∧ 0 ≤ fF g 21 ∧ fF g 21 ≤ 99)) → fF g 19 = fF h 19 ∧ fF g 18 ≤ fF g 19 → fF g 25 = fF h 25 → fF g 26 = fF h 26 → fA g = fA h → 0 ≤ fF g 18 → px_lg lv 0 = some (pvR 196) → px_lg lv 1 = some (oI f) → t_X d 240 10 lv [] g P := by
  obtain ⟨w_17, w_18, w_19, w_20, w_21, w_24, w_25, w_26⟩ := Wt_f
  obtain ⟨w_a212, w_a213, w_a214, w_a215, -⟩ := Wt_a
  obtain ⟨hh1, hh2, hh3⟩ := hh
  intro m
  induction m with
  | zero =>
    intro g lv hm hJ hs hl h25 h26 ha hp l0 l1
    omega
  | succ m ih =>
    intro g lv hm hJ hs hl h25 h26 ha hp l0 l1
    refine t_0 qrs_10 rfl (ld_a l0) ?_
    refine t_3 qrs_11 rfl (ar := ([pvR 196], [])) (pcal_v0 rfl rfl el_196) ⟨by omega, Nat.le_of_ble_eq_true rfl, Nat.le_of_ble_eq_true rfl, rfl⟩ ?_
    have hn1 := hV_n g
    refine di_run (by omega) hJ.1 (by omega) (by omega) (fun t1 => ?_) (fun t1 => ?_) rfl
    · show t_X d 240 14 lv [oI (1)] g P
      refine tz_eq qrs_14 (by decide) ⟨by omega, by omega⟩ (fun c2 => absurd c2 (by omega)) (fun c2 => ?_)
      show t_X d 240 17 lv [] g P
      refine t_0 qrs_17 rfl (ld_a l0) ?_
      have r3 := fF_b g 18
      refine t_0 qrs_18 rfl (pq_gf (y := 18) rfl) ?_
      refine t_0 qrs_21 rfl (ld_i l1) ?_
      refine t_0 qrs_22 rfl rfl ?_
      refine t_0 qrs_23 rfl pq_add ?_
      refine tb_ge qrs_24 (by decide) ⟨by omega, by omega⟩ ⟨by omega, by omega⟩ (fun c4 => ?_) (fun c4 => ?_)
      · show t_X d 240 59 lv [] g P
        refine t_0 qrs_59 rfl (ld_a l0) ?_
        have r5 := fF_b g 18
        refine t_0 qrs_60 rfl (pq_gf (y := 18) rfl) ?_
        refine t_0 qrs_63 rfl (ld_i l1) ?_
        refine tb_ne qrs_64 (by decide) ⟨by omega, by omega⟩ ⟨by omega, by omega⟩ (fun c6 => ?_) (fun c6 => ?_)
        · show t_X d 240 77 lv [] g P
          refine t_0 qrs_77 rfl (ld_a l0) ?_
          have r7 := fF_b g 21
          refine t_0 qrs_78 rfl (pq_gf (y := 21) rfl) ?_
          refine t_0 qrs_81 rfl (pq_b (by decide)) ?_
          refine tb_lt qrs_83 (by decide) ⟨by omega, by omega⟩ ⟨by omega, by omega⟩ (fun c8 => ?_) (fun c8 => ?_)
          · show t_X d 240 95 lv [] g P
            refine t_0 qrs_95 rfl rfl ?_
            refine t_1 qrs_96 rfl (pb_goto (pc := 96) (by decide)) ?_
            show t_X d 240 100 lv [oI (1)] g P
            refine t_5 qrs_100 rfl rfl ?_
            exact h1 _ (by omega) (by omega) (by omega) (by omega) (by omega) (by omega) (ha) hJ
          · show t_X d 240 86 lv [] g P
            refine t_0 qrs_86 rfl (ld_a l0) ?_
            refine t_0 qrs_87 rfl rfl ?_
            refine t_0 qrs_88 rfl (ld_i l1) ?_
            refine t_3 qrs_89 rfl (ar := ([pvR 196, oI (3), oI (f)], [])) (pcal_v2 rfl rfl el_196) ⟨by omega, Nat.le_of_ble_eq_true rfl, Nat.le_of_ble_eq_true rfl, rfl⟩ ?_
            refine wr_run hJ w_20 (fun g9 hJ9 f9 a9 => ?_) rfl rfl rfl
            have q9_18 := f9 18 (by decide)
            have q9_19 := f9 19 (by decide)
            have q9_25 := f9 25 (by decide)
            have q9_26 := f9 26 (by decide)
            have q9_21 := f9 21 (by decide)
            show t_X d 240 92 lv [oI (0)] g9 P
            refine tz_eq qrs_92 (by decide) ⟨by omega, by omega⟩ (fun c10 => ?_) (fun c10 => absurd c10 (by omega))
            show t_X d 240 99 lv [] g9 P
            refine t_0 qrs_99 rfl rfl ?_
            refine t_5 qrs_100 rfl rfl ?_
            exact h2 _ hJ9
        · show t_X d 240 67 lv [] g P
          refine t_0 qrs_67 rfl (ld_a l0) ?_
          refine t_0 qrs_68 rfl rfl ?_
          refine t_0 qrs_69 rfl (ld_a l0) ?_
          have r11 := fF_b g 18
          refine t_0 qrs_70 rfl (pq_gf (y := 18) rfl) ?_
          refine t_3 qrs_73 rfl (ar := ([pvR 196, oI (1), oI (fF g 18)], [])) (pcal_v2 rfl rfl el_196) ⟨by omega, Nat.le_of_ble_eq_true rfl, Nat.le_of_ble_eq_true rfl, rfl⟩ ?_
          refine wr_run hJ w_20 (fun g12 hJ12 f12 a12 => ?_) rfl rfl rfl
          have q12_18 := f12 18 (by decide)
          have q12_19 := f12 19 (by decide)
          have q12_25 := f12 25 (by decide)
          have q12_26 := f12 26 (by decide)
          have q12_21 := f12 21 (by decide)
          show t_X d 240 76 lv [oI (0)] g12 P
          refine t_5 qrs_76 rfl rfl ?_
          exact h2 _ hJ12
      · show t_X d 240 27 lv [] g P
        refine t_0 qrs_27 rfl (ld_a l0) ?_
        refine t_0 qrs_28 rfl (pq_b (by decide)) ?_
        refine t_0 qrs_30 rfl (ld_a l0) ?_
        have r13 := fF_b g 21
        refine t_0 qrs_31 rfl (pq_gf (y := 21) rfl) ?_
        refine t_0 qrs_34 rfl pq_mul ?_
        refine t_0 qrs_35 rfl (ld_a l0) ?_
        refine t_3 qrs_36 rfl (ar := ([pvR 196], [oI (10 * (fF g 21)), pvR 196])) (pcal_v0 rfl rfl el_196) ⟨by omega, Nat.le_of_ble_eq_true rfl, Nat.le_of_ble_eq_true rfl, rfl⟩ ?_
        refine he_run hJ.1 (by omega) (by omega) ?_ rfl
        have hv14 := hV_b g
        have hn14 := hV_n g
        show t_X d 240 39 lv [oI (hV g), oI (10 * (fF g 21)), pvR 196] g P
        refine t_0 qrs_39 rfl pq_add ?_
        refine t_0 qrs_40 rfl (pq_b (by decide)) ?_
        refine t_0 qrs_42 rfl pq_sub ?_
        refine tw_f qrs_43 rfl hJ w_21 gf_21 (by decide) ⟨by omega, by omega⟩ (fun g15 hJ15 v15 f15 a15 => ?_)
        replace a15 := fA_2 a15
        have q15_18 := f15 18 (by decide)
        have q15_19 := f15 19 (by decide)
        have q15_25 := f15 25 (by decide)
        have q15_26 := f15 26 (by decide)
        show t_X d 240 46 lv [] g15 P
        refine t_0 qrs_46 rfl (ld_a l0) ?_
        refine t_0 qrs_47 rfl (ld_a l0) ?_
        have r16 := fF_b g15 18
        refine t_0 qrs_48 rfl (pq_gf (y := 18) rfl) ?_
        refine t_0 qrs_51 rfl rfl ?_
        refine t_0 qrs_52 rfl pq_add ?_
        refine tw_f qrs_53 rfl hJ15 w_18 gf_18 (by decide) ⟨by omega, by omega⟩ (fun g17 hJ17 v17 f17 a17 => ?_)
        replace a17 := fA_2 a17
        have q17_19 := f17 19 (by decide)
        have q17_25 := f17 25 (by decide)
        have q17_26 := f17 26 (by decide)
        have q17_21 := f17 21 (by decide)
        show t_X d 240 56 lv [] g17 P
        refine t_1 qrs_56 rfl (pb_goto (pc := 56) (by decide)) ?_
        show t_X d 240 10 lv [] g17 P
        have ea : fA g17 = fA g := by rw [a17, a15]
        exact ih _ _ (by omega) hJ17 (by omega) (by omega) (by omega) (by omega) (ea.trans ha) (by omega) l0 l1
    · show t_X d 240 14 lv [oI (0)] g P
      refine tz_eq qrs_14 (by decide) ⟨by omega, by omega⟩ (fun c18 => ?_) (fun c18 => absurd c18 (by omega))
      show t_X d 240 59 lv [] g P
      refine t_0 qrs_59 rfl (ld_a l0) ?_
      have r19 := fF_b g 18
      refine t_0 qrs_60 rfl (pq_gf (y := 18) rfl) ?_
      refine t_0 qrs_63 rfl (ld_i l1) ?_
      refine tb_ne qrs_64 (by decide) ⟨by omega, by omega⟩ ⟨by omega, by omega⟩ (fun c20 => ?_) (fun c20 => ?_)
      · show t_X d 240 77 lv [] g P
        refine t_0 qrs_77 rfl (ld_a l0) ?_
        have r21 := fF_b g 21
        refine t_0 qrs_78 rfl (pq_gf (y := 21) rfl) ?_
        refine t_0 qrs_81 rfl (pq_b (by decide)) ?_
        refine tb_lt qrs_83 (by decide) ⟨by omega, by omega⟩ ⟨by omega, by omega⟩ (fun c22 => ?_) (fun c22 => ?_)
        · show t_X d 240 95 lv [] g P
          refine t_0 qrs_95 rfl rfl ?_
          refine t_1 qrs_96 rfl (pb_goto (pc := 96) (by decide)) ?_
          show t_X d 240 100 lv [oI (1)] g P
          refine t_5 qrs_100 rfl rfl ?_
          exact h1 _ (by omega) (by omega) (by omega) (by omega) (by omega) (by omega) (ha) hJ
        · show t_X d 240 86 lv [] g P
          refine t_0 qrs_86 rfl (ld_a l0) ?_
          refine t_0 qrs_87 rfl rfl ?_
          refine t_0 qrs_88 rfl (ld_i l1) ?_
          refine t_3 qrs_89 rfl (ar := ([pvR 196, oI (3), oI (f)], [])) (pcal_v2 rfl rfl el_196) ⟨by omega, Nat.le_of_ble_eq_true rfl, Nat.le_of_ble_eq_true rfl, rfl⟩ ?_
          refine wr_run hJ w_20 (fun g23 hJ23 f23 a23 => ?_) rfl rfl rfl
          have q23_18 := f23 18 (by decide)
          have q23_19 := f23 19 (by decide)
          have q23_25 := f23 25 (by decide)
          have q23_26 := f23 26 (by decide)
          have q23_21 := f23 21 (by decide)
          show t_X d 240 92 lv [oI (0)] g23 P
          refine tz_eq qrs_92 (by decide) ⟨by omega, by omega⟩ (fun c24 => ?_) (fun c24 => absurd c24 (by omega))
          show t_X d 240 99 lv [] g23 P
          refine t_0 qrs_99 rfl rfl ?_
          refine t_5 qrs_100 rfl rfl ?_
          exact h2 _ hJ23
      · show t_X d 240 67 lv [] g P
        refine t_0 qrs_67 rfl (ld_a l0) ?_
        refine t_0 qrs_68 rfl rfl ?_
        refine t_0 qrs_69 rfl (ld_a l0) ?_
        have r25 := fF_b g 18
        refine t_0 qrs_70 rfl (pq_gf (y := 18) rfl) ?_
        refine t_3 qrs_73 rfl (ar := ([pvR 196, oI (1), oI (fF g 18)], [])) (pcal_v2 rfl rfl el_196) ⟨by omega, Nat.le_of_ble_eq_true rfl, Nat.le_of_ble_eq_true rfl, rfl⟩ ?_
        refine wr_run hJ w_20 (fun g26 hJ26 f26 a26 => ?_) rfl rfl rfl
        have q26_18 := f26 18 (by decide)
        have q26_19 := f26 19 (by decide)
        have q26_25 := f26 25 (by decide)
        have q26_26 := f26 26 (by decide)
        have q26_21 := f26 21 (by decide)
        show t_X d 240 76 lv [oI (0)] g26 P
        refine t_5 qrs_76 rfl rfl ?_
        exact h2 _ hJ26
theorem rs_run {d : Nat} (hd : 2 ≤ d) {h0 h : pH} (hh : tI h) {P : Option pv × pH → Prop} (h1 : ∀ g1 : pH, fF h 18 < fF g1 18 → fF g1 18 ≤ fF g1 19 → fF g1 19 = fF h 19 → fF g1 25 = fF h 25 → fF g1 26 = fF h 26 → (0 ≤ fF g1 21 ∧ fF g1 21 ≤ 31) → fA g1 = fA h → J_ Wt h0 g1 → P (some (oI 1), g1)) (h2 : ∀ g1 : pH, J_ Wt h0 g1 → P (some (oI 0), g1)) (hJ : J_ Wt h0 h) {lv : List (Nat × pv)} (l0 : px_lg lv 0 = some (pvR 196)) : t_X d 240 0 lv [] h P := by
  obtain ⟨w_17, w_18, w_19, w_20, w_21, w_24, w_25, w_26⟩ := Wt_f
  obtain ⟨w_a212, w_a213, w_a214, w_a215, -⟩ := Wt_a
  have hhs := hh
  obtain ⟨hh1, hh2, hh3⟩ := hh
  replace hh := hhs
  refine t_0 qrs_0 rfl (ld_a l0) ?_
  have r1 := fF_b h 18
  refine t_0 qrs_1 rfl (pq_gf (y := 18) rfl) ?_
  refine t_2 qrs_4 rfl (w := (px_s1 lv 1 (oI (fF h 18)), [])) rfl ?_
  replace l0 : px_lg (px_s1 lv 1 (oI (fF h 18))) 0 = some (pvR 196) := s1_ne (by decide) (fun _ => rfl) l0
  have l1 : px_lg (px_s1 lv 1 (oI (fF h 18))) 1 = some (oI (fF h 18)) := s1_eq
  generalize px_s1 lv 1 (oI (fF h 18)) = lv2 at l0 l1 ⊢
  show t_X d 240 5 lv2 [] h P
  refine t_0 qrs_5 rfl (ld_a l0) ?_
  refine t_0 qrs_6 rfl rfl ?_
  refine tw_f qrs_7 rfl hJ w_21 gf_21 (by decide) ⟨by omega, by omega⟩ (fun g3 hJ3 v3 f3 a3 => ?_)
  replace a3 := fA_2 a3
  have q3_18 := f3 18 (by decide)
  have q3_19 := f3 19 (by decide)
  have q3_25 := f3 25 (by decide)
  have q3_26 := f3 26 (by decide)
  show t_X d 240 10 lv2 [] g3 P
  exact rs_loop hd hh h1 h2 rfl 3 _ _ (by omega) hJ3 (by omega) (by omega) (by omega) (by omega) a3 (by omega) l0 l1
set_option maxHeartbeats 4000000 in
theorem rr_p {d : Nat} {h0 h hb : pH} (hj3 : ∀ j : Nat, (j : Int) < fF h 26 → 0 ≤ fA h 215 j ∧ fA h 215 j ≤ fF h 25) (hj1 : 0 ≤ fF h 25 ∧ 0 ≤ fF h 26 ∧ fF h 26 ≤ 4) {P : Option pv × pH → Prop} (h1 : ∀ g1 : pH, tJ g1 → fF g1 26 = fF h 26 → fF h 18 < fF g1 18 → fF g1 18 ≤ fF g1 19 → fF g1 19 = fF h 19 → J_ Wt h0 g1 → P (some (oI 1), g1)) (hb18 : fF h 18 < fF hb 18 ∧ fF hb 18 ≤ fF hb 19 ∧ fF hb 19 = fF h 19) (hb25 : fF hb 25 = fF h 25) (hb26 : fF hb 26 = fF h 26) (hb215 : fA hb 215 = fA h 215) {f M : Int} (hf : 0 ≤ f ∧ f ≤ 31 ∧ 0 ≤ f + 1 * (M - 1) ∧ f + 1 * (M - 1) ≤ 31) (hM : 1 ≤ M ∧ fF h 25 + M ≤ 60) : ∀ (m k : Nat) (g : pH) (lv : List (Nat × pv)), M - k ≤ m → (k : Int) ≤ M → J_ Wt h0 g → (∀ u, fF g u = fF hb u) → (fA g 215 = fA h 215 ∧ ∀ j : Nat, (j : Int) < fF h 25 + k → 0 ≤ fA g 213 j ∧ fA g 213 j ≤ 31) → px_lg lv 0 = some (pvR 196) → px_lg lv 2 = some (oI f) → px_lg lv 3 = some (oI 1) → px_lg lv 4 = some (oI M) → px_lg lv 5 = some (oI (k : Int)) → t_X d 239 96 lv [] g P := by
  obtain ⟨w_17, w_18, w_19, w_20, w_21, w_24, w_25, w_26⟩ := Wt_f
  obtain ⟨w_a212, w_a213, w_a214, w_a215, -⟩ := Wt_a
  intro m
  induction m with
  | zero =>
    intro k g lv hm hk hJ hF hA l0 l2 l3 l4 l5
    have q18 := hF 18
    have q19 := hF 19
    have q25 := hF 25
    have q26 := hF 26
    refine t_0 qrr_96 rfl (ld_i l5) ?_
    refine t_0 qrr_98 rfl (ld_i l4) ?_
    refine tb_ge qrr_100 (by decide) ⟨by omega, by omega⟩ ⟨by omega, by omega⟩ (fun c1 => ?_) (fun c1 => absurd c1 (by omega))
    show t_X d 239 127 lv [] g P
    refine t_0 qrr_127 rfl (ld_a l0) ?_
    refine t_0 qrr_128 rfl (ld_a l0) ?_
    have r2 := fF_b g 25
    refine t_0 qrr_129 rfl (pq_gf (y := 25) rfl) ?_
    refine t_0 qrr_132 rfl (ld_i l4) ?_
    refine t_0 qrr_134 rfl pq_add ?_
    refine tw_f qrr_135 rfl hJ w_25 gf_25 (by decide) ⟨by omega, by omega⟩ (fun g3 hJ3 v3 f3 a3 => ?_)
    replace a3 := fA_2 a3
    have q3_18 := f3 18 (by decide)
    have q3_19 := f3 19 (by decide)
    have q3_26 := f3 26 (by decide)
    show t_X d 239 138 lv [] g3 P
    refine t_0 qrr_138 rfl rfl ?_
    refine t_5 qrr_139 rfl rfl ?_
    refine h1 _ ⟨by omega, fun j hj => ?_, fun j hj => ?_⟩ (by omega) (by omega) (by omega) (by omega) hJ3
    · rw [a3]
      exact hA.2 j (by omega)
    · rw [a3, hA.1]
      have := hj3 j (by omega)
      omega
  | succ m ih =>
    intro k g lv hm hk hJ hF hA l0 l2 l3 l4 l5
    have q18 := hF 18
    have q19 := hF 19
    have q25 := hF 25
    have q26 := hF 26
    refine t_0 qrr_96 rfl (ld_i l5) ?_
    refine t_0 qrr_98 rfl (ld_i l4) ?_
    refine tb_ge qrr_100 (by decide) ⟨by omega, by omega⟩ ⟨by omega, by omega⟩ (fun c1 => ?_) (fun c1 => ?_)
    · show t_X d 239 127 lv [] g P
      refine t_0 qrr_127 rfl (ld_a l0) ?_
      refine t_0 qrr_128 rfl (ld_a l0) ?_
      have r2 := fF_b g 25
      refine t_0 qrr_129 rfl (pq_gf (y := 25) rfl) ?_
      refine t_0 qrr_132 rfl (ld_i l4) ?_
      refine t_0 qrr_134 rfl pq_add ?_
      refine tw_f qrr_135 rfl hJ w_25 gf_25 (by decide) ⟨by omega, by omega⟩ (fun g3 hJ3 v3 f3 a3 => ?_)
      replace a3 := fA_2 a3
      have q3_18 := f3 18 (by decide)
      have q3_19 := f3 19 (by decide)
      have q3_26 := f3 26 (by decide)
      show t_X d 239 138 lv [] g3 P
      refine t_0 qrr_138 rfl rfl ?_
      refine t_5 qrr_139 rfl rfl ?_
      refine h1 _ ⟨by omega, fun j hj => ?_, fun j hj => ?_⟩ (by omega) (by omega) (by omega) (by omega) hJ3
      · rw [a3]
        exact hA.2 j (by omega)
      · rw [a3, hA.1]
        have := hj3 j (by omega)
        omega
    · show t_X d 239 103 lv [] g P
      refine t_0 qrr_103 rfl (ld_a l0) ?_
      refine t_0 qrr_104 rfl (ar_28 hJ.1) ?_
      refine t_0 qrr_107 rfl (ld_a l0) ?_
      have r4 := fF_b g 25
      refine t_0 qrr_108 rfl (pq_gf (y := 25) rfl) ?_
      refine t_0 qrr_111 rfl (ld_i l5) ?_
      refine t_0 qrr_113 rfl pq_add ?_
      refine t_0 qrr_114 rfl (ld_i l2) ?_
      refine t_0 qrr_115 rfl (ld_i l3) ?_
      refine t_0 qrr_116 rfl (ld_i l5) ?_
      refine t_0 qrr_118 rfl pq_mul ?_
      refine t_0 qrr_119 rfl pq_add ?_
      refine tw_a qrr_120 hJ el_213 rfl w_a213 ga_213 (by decide) ⟨by omega, by omega⟩ ⟨by omega, by omega⟩ (fun g5 hJ5 a5 v5 b5 f5 => ?_)
      replace f5 := fF_1 f5
      have q5_18 := congrFun f5 18
      have q5_19 := congrFun f5 19
      have q5_25 := congrFun f5 25
      have q5_26 := congrFun f5 26
      show t_X d 239 121 lv [] g5 P
      refine t_2 qrr_121 rfl (w := (px_s1 lv 5 (oI ((k : Int) + 1)), [])) (pq_inc l5 (by decide)) ?_
      replace l0 : px_lg (px_s1 lv 5 (oI ((k : Int) + 1))) 0 = some (pvR 196) := s1_ne (by decide) (fun _ => rfl) l0
      replace l2 : px_lg (px_s1 lv 5 (oI ((k : Int) + 1))) 2 = some (oI (f)) := s1_ne (by decide) (fun _ => rfl) l2
      replace l3 : px_lg (px_s1 lv 5 (oI ((k : Int) + 1))) 3 = some (oI (1)) := s1_ne (by decide) (fun _ => rfl) l3
      replace l4 : px_lg (px_s1 lv 5 (oI ((k : Int) + 1))) 4 = some (oI (M)) := s1_ne (by decide) (fun _ => rfl) l4
      have l5 : px_lg (px_s1 lv 5 (oI ((k : Int) + 1))) 5 = some (oI ((k : Int) + 1)) := s1_eq
      generalize px_s1 lv 5 (oI ((k : Int) + 1)) = lv6 at l0 l2 l3 l4 l5 ⊢
      show t_X d 239 124 lv6 [] g5 P
      refine t_1 qrr_124 rfl (pb_goto (pc := 124) (by decide)) ?_
      show t_X d 239 96 lv6 [] g5 P
      refine ih (k + 1) _ _ (by omega) (by omega) hJ5 (fun u => (congrFun f5 u).trans (hF u)) ⟨by rw [a5 215 (by decide)]; exact hA.1, fun j hj => ?_⟩ l0 l2 l3 l4 l5
      by_cases e : j = (fF g 25 + (k : Int)).toNat
      · subst e
        rw [v5]
        omega
      · rw [b5 j e]
        exact hA.2 j (by omega)
set_option maxHeartbeats 4000000 in
theorem rr_m {d : Nat} {h0 h hb : pH} (hj3 : ∀ j : Nat, (j : Int) < fF h 26 → 0 ≤ fA h 215 j ∧ fA h 215 j ≤ fF h 25) (hj1 : 0 ≤ fF h 25 ∧ 0 ≤ fF h 26 ∧ fF h 26 ≤ 4) {P : Option pv × pH → Prop} (h1 : ∀ g1 : pH, tJ g1 → fF g1 26 = fF h 26 → fF h 18 < fF g1 18 → fF g1 18 ≤ fF g1 19 → fF g1 19 = fF h 19 → J_ Wt h0 g1 → P (some (oI 1), g1)) (hb18 : fF h 18 < fF hb 18 ∧ fF hb 18 ≤ fF hb 19 ∧ fF hb 19 = fF h 19) (hb25 : fF hb 25 = fF h 25) (hb26 : fF hb 26 = fF h 26) (hb215 : fA hb 215 = fA h 215) {f M : Int} (hf : 0 ≤ f ∧ f ≤ 31 ∧ 0 ≤ f + (-1) * (M - 1) ∧ f + (-1) * (M - 1) ≤ 31) (hM : 1 ≤ M ∧ fF h 25 + M ≤ 60) : ∀ (m k : Nat) (g : pH) (lv : List (Nat × pv)), M - k ≤ m → (k : Int) ≤ M → J_ Wt h0 g → (∀ u, fF g u = fF hb u) → (fA g 215 = fA h 215 ∧ ∀ j : Nat, (j : Int) < fF h 25 + k → 0 ≤ fA g 213 j ∧ fA g 213 j ≤ 31) → px_lg lv 0 = some (pvR 196) → px_lg lv 2 = some (oI f) → px_lg lv 3 = some (oI (-1)) → px_lg lv 4 = some (oI M) → px_lg lv 5 = some (oI (k : Int)) → t_X d 239 96 lv [] g P := by
  obtain ⟨w_17, w_18, w_19, w_20, w_21, w_24, w_25, w_26⟩ := Wt_f
  obtain ⟨w_a212, w_a213, w_a214, w_a215, -⟩ := Wt_a
  intro m
  induction m with
  | zero =>
    intro k g lv hm hk hJ hF hA l0 l2 l3 l4 l5
    have q18 := hF 18
    have q19 := hF 19
    have q25 := hF 25
    have q26 := hF 26
    refine t_0 qrr_96 rfl (ld_i l5) ?_
    refine t_0 qrr_98 rfl (ld_i l4) ?_
    refine tb_ge qrr_100 (by decide) ⟨by omega, by omega⟩ ⟨by omega, by omega⟩ (fun c1 => ?_) (fun c1 => absurd c1 (by omega))
    show t_X d 239 127 lv [] g P
    refine t_0 qrr_127 rfl (ld_a l0) ?_
    refine t_0 qrr_128 rfl (ld_a l0) ?_
    have r2 := fF_b g 25
    refine t_0 qrr_129 rfl (pq_gf (y := 25) rfl) ?_
    refine t_0 qrr_132 rfl (ld_i l4) ?_
    refine t_0 qrr_134 rfl pq_add ?_
    refine tw_f qrr_135 rfl hJ w_25 gf_25 (by decide) ⟨by omega, by omega⟩ (fun g3 hJ3 v3 f3 a3 => ?_)
    replace a3 := fA_2 a3
    have q3_18 := f3 18 (by decide)
    have q3_19 := f3 19 (by decide)
    have q3_26 := f3 26 (by decide)
    show t_X d 239 138 lv [] g3 P
    refine t_0 qrr_138 rfl rfl ?_
    refine t_5 qrr_139 rfl rfl ?_
    refine h1 _ ⟨by omega, fun j hj => ?_, fun j hj => ?_⟩ (by omega) (by omega) (by omega) (by omega) hJ3
    · rw [a3]
      exact hA.2 j (by omega)
    · rw [a3, hA.1]
      have := hj3 j (by omega)
      omega
  | succ m ih =>
    intro k g lv hm hk hJ hF hA l0 l2 l3 l4 l5
    have q18 := hF 18
    have q19 := hF 19
    have q25 := hF 25
    have q26 := hF 26
    refine t_0 qrr_96 rfl (ld_i l5) ?_
    refine t_0 qrr_98 rfl (ld_i l4) ?_
    refine tb_ge qrr_100 (by decide) ⟨by omega, by omega⟩ ⟨by omega, by omega⟩ (fun c1 => ?_) (fun c1 => ?_)
    · show t_X d 239 127 lv [] g P
      refine t_0 qrr_127 rfl (ld_a l0) ?_
      refine t_0 qrr_128 rfl (ld_a l0) ?_
      have r2 := fF_b g 25
      refine t_0 qrr_129 rfl (pq_gf (y := 25) rfl) ?_
      refine t_0 qrr_132 rfl (ld_i l4) ?_
      refine t_0 qrr_134 rfl pq_add ?_
      refine tw_f qrr_135 rfl hJ w_25 gf_25 (by decide) ⟨by omega, by omega⟩ (fun g3 hJ3 v3 f3 a3 => ?_)
      replace a3 := fA_2 a3
      have q3_18 := f3 18 (by decide)
      have q3_19 := f3 19 (by decide)
      have q3_26 := f3 26 (by decide)
      show t_X d 239 138 lv [] g3 P
      refine t_0 qrr_138 rfl rfl ?_
      refine t_5 qrr_139 rfl rfl ?_
      refine h1 _ ⟨by omega, fun j hj => ?_, fun j hj => ?_⟩ (by omega) (by omega) (by omega) (by omega) hJ3
      · rw [a3]
        exact hA.2 j (by omega)
      · rw [a3, hA.1]
        have := hj3 j (by omega)
        omega
    · show t_X d 239 103 lv [] g P
      refine t_0 qrr_103 rfl (ld_a l0) ?_
      refine t_0 qrr_104 rfl (ar_28 hJ.1) ?_
      refine t_0 qrr_107 rfl (ld_a l0) ?_
      have r4 := fF_b g 25
      refine t_0 qrr_108 rfl (pq_gf (y := 25) rfl) ?_
      refine t_0 qrr_111 rfl (ld_i l5) ?_
      refine t_0 qrr_113 rfl pq_add ?_
      refine t_0 qrr_114 rfl (ld_i l2) ?_
      refine t_0 qrr_115 rfl (ld_i l3) ?_
      refine t_0 qrr_116 rfl (ld_i l5) ?_
      refine t_0 qrr_118 rfl pq_mul ?_
      refine t_0 qrr_119 rfl pq_add ?_
      refine tw_a qrr_120 hJ el_213 rfl w_a213 ga_213 (by decide) ⟨by omega, by omega⟩ ⟨by omega, by omega⟩ (fun g5 hJ5 a5 v5 b5 f5 => ?_)
      replace f5 := fF_1 f5
      have q5_18 := congrFun f5 18
      have q5_19 := congrFun f5 19
      have q5_25 := congrFun f5 25
      have q5_26 := congrFun f5 26
      show t_X d 239 121 lv [] g5 P
      refine t_2 qrr_121 rfl (w := (px_s1 lv 5 (oI ((k : Int) + 1)), [])) (pq_inc l5 (by decide)) ?_
      replace l0 : px_lg (px_s1 lv 5 (oI ((k : Int) + 1))) 0 = some (pvR 196) := s1_ne (by decide) (fun _ => rfl) l0
      replace l2 : px_lg (px_s1 lv 5 (oI ((k : Int) + 1))) 2 = some (oI (f)) := s1_ne (by decide) (fun _ => rfl) l2
      replace l3 : px_lg (px_s1 lv 5 (oI ((k : Int) + 1))) 3 = some (oI ((-1))) := s1_ne (by decide) (fun _ => rfl) l3
      replace l4 : px_lg (px_s1 lv 5 (oI ((k : Int) + 1))) 4 = some (oI (M)) := s1_ne (by decide) (fun _ => rfl) l4
      have l5 : px_lg (px_s1 lv 5 (oI ((k : Int) + 1))) 5 = some (oI ((k : Int) + 1)) := s1_eq
      generalize px_s1 lv 5 (oI ((k : Int) + 1)) = lv6 at l0 l2 l3 l4 l5 ⊢
      show t_X d 239 124 lv6 [] g5 P
      refine t_1 qrr_124 rfl (pb_goto (pc := 124) (by decide)) ?_
      show t_X d 239 96 lv6 [] g5 P
      refine ih (k + 1) _ _ (by omega) (by omega) hJ5 (fun u => (congrFun f5 u).trans (hF u)) ⟨by rw [a5 215 (by decide)]; exact hA.1, fun j hj => ?_⟩ l0 l2 l3 l4 l5
      by_cases e : j = (fF g 25 + (k : Int)).toNat
      · subst e
        rw [v5]
        omega
      · rw [b5 j e]
        exact hA.2 j (by omega)
set_option maxHeartbeats 8000000 in
theorem rr_run {d : Nat} (hd : 3 ≤ d) {h0 g : pH} (hI : tI g) (hT : tJ g) {P : Option pv × pH → Prop} (h1 : ∀ g1 : pH, tJ g1 → fF g1 26 = fF g 26 → fF g 18 < fF g1 18 → fF g1 18 ≤ fF g1 19 → fF g1 19 = fF g 19 → J_ Wt h0 g1 → P (some (oI 1), g1)) (h2 : ∀ g1 : pH, J_ Wt h0 g1 → P (some (oI 0), g1)) (hJ : J_ Wt h0 g) {lv : List (Nat × pv)} (l0 : px_lg lv 0 = some (pvR 196)) : t_X d 239 0 lv [] g P := by
  obtain ⟨w_17, w_18, w_19, w_20, w_21, w_24, w_25, w_26⟩ := Wt_f
  obtain ⟨w_a212, w_a213, w_a214, w_a215, -⟩ := Wt_a
  obtain ⟨hI1, hI2, hI3⟩ := hI
  obtain ⟨hT1, hT2, hT3⟩ := hT
  refine t_0 qrr_0 rfl (ld_a l0) ?_
  have r1 := fF_b g 18
  refine t_0 qrr_1 rfl (pq_gf (y := 18) rfl) ?_
  refine t_2 qrr_4 rfl (w := (px_s1 lv 1 (oI (fF g 18)), [])) rfl ?_
  replace l0 : px_lg (px_s1 lv 1 (oI (fF g 18))) 0 = some (pvR 196) := s1_ne (by decide) (fun _ => rfl) l0
  have l1 : px_lg (px_s1 lv 1 (oI (fF g 18))) 1 = some (oI (fF g 18)) := s1_eq
  generalize px_s1 lv 1 (oI (fF g 18)) = lv2 at l0 l1 ⊢
  show t_X d 239 5 lv2 [] g P
  refine t_0 qrr_5 rfl (ld_a l0) ?_
  refine t_3 qrr_6 rfl (ar := ([pvR 196], [])) (pcal_v0 rfl rfl el_196) ⟨by omega, Nat.le_of_ble_eq_true rfl, Nat.le_of_ble_eq_true rfl, rfl⟩ ?_
  refine rs_run (by omega) (h := g) ⟨by omega, by omega, by omega⟩ (fun g3 p3 u3 x3 y3 z3 n3 a3 hJ3 => ?_) (fun g50003 hJ50003 => ?_) hJ rfl
  · show t_X d 239 9 lv2 [oI (1)] g3 P
    refine tz_ne qrr_9 (by decide) ⟨by omega, by omega⟩ (fun c4 => ?_) (fun c4 => absurd c4 (by omega))
    show t_X d 239 14 lv2 [] g3 P
    refine t_0 qrr_14 rfl (ld_a l0) ?_
    have r5 := fF_b g3 21
    refine t_0 qrr_15 rfl (pq_gf (y := 21) rfl) ?_
    refine t_2 qrr_18 rfl (w := (px_s1 lv2 2 (oI (fF g3 21)), [])) rfl ?_
    replace l0 : px_lg (px_s1 lv2 2 (oI (fF g3 21))) 0 = some (pvR 196) := s1_ne (by decide) (fun _ => rfl) l0
    replace l1 : px_lg (px_s1 lv2 2 (oI (fF g3 21))) 1 = some (oI (fF g 18)) := s1_ne (by decide) (fun _ => rfl) l1
    have l2 : px_lg (px_s1 lv2 2 (oI (fF g3 21))) 2 = some (oI (fF g3 21)) := s1_eq
    generalize px_s1 lv2 2 (oI (fF g3 21)) = lv6 at l0 l1 l2 ⊢
    show t_X d 239 19 lv6 [] g3 P
    refine t_0 qrr_19 rfl (ld_a l0) ?_
    refine t_3 qrr_20 rfl (ar := ([pvR 196], [])) (pcal_v0 rfl rfl el_196) ⟨by omega, Nat.le_of_ble_eq_true rfl, Nat.le_of_ble_eq_true rfl, rfl⟩ ?_
    refine he_run hJ3.1 (by omega) (by omega) ?_ rfl
    have hv7 := hV_b g3
    have hn7 := hV_n g3
    show t_X d 239 23 lv6 [oI (hV g3)] g3 P
    refine t_0 qrr_23 rfl (pq_b (by decide)) ?_
    refine tb_ne qrr_25 (by decide) ⟨by omega, by omega⟩ ⟨by omega, by omega⟩ (fun c8 => ?_) (fun c8 => ?_)
    · show t_X d 239 47 lv6 [] g3 P
      refine t_0 qrr_47 rfl (ld_a l0) ?_
      have r9 := fF_b g3 21
      refine t_0 qrr_48 rfl (pq_gf (y := 21) rfl) ?_
      refine t_0 qrr_51 rfl (ld_i l2) ?_
      refine tb_ge qrr_52 (by decide) ⟨by omega, by omega⟩ ⟨by omega, by omega⟩ (fun c10 => ?_) (fun c10 => ?_)
      · show t_X d 239 59 lv6 [] g3 P
        refine t_0 qrr_59 rfl rfl ?_
        refine t_2 qrr_60 rfl (w := (px_s1 lv6 3 (oI (1)), [])) rfl ?_
        replace l0 : px_lg (px_s1 lv6 3 (oI (1))) 0 = some (pvR 196) := s1_ne (by decide) (fun _ => rfl) l0
        replace l1 : px_lg (px_s1 lv6 3 (oI (1))) 1 = some (oI (fF g 18)) := s1_ne (by decide) (fun _ => rfl) l1
        replace l2 : px_lg (px_s1 lv6 3 (oI (1))) 2 = some (oI (fF g3 21)) := s1_ne (by decide) (fun _ => rfl) l2
        have l3 : px_lg (px_s1 lv6 3 (oI (1))) 3 = some (oI (1)) := s1_eq
        generalize px_s1 lv6 3 (oI (1)) = lv11 at l0 l1 l2 l3 ⊢
        show t_X d 239 61 lv11 [] g3 P
        refine t_0 qrr_61 rfl (ld_a l0) ?_
        have r12 := fF_b g3 21
        refine t_0 qrr_62 rfl (pq_gf (y := 21) rfl) ?_
        refine t_0 qrr_65 rfl (ld_i l2) ?_
        refine t_0 qrr_66 rfl pq_sub ?_
        refine t_0 qrr_67 rfl (ld_i l3) ?_
        refine t_0 qrr_68 rfl pq_mul ?_
        refine t_0 qrr_69 rfl rfl ?_
        refine t_0 qrr_70 rfl pq_add ?_
        refine t_2 qrr_71 rfl (w := (px_s1 lv11 4 (oI ((((fF g3 21) - (fF g3 21)) * 1) + 1)), [])) rfl ?_
        replace l0 : px_lg (px_s1 lv11 4 (oI ((((fF g3 21) - (fF g3 21)) * 1) + 1))) 0 = some (pvR 196) := s1_ne (by decide) (fun _ => rfl) l0
        replace l1 : px_lg (px_s1 lv11 4 (oI ((((fF g3 21) - (fF g3 21)) * 1) + 1))) 1 = some (oI (fF g 18)) := s1_ne (by decide) (fun _ => rfl) l1
        replace l2 : px_lg (px_s1 lv11 4 (oI ((((fF g3 21) - (fF g3 21)) * 1) + 1))) 2 = some (oI (fF g3 21)) := s1_ne (by decide) (fun _ => rfl) l2
        replace l3 : px_lg (px_s1 lv11 4 (oI ((((fF g3 21) - (fF g3 21)) * 1) + 1))) 3 = some (oI (1)) := s1_ne (by decide) (fun _ => rfl) l3
        have l4 : px_lg (px_s1 lv11 4 (oI ((((fF g3 21) - (fF g3 21)) * 1) + 1))) 4 = some (oI ((((fF g3 21) - (fF g3 21)) * 1) + 1)) := s1_eq
        generalize px_s1 lv11 4 (oI ((((fF g3 21) - (fF g3 21)) * 1) + 1)) = lv13 at l0 l1 l2 l3 l4 ⊢
        show t_X d 239 73 lv13 [] g3 P
        refine t_0 qrr_73 rfl (ld_a l0) ?_
        have r14 := fF_b g3 25
        refine t_0 qrr_74 rfl (pq_gf (y := 25) rfl) ?_
        refine t_0 qrr_77 rfl (ld_i l4) ?_
        refine t_0 qrr_79 rfl pq_add ?_
        refine t_0 qrr_80 rfl (pq_b (by decide)) ?_
        refine tb_le qrr_82 (by decide) ⟨by omega, by omega⟩ ⟨by omega, by omega⟩ (fun c15 => ?_) (fun c15 => ?_)
        · show t_X d 239 93 lv13 [] g3 P
          refine t_0 qrr_93 rfl rfl ?_
          refine t_2 qrr_94 rfl (w := (px_s1 lv13 5 (oI (0)), [])) rfl ?_
          replace l0 : px_lg (px_s1 lv13 5 (oI (0))) 0 = some (pvR 196) := s1_ne (by decide) (fun _ => rfl) l0
          replace l1 : px_lg (px_s1 lv13 5 (oI (0))) 1 = some (oI (fF g 18)) := s1_ne (by decide) (fun _ => rfl) l1
          replace l2 : px_lg (px_s1 lv13 5 (oI (0))) 2 = some (oI (fF g3 21)) := s1_ne (by decide) (fun _ => rfl) l2
          replace l3 : px_lg (px_s1 lv13 5 (oI (0))) 3 = some (oI (1)) := s1_ne (by decide) (fun _ => rfl) l3
          replace l4 : px_lg (px_s1 lv13 5 (oI (0))) 4 = some (oI ((((fF g3 21) - (fF g3 21)) * 1) + 1)) := s1_ne (by decide) (fun _ => rfl) l4
          have l5 : px_lg (px_s1 lv13 5 (oI (0))) 5 = some (oI (0)) := s1_eq
          generalize px_s1 lv13 5 (oI (0)) = lv16 at l0 l1 l2 l3 l4 l5 ⊢
          show t_X d 239 96 lv16 [] g3 P
          have ea : fA g3 = fA g := by rw [a3]
          exact rr_p hT3 (by omega) h1 (hb := g3) ⟨by omega, by omega, by omega⟩ (by omega) (by omega) (by rw [ea]) (f := fF g3 21) (M := (((fF g3 21) - (fF g3 21)) * 1) + 1) (by omega) (by omega) 60 0 _ _ (by omega) (by omega) hJ3 (fun _ => rfl) ⟨by rw [ea], fun j hj => by rw [ea]; exact hT2 j (by omega)⟩ l0 l2 l3 l4 l5
        · show t_X d 239 85 lv13 [] g3 P
          refine t_0 qrr_85 rfl (ld_a l0) ?_
          refine t_0 qrr_86 rfl (pq_b (by decide)) ?_
          refine t_0 qrr_88 rfl (ld_i l1) ?_
          refine t_3 qrr_89 rfl (ar := ([pvR 196, oI (6), oI (fF g 18)], [])) (pcal_v2 rfl rfl el_196) ⟨by omega, Nat.le_of_ble_eq_true rfl, Nat.le_of_ble_eq_true rfl, rfl⟩ ?_
          refine wr_run hJ3 w_20 (fun g17 hJ17 f17 a17 => ?_) rfl rfl rfl
          have q17_18 := f17 18 (by decide)
          have q17_19 := f17 19 (by decide)
          have q17_25 := f17 25 (by decide)
          have q17_26 := f17 26 (by decide)
          show t_X d 239 92 lv13 [oI (0)] g17 P
          refine t_5 qrr_92 rfl rfl ?_
          exact h2 _ hJ17
      · show t_X d 239 55 lv6 [] g3 P
        refine t_0 qrr_55 rfl rfl ?_
        refine t_1 qrr_56 rfl (pb_goto (pc := 56) (by decide)) ?_
        show t_X d 239 60 lv6 [oI ((-1))] g3 P
        refine t_2 qrr_60 rfl (w := (px_s1 lv6 3 (oI ((-1))), [])) rfl ?_
        replace l0 : px_lg (px_s1 lv6 3 (oI ((-1)))) 0 = some (pvR 196) := s1_ne (by decide) (fun _ => rfl) l0
        replace l1 : px_lg (px_s1 lv6 3 (oI ((-1)))) 1 = some (oI (fF g 18)) := s1_ne (by decide) (fun _ => rfl) l1
        replace l2 : px_lg (px_s1 lv6 3 (oI ((-1)))) 2 = some (oI (fF g3 21)) := s1_ne (by decide) (fun _ => rfl) l2
        have l3 : px_lg (px_s1 lv6 3 (oI ((-1)))) 3 = some (oI ((-1))) := s1_eq
        generalize px_s1 lv6 3 (oI ((-1))) = lv18 at l0 l1 l2 l3 ⊢
        show t_X d 239 61 lv18 [] g3 P
        refine t_0 qrr_61 rfl (ld_a l0) ?_
        have r19 := fF_b g3 21
        refine t_0 qrr_62 rfl (pq_gf (y := 21) rfl) ?_
        refine t_0 qrr_65 rfl (ld_i l2) ?_
        refine t_0 qrr_66 rfl pq_sub ?_
        refine t_0 qrr_67 rfl (ld_i l3) ?_
        refine t_0 qrr_68 rfl pq_mul ?_
        refine t_0 qrr_69 rfl rfl ?_
        refine t_0 qrr_70 rfl pq_add ?_
        refine t_2 qrr_71 rfl (w := (px_s1 lv18 4 (oI ((((fF g3 21) - (fF g3 21)) * (-1)) + 1)), [])) rfl ?_
        replace l0 : px_lg (px_s1 lv18 4 (oI ((((fF g3 21) - (fF g3 21)) * (-1)) + 1))) 0 = some (pvR 196) := s1_ne (by decide) (fun _ => rfl) l0
        replace l1 : px_lg (px_s1 lv18 4 (oI ((((fF g3 21) - (fF g3 21)) * (-1)) + 1))) 1 = some (oI (fF g 18)) := s1_ne (by decide) (fun _ => rfl) l1
        replace l2 : px_lg (px_s1 lv18 4 (oI ((((fF g3 21) - (fF g3 21)) * (-1)) + 1))) 2 = some (oI (fF g3 21)) := s1_ne (by decide) (fun _ => rfl) l2
        replace l3 : px_lg (px_s1 lv18 4 (oI ((((fF g3 21) - (fF g3 21)) * (-1)) + 1))) 3 = some (oI ((-1))) := s1_ne (by decide) (fun _ => rfl) l3
        have l4 : px_lg (px_s1 lv18 4 (oI ((((fF g3 21) - (fF g3 21)) * (-1)) + 1))) 4 = some (oI ((((fF g3 21) - (fF g3 21)) * (-1)) + 1)) := s1_eq
        generalize px_s1 lv18 4 (oI ((((fF g3 21) - (fF g3 21)) * (-1)) + 1)) = lv20 at l0 l1 l2 l3 l4 ⊢
        show t_X d 239 73 lv20 [] g3 P
        refine t_0 qrr_73 rfl (ld_a l0) ?_
        have r21 := fF_b g3 25
        refine t_0 qrr_74 rfl (pq_gf (y := 25) rfl) ?_
        refine t_0 qrr_77 rfl (ld_i l4) ?_
        refine t_0 qrr_79 rfl pq_add ?_
        refine t_0 qrr_80 rfl (pq_b (by decide)) ?_
        refine tb_le qrr_82 (by decide) ⟨by omega, by omega⟩ ⟨by omega, by omega⟩ (fun c22 => ?_) (fun c22 => ?_)
        · show t_X d 239 93 lv20 [] g3 P
          refine t_0 qrr_93 rfl rfl ?_
          refine t_2 qrr_94 rfl (w := (px_s1 lv20 5 (oI (0)), [])) rfl ?_
          replace l0 : px_lg (px_s1 lv20 5 (oI (0))) 0 = some (pvR 196) := s1_ne (by decide) (fun _ => rfl) l0
          replace l1 : px_lg (px_s1 lv20 5 (oI (0))) 1 = some (oI (fF g 18)) := s1_ne (by decide) (fun _ => rfl) l1
          replace l2 : px_lg (px_s1 lv20 5 (oI (0))) 2 = some (oI (fF g3 21)) := s1_ne (by decide) (fun _ => rfl) l2
          replace l3 : px_lg (px_s1 lv20 5 (oI (0))) 3 = some (oI ((-1))) := s1_ne (by decide) (fun _ => rfl) l3
          replace l4 : px_lg (px_s1 lv20 5 (oI (0))) 4 = some (oI ((((fF g3 21) - (fF g3 21)) * (-1)) + 1)) := s1_ne (by decide) (fun _ => rfl) l4
          have l5 : px_lg (px_s1 lv20 5 (oI (0))) 5 = some (oI (0)) := s1_eq
          generalize px_s1 lv20 5 (oI (0)) = lv23 at l0 l1 l2 l3 l4 l5 ⊢
          show t_X d 239 96 lv23 [] g3 P
          have ea : fA g3 = fA g := by rw [a3]
          exact rr_m hT3 (by omega) h1 (hb := g3) ⟨by omega, by omega, by omega⟩ (by omega) (by omega) (by rw [ea]) (f := fF g3 21) (M := (((fF g3 21) - (fF g3 21)) * (-1)) + 1) (by omega) (by omega) 60 0 _ _ (by omega) (by omega) hJ3 (fun _ => rfl) ⟨by rw [ea], fun j hj => by rw [ea]; exact hT2 j (by omega)⟩ l0 l2 l3 l4 l5
        · show t_X d 239 85 lv20 [] g3 P
          refine t_0 qrr_85 rfl (ld_a l0) ?_
          refine t_0 qrr_86 rfl (pq_b (by decide)) ?_
          refine t_0 qrr_88 rfl (ld_i l1) ?_
          refine t_3 qrr_89 rfl (ar := ([pvR 196, oI (6), oI (fF g 18)], [])) (pcal_v2 rfl rfl el_196) ⟨by omega, Nat.le_of_ble_eq_true rfl, Nat.le_of_ble_eq_true rfl, rfl⟩ ?_
          refine wr_run hJ3 w_20 (fun g24 hJ24 f24 a24 => ?_) rfl rfl rfl
          have q24_18 := f24 18 (by decide)
          have q24_19 := f24 19 (by decide)
          have q24_25 := f24 25 (by decide)
          have q24_26 := f24 26 (by decide)
          show t_X d 239 92 lv20 [oI (0)] g24 P
          refine t_5 qrr_92 rfl rfl ?_
          exact h2 _ hJ24
    · show t_X d 239 28 lv6 [] g3 P
      refine t_0 qrr_28 rfl (ld_a l0) ?_
      refine t_0 qrr_29 rfl (ld_a l0) ?_
      have r25 := fF_b g3 18
      refine t_0 qrr_30 rfl (pq_gf (y := 18) rfl) ?_
      refine t_0 qrr_33 rfl rfl ?_
      refine t_0 qrr_34 rfl pq_add ?_
      refine tw_f qrr_35 rfl hJ3 w_18 gf_18 (by decide) ⟨by omega, by omega⟩ (fun g26 hJ26 v26 f26 a26 => ?_)
      replace a26 := fA_2 a26
      have q26_19 := f26 19 (by decide)
      have q26_25 := f26 25 (by decide)
      have q26_26 := f26 26 (by decide)
      show t_X d 239 38 lv6 [] g26 P
      refine t_0 qrr_38 rfl (ld_a l0) ?_
      refine t_3 qrr_39 rfl (ar := ([pvR 196], [])) (pcal_v0 rfl rfl el_196) ⟨by omega, Nat.le_of_ble_eq_true rfl, Nat.le_of_ble_eq_true rfl, rfl⟩ ?_
      refine rs_run (by omega) (h := g26) ⟨by omega, by omega, by omega⟩ (fun g27 p27 u27 x27 y27 z27 n27 a27 hJ27 => ?_) (fun g50027 hJ50027 => ?_) hJ26 rfl
      · show t_X d 239 42 lv6 [oI (1)] g27 P
        refine tz_ne qrr_42 (by decide) ⟨by omega, by omega⟩ (fun c28 => ?_) (fun c28 => absurd c28 (by omega))
        show t_X d 239 47 lv6 [] g27 P
        refine t_0 qrr_47 rfl (ld_a l0) ?_
        have r29 := fF_b g27 21
        refine t_0 qrr_48 rfl (pq_gf (y := 21) rfl) ?_
        refine t_0 qrr_51 rfl (ld_i l2) ?_
        refine tb_ge qrr_52 (by decide) ⟨by omega, by omega⟩ ⟨by omega, by omega⟩ (fun c30 => ?_) (fun c30 => ?_)
        · show t_X d 239 59 lv6 [] g27 P
          refine t_0 qrr_59 rfl rfl ?_
          refine t_2 qrr_60 rfl (w := (px_s1 lv6 3 (oI (1)), [])) rfl ?_
          replace l0 : px_lg (px_s1 lv6 3 (oI (1))) 0 = some (pvR 196) := s1_ne (by decide) (fun _ => rfl) l0
          replace l1 : px_lg (px_s1 lv6 3 (oI (1))) 1 = some (oI (fF g 18)) := s1_ne (by decide) (fun _ => rfl) l1
          replace l2 : px_lg (px_s1 lv6 3 (oI (1))) 2 = some (oI (fF g3 21)) := s1_ne (by decide) (fun _ => rfl) l2
          have l3 : px_lg (px_s1 lv6 3 (oI (1))) 3 = some (oI (1)) := s1_eq
          generalize px_s1 lv6 3 (oI (1)) = lv31 at l0 l1 l2 l3 ⊢
          show t_X d 239 61 lv31 [] g27 P
          refine t_0 qrr_61 rfl (ld_a l0) ?_
          have r32 := fF_b g27 21
          refine t_0 qrr_62 rfl (pq_gf (y := 21) rfl) ?_
          refine t_0 qrr_65 rfl (ld_i l2) ?_
          refine t_0 qrr_66 rfl pq_sub ?_
          refine t_0 qrr_67 rfl (ld_i l3) ?_
          refine t_0 qrr_68 rfl pq_mul ?_
          refine t_0 qrr_69 rfl rfl ?_
          refine t_0 qrr_70 rfl pq_add ?_
          refine t_2 qrr_71 rfl (w := (px_s1 lv31 4 (oI ((((fF g27 21) - (fF g3 21)) * 1) + 1)), [])) rfl ?_
          replace l0 : px_lg (px_s1 lv31 4 (oI ((((fF g27 21) - (fF g3 21)) * 1) + 1))) 0 = some (pvR 196) := s1_ne (by decide) (fun _ => rfl) l0
          replace l1 : px_lg (px_s1 lv31 4 (oI ((((fF g27 21) - (fF g3 21)) * 1) + 1))) 1 = some (oI (fF g 18)) := s1_ne (by decide) (fun _ => rfl) l1
          replace l2 : px_lg (px_s1 lv31 4 (oI ((((fF g27 21) - (fF g3 21)) * 1) + 1))) 2 = some (oI (fF g3 21)) := s1_ne (by decide) (fun _ => rfl) l2
          replace l3 : px_lg (px_s1 lv31 4 (oI ((((fF g27 21) - (fF g3 21)) * 1) + 1))) 3 = some (oI (1)) := s1_ne (by decide) (fun _ => rfl) l3
          have l4 : px_lg (px_s1 lv31 4 (oI ((((fF g27 21) - (fF g3 21)) * 1) + 1))) 4 = some (oI ((((fF g27 21) - (fF g3 21)) * 1) + 1)) := s1_eq
          generalize px_s1 lv31 4 (oI ((((fF g27 21) - (fF g3 21)) * 1) + 1)) = lv33 at l0 l1 l2 l3 l4 ⊢
          show t_X d 239 73 lv33 [] g27 P
          refine t_0 qrr_73 rfl (ld_a l0) ?_
          have r34 := fF_b g27 25
          refine t_0 qrr_74 rfl (pq_gf (y := 25) rfl) ?_
          refine t_0 qrr_77 rfl (ld_i l4) ?_
          refine t_0 qrr_79 rfl pq_add ?_
          refine t_0 qrr_80 rfl (pq_b (by decide)) ?_
          refine tb_le qrr_82 (by decide) ⟨by omega, by omega⟩ ⟨by omega, by omega⟩ (fun c35 => ?_) (fun c35 => ?_)
          · show t_X d 239 93 lv33 [] g27 P
            refine t_0 qrr_93 rfl rfl ?_
            refine t_2 qrr_94 rfl (w := (px_s1 lv33 5 (oI (0)), [])) rfl ?_
            replace l0 : px_lg (px_s1 lv33 5 (oI (0))) 0 = some (pvR 196) := s1_ne (by decide) (fun _ => rfl) l0
            replace l1 : px_lg (px_s1 lv33 5 (oI (0))) 1 = some (oI (fF g 18)) := s1_ne (by decide) (fun _ => rfl) l1
            replace l2 : px_lg (px_s1 lv33 5 (oI (0))) 2 = some (oI (fF g3 21)) := s1_ne (by decide) (fun _ => rfl) l2
            replace l3 : px_lg (px_s1 lv33 5 (oI (0))) 3 = some (oI (1)) := s1_ne (by decide) (fun _ => rfl) l3
            replace l4 : px_lg (px_s1 lv33 5 (oI (0))) 4 = some (oI ((((fF g27 21) - (fF g3 21)) * 1) + 1)) := s1_ne (by decide) (fun _ => rfl) l4
            have l5 : px_lg (px_s1 lv33 5 (oI (0))) 5 = some (oI (0)) := s1_eq
            generalize px_s1 lv33 5 (oI (0)) = lv36 at l0 l1 l2 l3 l4 l5 ⊢
            show t_X d 239 96 lv36 [] g27 P
            have ea : fA g27 = fA g := by rw [a27, a26, a3]
            exact rr_p hT3 (by omega) h1 (hb := g27) ⟨by omega, by omega, by omega⟩ (by omega) (by omega) (by rw [ea]) (f := fF g3 21) (M := (((fF g27 21) - (fF g3 21)) * 1) + 1) (by omega) (by omega) 60 0 _ _ (by omega) (by omega) hJ27 (fun _ => rfl) ⟨by rw [ea], fun j hj => by rw [ea]; exact hT2 j (by omega)⟩ l0 l2 l3 l4 l5
          · show t_X d 239 85 lv33 [] g27 P
            refine t_0 qrr_85 rfl (ld_a l0) ?_
            refine t_0 qrr_86 rfl (pq_b (by decide)) ?_
            refine t_0 qrr_88 rfl (ld_i l1) ?_
            refine t_3 qrr_89 rfl (ar := ([pvR 196, oI (6), oI (fF g 18)], [])) (pcal_v2 rfl rfl el_196) ⟨by omega, Nat.le_of_ble_eq_true rfl, Nat.le_of_ble_eq_true rfl, rfl⟩ ?_
            refine wr_run hJ27 w_20 (fun g37 hJ37 f37 a37 => ?_) rfl rfl rfl
            have q37_18 := f37 18 (by decide)
            have q37_19 := f37 19 (by decide)
            have q37_25 := f37 25 (by decide)
            have q37_26 := f37 26 (by decide)
            show t_X d 239 92 lv33 [oI (0)] g37 P
            refine t_5 qrr_92 rfl rfl ?_
            exact h2 _ hJ37
        · show t_X d 239 55 lv6 [] g27 P
          refine t_0 qrr_55 rfl rfl ?_
          refine t_1 qrr_56 rfl (pb_goto (pc := 56) (by decide)) ?_
          show t_X d 239 60 lv6 [oI ((-1))] g27 P
          refine t_2 qrr_60 rfl (w := (px_s1 lv6 3 (oI ((-1))), [])) rfl ?_
          replace l0 : px_lg (px_s1 lv6 3 (oI ((-1)))) 0 = some (pvR 196) := s1_ne (by decide) (fun _ => rfl) l0
          replace l1 : px_lg (px_s1 lv6 3 (oI ((-1)))) 1 = some (oI (fF g 18)) := s1_ne (by decide) (fun _ => rfl) l1
          replace l2 : px_lg (px_s1 lv6 3 (oI ((-1)))) 2 = some (oI (fF g3 21)) := s1_ne (by decide) (fun _ => rfl) l2
          have l3 : px_lg (px_s1 lv6 3 (oI ((-1)))) 3 = some (oI ((-1))) := s1_eq
          generalize px_s1 lv6 3 (oI ((-1))) = lv38 at l0 l1 l2 l3 ⊢
          show t_X d 239 61 lv38 [] g27 P
          refine t_0 qrr_61 rfl (ld_a l0) ?_
          have r39 := fF_b g27 21
          refine t_0 qrr_62 rfl (pq_gf (y := 21) rfl) ?_
          refine t_0 qrr_65 rfl (ld_i l2) ?_
          refine t_0 qrr_66 rfl pq_sub ?_
          refine t_0 qrr_67 rfl (ld_i l3) ?_
          refine t_0 qrr_68 rfl pq_mul ?_
          refine t_0 qrr_69 rfl rfl ?_
          refine t_0 qrr_70 rfl pq_add ?_
          refine t_2 qrr_71 rfl (w := (px_s1 lv38 4 (oI ((((fF g27 21) - (fF g3 21)) * (-1)) + 1)), [])) rfl ?_
          replace l0 : px_lg (px_s1 lv38 4 (oI ((((fF g27 21) - (fF g3 21)) * (-1)) + 1))) 0 = some (pvR 196) := s1_ne (by decide) (fun _ => rfl) l0
          replace l1 : px_lg (px_s1 lv38 4 (oI ((((fF g27 21) - (fF g3 21)) * (-1)) + 1))) 1 = some (oI (fF g 18)) := s1_ne (by decide) (fun _ => rfl) l1
          replace l2 : px_lg (px_s1 lv38 4 (oI ((((fF g27 21) - (fF g3 21)) * (-1)) + 1))) 2 = some (oI (fF g3 21)) := s1_ne (by decide) (fun _ => rfl) l2
          replace l3 : px_lg (px_s1 lv38 4 (oI ((((fF g27 21) - (fF g3 21)) * (-1)) + 1))) 3 = some (oI ((-1))) := s1_ne (by decide) (fun _ => rfl) l3
          have l4 : px_lg (px_s1 lv38 4 (oI ((((fF g27 21) - (fF g3 21)) * (-1)) + 1))) 4 = some (oI ((((fF g27 21) - (fF g3 21)) * (-1)) + 1)) := s1_eq
          generalize px_s1 lv38 4 (oI ((((fF g27 21) - (fF g3 21)) * (-1)) + 1)) = lv40 at l0 l1 l2 l3 l4 ⊢
          show t_X d 239 73 lv40 [] g27 P
          refine t_0 qrr_73 rfl (ld_a l0) ?_
          have r41 := fF_b g27 25
          refine t_0 qrr_74 rfl (pq_gf (y := 25) rfl) ?_
          refine t_0 qrr_77 rfl (ld_i l4) ?_
          refine t_0 qrr_79 rfl pq_add ?_
          refine t_0 qrr_80 rfl (pq_b (by decide)) ?_
          refine tb_le qrr_82 (by decide) ⟨by omega, by omega⟩ ⟨by omega, by omega⟩ (fun c42 => ?_) (fun c42 => ?_)
          · show t_X d 239 93 lv40 [] g27 P
            refine t_0 qrr_93 rfl rfl ?_
            refine t_2 qrr_94 rfl (w := (px_s1 lv40 5 (oI (0)), [])) rfl ?_
            replace l0 : px_lg (px_s1 lv40 5 (oI (0))) 0 = some (pvR 196) := s1_ne (by decide) (fun _ => rfl) l0
            replace l1 : px_lg (px_s1 lv40 5 (oI (0))) 1 = some (oI (fF g 18)) := s1_ne (by decide) (fun _ => rfl) l1
            replace l2 : px_lg (px_s1 lv40 5 (oI (0))) 2 = some (oI (fF g3 21)) := s1_ne (by decide) (fun _ => rfl) l2
            replace l3 : px_lg (px_s1 lv40 5 (oI (0))) 3 = some (oI ((-1))) := s1_ne (by decide) (fun _ => rfl) l3
            replace l4 : px_lg (px_s1 lv40 5 (oI (0))) 4 = some (oI ((((fF g27 21) - (fF g3 21)) * (-1)) + 1)) := s1_ne (by decide) (fun _ => rfl) l4
            have l5 : px_lg (px_s1 lv40 5 (oI (0))) 5 = some (oI (0)) := s1_eq
            generalize px_s1 lv40 5 (oI (0)) = lv43 at l0 l1 l2 l3 l4 l5 ⊢
            show t_X d 239 96 lv43 [] g27 P
            have ea : fA g27 = fA g := by rw [a27, a26, a3]
            exact rr_m hT3 (by omega) h1 (hb := g27) ⟨by omega, by omega, by omega⟩ (by omega) (by omega) (by rw [ea]) (f := fF g3 21) (M := (((fF g27 21) - (fF g3 21)) * (-1)) + 1) (by omega) (by omega) 60 0 _ _ (by omega) (by omega) hJ27 (fun _ => rfl) ⟨by rw [ea], fun j hj => by rw [ea]; exact hT2 j (by omega)⟩ l0 l2 l3 l4 l5
          · show t_X d 239 85 lv40 [] g27 P
            refine t_0 qrr_85 rfl (ld_a l0) ?_
            refine t_0 qrr_86 rfl (pq_b (by decide)) ?_
            refine t_0 qrr_88 rfl (ld_i l1) ?_
            refine t_3 qrr_89 rfl (ar := ([pvR 196, oI (6), oI (fF g 18)], [])) (pcal_v2 rfl rfl el_196) ⟨by omega, Nat.le_of_ble_eq_true rfl, Nat.le_of_ble_eq_true rfl, rfl⟩ ?_
            refine wr_run hJ27 w_20 (fun g44 hJ44 f44 a44 => ?_) rfl rfl rfl
            have q44_18 := f44 18 (by decide)
            have q44_19 := f44 19 (by decide)
            have q44_25 := f44 25 (by decide)
            have q44_26 := f44 26 (by decide)
            show t_X d 239 92 lv40 [oI (0)] g44 P
            refine t_5 qrr_92 rfl rfl ?_
            exact h2 _ hJ44
      · show t_X d 239 42 lv6 [oI (0)] g50027 P
        refine tz_ne qrr_42 (by decide) ⟨by omega, by omega⟩ (fun c45 => absurd c45 (by omega)) (fun c45 => ?_)
        show t_X d 239 45 lv6 [] g50027 P
        refine t_0 qrr_45 rfl rfl ?_
        refine t_5 qrr_46 rfl rfl ?_
        exact h2 _ hJ50027
  · show t_X d 239 9 lv2 [oI (0)] g50003 P
    refine tz_ne qrr_9 (by decide) ⟨by omega, by omega⟩ (fun c46 => absurd c46 (by omega)) (fun c46 => ?_)
    show t_X d 239 12 lv2 [] g50003 P
    refine t_0 qrr_12 rfl rfl ?_
    refine t_5 qrr_13 rfl rfl ?_
    exact h2 _ hJ50003
set_option maxHeartbeats 4000000 in
theorem og_run {d : Nat} (hd : 3 ≤ d) {h0 g : pH} (hI : tI g) (hlt : fF g 18 < fF g 19) (hT : tJ g) {P : Option pv × pH → Prop} (h1 : ∀ g1 : pH, tJ g1 → fF g 18 < fF g1 18 → fF g1 18 ≤ fF g1 19 → fF g1 19 = fF g 19 → J_ Wt h0 g1 → P (some (oI 1), g1)) (h2 : ∀ g1 : pH, J_ Wt h0 g1 → P (some (oI 0), g1)) (hJ : J_ Wt h0 g) {lv : List (Nat × pv)} (l0 : px_lg lv 0 = some (pvR 196)) : t_X d 230 0 lv [] g P := by
  obtain ⟨w_17, w_18, w_19, w_20, w_21, w_24, w_25, w_26⟩ := Wt_f
  obtain ⟨w_a212, w_a213, w_a214, w_a215, -⟩ := Wt_a
  obtain ⟨hI1, hI2, hI3⟩ := hI
  obtain ⟨hT1, hT2, hT3⟩ := hT
  refine t_0 qog_0 rfl (ld_a l0) ?_
  have r1 := fF_b g 26
  refine t_0 qog_1 rfl (pq_gf (y := 26) rfl) ?_
  refine t_0 qog_4 rfl rfl ?_
  refine tb_ne qog_5 (by decide) ⟨by omega, by omega⟩ ⟨by omega, by omega⟩ (fun c2 => ?_) (fun c2 => ?_)
  · show t_X d 230 18 lv [] g P
    refine t_0 qog_18 rfl (ld_a l0) ?_
    refine t_0 qog_19 rfl (ar_29 hJ.1) ?_
    refine t_0 qog_22 rfl (ld_a l0) ?_
    have r3 := fF_b g 26
    refine t_0 qog_23 rfl (pq_gf (y := 26) rfl) ?_
    refine t_0 qog_26 rfl (ld_a l0) ?_
    have r4 := fF_b g 18
    refine t_0 qog_27 rfl (pq_gf (y := 18) rfl) ?_
    refine tw_a qog_30 hJ el_214 rfl w_a214 ga_214 (by decide) ⟨by omega, by omega⟩ ⟨by omega, by omega⟩ (fun g5 hJ5 a5 v5 b5 f5 => ?_)
    replace f5 := fF_1 f5
    have q5_18 := congrFun f5 18
    have q5_19 := congrFun f5 19
    have q5_25 := congrFun f5 25
    have q5_26 := congrFun f5 26
    show t_X d 230 31 lv [] g5 P
    refine t_0 qog_31 rfl (ld_a l0) ?_
    refine t_0 qog_32 rfl (ar_30 hJ5.1) ?_
    refine t_0 qog_35 rfl (ld_a l0) ?_
    have r6 := fF_b g5 26
    refine t_0 qog_36 rfl (pq_gf (y := 26) rfl) ?_
    refine t_0 qog_39 rfl (ld_a l0) ?_
    have r7 := fF_b g5 25
    refine t_0 qog_40 rfl (pq_gf (y := 25) rfl) ?_
    refine tw_a qog_43 hJ5 el_215 rfl w_a215 ga_215 (by decide) ⟨by omega, by omega⟩ ⟨by omega, by omega⟩ (fun g8 hJ8 a8 v8 b8 f8 => ?_)
    replace f8 := fF_1 f8
    have q8_18 := congrFun f8 18
    have q8_19 := congrFun f8 19
    have q8_25 := congrFun f8 25
    have q8_26 := congrFun f8 26
    show t_X d 230 44 lv [] g8 P
    refine t_0 qog_44 rfl (ld_a l0) ?_
    refine t_0 qog_45 rfl (ld_a l0) ?_
    have r9 := fF_b g8 26
    refine t_0 qog_46 rfl (pq_gf (y := 26) rfl) ?_
    refine t_0 qog_49 rfl rfl ?_
    refine t_0 qog_50 rfl pq_add ?_
    refine tw_f qog_51 rfl hJ8 w_26 gf_26 (by decide) ⟨by omega, by omega⟩ (fun g10 hJ10 v10 f10 a10 => ?_)
    replace a10 := fA_2 a10
    have q10_18 := f10 18 (by decide)
    have q10_19 := f10 19 (by decide)
    have q10_25 := f10 25 (by decide)
    show t_X d 230 54 lv [] g10 P
    refine t_0 qog_54 rfl (ld_a l0) ?_
    refine t_0 qog_55 rfl (ld_a l0) ?_
    have r11 := fF_b g10 18
    refine t_0 qog_56 rfl (pq_gf (y := 18) rfl) ?_
    refine t_0 qog_59 rfl rfl ?_
    refine t_0 qog_60 rfl pq_add ?_
    refine tw_f qog_61 rfl hJ10 w_18 gf_18 (by decide) ⟨by omega, by omega⟩ (fun g12 hJ12 v12 f12 a12 => ?_)
    replace a12 := fA_2 a12
    have q12_19 := f12 19 (by decide)
    have q12_25 := f12 25 (by decide)
    have q12_26 := f12 26 (by decide)
    show t_X d 230 64 lv [] g12 P
    refine t_0 qog_64 rfl rfl ?_
    refine t_5 qog_65 rfl rfl ?_
    have e213 : fA g12 213 = fA g 213 := by rw [a12, a10, a8 213 (by decide), a5 213 (by decide)]
    have e215 : ∀ u, u ≠ (fF g5 26).toNat → fA g12 215 u = fA g 215 u := fun u hu => by rw [a12, a10, b8 u hu, a5 215 (by decide)]
    have e2 : fA g12 215 (fF g5 26).toNat = fF g5 25 := by rw [a12, a10, v8]
    refine h1 _ ⟨by omega, fun j hj => by rw [e213]; have := hT2 j (by omega); omega, fun j hj => ?_⟩ (by omega) (by omega) (by omega) hJ12
    by_cases e : j = (fF g5 26).toNat
    · rw [e, e2]
      omega
    · rw [e215 j e]
      have := hT3 j (by omega)
      omega
  · show t_X d 230 8 lv [] g P
    refine t_0 qog_8 rfl (ld_a l0) ?_
    refine t_0 qog_9 rfl rfl ?_
    refine t_0 qog_10 rfl (ld_a l0) ?_
    have r13 := fF_b g 18
    refine t_0 qog_11 rfl (pq_gf (y := 18) rfl) ?_
    refine t_3 qog_14 rfl (ar := ([pvR 196, oI (5), oI (fF g 18)], [])) (pcal_v2 rfl rfl el_196) ⟨by omega, Nat.le_of_ble_eq_true rfl, Nat.le_of_ble_eq_true rfl, rfl⟩ ?_
    refine wr_run hJ w_20 (fun g14 hJ14 f14 a14 => ?_) rfl rfl rfl
    have q14_18 := f14 18 (by decide)
    have q14_19 := f14 19 (by decide)
    have q14_25 := f14 25 (by decide)
    have q14_26 := f14 26 (by decide)
    show t_X d 230 17 lv [oI (0)] g14 P
    refine t_5 qog_17 rfl rfl ?_
    exact h2 _ hJ14
set_option maxHeartbeats 4000000 in
theorem cg_l {d : Nat} {h0 h hb : pH} (hj3 : ∀ j : Nat, (j : Int) < fF hb 26 → 0 ≤ fA h 215 j ∧ fA h 215 j ≤ fF h 25) {P : Option pv × pH → Prop} (h1 : ∀ g1 : pH, tJ g1 → fF h 18 < fF g1 18 → fF g1 18 ≤ fF g1 19 → fF g1 19 = fF h 19 → J_ Wt h0 g1 → P (some (oI 1), g1)) (hb18 : fF h 18 < fF hb 18 ∧ fF hb 18 ≤ fF hb 19 ∧ fF hb 19 = fF h 19) (hb26 : 0 ≤ fF hb 26 ∧ fF hb 26 ≤ 4) {t A m0 : Int} (hA0 : 0 ≤ A ∧ 0 ≤ m0 ∧ m0 ≤ m0 * t ∧ A + m0 * t ≤ 60 ∧ A + m0 = fF h 25) : ∀ (m k : Nat) (g : pH) (lv : List (Nat × pv)), m0 * t - k ≤ m → m0 ≤ k ∧ (k : Int) ≤ m0 * t → J_ Wt h0 g → (∀ u, fF g u = fF hb u) → (fA g 215 = fA h 215 ∧ ∀ j : Nat, (j : Int) < A + k → 0 ≤ fA g 213 j ∧ fA g 213 j ≤ 31) → px_lg lv 0 = some (pvR 196) → px_lg lv 1 = some (oI t) → px_lg lv 2 = some (oI A) → px_lg lv 3 = some (oI m0) → px_lg lv 4 = some (oI (k : Int)) → t_X d 175 110 lv [] g P := by
  obtain ⟨w_17, w_18, w_19, w_20, w_21, w_24, w_25, w_26⟩ := Wt_f
  obtain ⟨w_a212, w_a213, w_a214, w_a215, -⟩ := Wt_a
  intro m
  induction m with
  | zero =>
    intro k g lv hm hk hJ hF hA l0 l1 l2 l3 l4
    have hz : m0 = 0 → m0 * t = 0 := fun z => by rw [z, Int.zero_mul]
    have q18 := hF 18
    have q19 := hF 19
    have q26 := hF 26
    refine t_0 qcg_110 rfl (ld_i l4) ?_
    refine t_0 qcg_112 rfl (ld_i l3) ?_
    refine t_0 qcg_113 rfl (ld_i l1) ?_
    refine t_0 qcg_114 rfl pq_mul ?_
    refine tb_ge qcg_115 (by decide) ⟨by omega, by omega⟩ ⟨by omega, by omega⟩ (fun c1 => ?_) (fun c1 => absurd c1 (by omega))
    show t_X d 175 144 lv [] g P
    refine t_0 qcg_144 rfl (ld_a l0) ?_
    refine t_0 qcg_145 rfl (ld_i l2) ?_
    refine t_0 qcg_146 rfl (ld_i l3) ?_
    refine t_0 qcg_147 rfl (ld_i l1) ?_
    refine t_0 qcg_148 rfl pq_mul ?_
    refine t_0 qcg_149 rfl pq_add ?_
    refine tw_f qcg_150 rfl hJ w_25 gf_25 (by decide) ⟨by omega, by omega⟩ (fun g2 hJ2 v2 f2 a2 => ?_)
    replace a2 := fA_2 a2
    have q2_18 := f2 18 (by decide)
    have q2_19 := f2 19 (by decide)
    have q2_26 := f2 26 (by decide)
    show t_X d 175 153 lv [] g2 P
    refine t_0 qcg_153 rfl rfl ?_
    refine t_5 qcg_154 rfl rfl ?_
    refine h1 _ ⟨by omega, fun j hj => ?_, fun j hj => ?_⟩ (by omega) (by omega) (by omega) hJ2
    · rw [a2]
      exact hA.2 j (by omega)
    · rw [a2, hA.1]
      have := hj3 j (by omega)
      omega
  | succ m ih =>
    intro k g lv hm hk hJ hF hA l0 l1 l2 l3 l4
    have hz : m0 = 0 → m0 * t = 0 := fun z => by rw [z, Int.zero_mul]
    have q18 := hF 18
    have q19 := hF 19
    have q26 := hF 26
    refine t_0 qcg_110 rfl (ld_i l4) ?_
    refine t_0 qcg_112 rfl (ld_i l3) ?_
    refine t_0 qcg_113 rfl (ld_i l1) ?_
    refine t_0 qcg_114 rfl pq_mul ?_
    refine tb_ge qcg_115 (by decide) ⟨by omega, by omega⟩ ⟨by omega, by omega⟩ (fun c1 => ?_) (fun c1 => ?_)
    · show t_X d 175 144 lv [] g P
      refine t_0 qcg_144 rfl (ld_a l0) ?_
      refine t_0 qcg_145 rfl (ld_i l2) ?_
      refine t_0 qcg_146 rfl (ld_i l3) ?_
      refine t_0 qcg_147 rfl (ld_i l1) ?_
      refine t_0 qcg_148 rfl pq_mul ?_
      refine t_0 qcg_149 rfl pq_add ?_
      refine tw_f qcg_150 rfl hJ w_25 gf_25 (by decide) ⟨by omega, by omega⟩ (fun g2 hJ2 v2 f2 a2 => ?_)
      replace a2 := fA_2 a2
      have q2_18 := f2 18 (by decide)
      have q2_19 := f2 19 (by decide)
      have q2_26 := f2 26 (by decide)
      show t_X d 175 153 lv [] g2 P
      refine t_0 qcg_153 rfl rfl ?_
      refine t_5 qcg_154 rfl rfl ?_
      refine h1 _ ⟨by omega, fun j hj => ?_, fun j hj => ?_⟩ (by omega) (by omega) (by omega) hJ2
      · rw [a2]
        exact hA.2 j (by omega)
      · rw [a2, hA.1]
        have := hj3 j (by omega)
        omega
    · show t_X d 175 118 lv [] g P
      refine t_0 qcg_118 rfl (ld_a l0) ?_
      refine t_0 qcg_119 rfl (ar_28 hJ.1) ?_
      refine t_0 qcg_122 rfl (ld_i l2) ?_
      refine t_0 qcg_123 rfl (ld_i l4) ?_
      refine t_0 qcg_125 rfl pq_add ?_
      refine t_0 qcg_126 rfl (ld_a l0) ?_
      refine t_0 qcg_127 rfl (ar_28 hJ.1) ?_
      refine t_0 qcg_130 rfl (ld_i l2) ?_
      refine t_0 qcg_131 rfl (ld_i l4) ?_
      refine t_0 qcg_133 rfl pq_add ?_
      refine t_0 qcg_134 rfl (ld_i l3) ?_
      refine t_0 qcg_135 rfl pq_sub ?_
      have hv := hA.2 ((A + (k : Int)) - m0).toNat (by omega)
      refine t_0 qcg_136 rfl (pq_ia el_213 rfl ⟨by omega, by omega⟩) ?_
      have r3 := fA_b g 213 ((A + (k : Int)) - m0).toNat
      refine tw_a qcg_137 hJ el_213 rfl w_a213 ga_213 (by decide) ⟨by omega, by omega⟩ ⟨by omega, by omega⟩ (fun g4 hJ4 a4 v4 b4 f4 => ?_)
      replace f4 := fF_1 f4
      have q4_18 := congrFun f4 18
      have q4_19 := congrFun f4 19
      have q4_25 := congrFun f4 25
      have q4_26 := congrFun f4 26
      show t_X d 175 138 lv [] g4 P
      refine t_2 qcg_138 rfl (w := (px_s1 lv 4 (oI ((k : Int) + 1)), [])) (pq_inc l4 (by decide)) ?_
      replace l0 : px_lg (px_s1 lv 4 (oI ((k : Int) + 1))) 0 = some (pvR 196) := s1_ne (by decide) (fun _ => rfl) l0
      replace l1 : px_lg (px_s1 lv 4 (oI ((k : Int) + 1))) 1 = some (oI (t)) := s1_ne (by decide) (fun _ => rfl) l1
      replace l2 : px_lg (px_s1 lv 4 (oI ((k : Int) + 1))) 2 = some (oI (A)) := s1_ne (by decide) (fun _ => rfl) l2
      replace l3 : px_lg (px_s1 lv 4 (oI ((k : Int) + 1))) 3 = some (oI (m0)) := s1_ne (by decide) (fun _ => rfl) l3
      have l4 : px_lg (px_s1 lv 4 (oI ((k : Int) + 1))) 4 = some (oI ((k : Int) + 1)) := s1_eq
      generalize px_s1 lv 4 (oI ((k : Int) + 1)) = lv5 at l0 l1 l2 l3 l4 ⊢
      show t_X d 175 141 lv5 [] g4 P
      refine t_1 qcg_141 rfl (pb_goto (pc := 141) (by decide)) ?_
      show t_X d 175 110 lv5 [] g4 P
      refine ih (k + 1) _ _ (by omega) (by omega) hJ4 (fun u => (congrFun f4 u).trans (hF u)) ⟨by rw [a4 215 (by decide)]; exact hA.1, fun j hj => ?_⟩ l0 l1 l2 l3 l4
      by_cases e : j = (A + (k : Int)).toNat
      · subst e
        rw [v4]
        exact hA.2 _ (by omega)
      · rw [b4 j e]
        exact hA.2 j (by omega)
set_option maxHeartbeats 8000000 in
theorem cg_run {d : Nat} (hd : 3 ≤ d) {h0 g : pH} (hI : tI g) (hlt : fF g 18 < fF g 19) (hgr : 0 < fF g 26) (hT : tJ g) {P : Option pv × pH → Prop} (h1 : ∀ g1 : pH, tJ g1 → fF g 18 < fF g1 18 → fF g1 18 ≤ fF g1 19 → fF g1 19 = fF g 19 → J_ Wt h0 g1 → P (some (oI 1), g1)) (h2 : ∀ g1 : pH, J_ Wt h0 g1 → P (some (oI 0), g1)) (hJ : J_ Wt h0 g) {lv : List (Nat × pv)} (l0 : px_lg lv 0 = some (pvR 196)) : t_X d 175 0 lv [] g P := by
  obtain ⟨w_17, w_18, w_19, w_20, w_21, w_24, w_25, w_26⟩ := Wt_f
  obtain ⟨w_a212, w_a213, w_a214, w_a215, -⟩ := Wt_a
  obtain ⟨hI1, hI2, hI3⟩ := hI
  obtain ⟨hT1, hT2, hT3⟩ := hT
  refine t_0 qcg_0 rfl (ld_a l0) ?_
  refine t_0 qcg_1 rfl (ld_a l0) ?_
  have r1 := fF_b g 18
  refine t_0 qcg_2 rfl (pq_gf (y := 18) rfl) ?_
  refine t_0 qcg_5 rfl rfl ?_
  refine t_0 qcg_6 rfl pq_add ?_
  refine tw_f qcg_7 rfl hJ w_18 gf_18 (by decide) ⟨by omega, by omega⟩ (fun g2 hJ2 v2 f2 a2 => ?_)
  replace a2 := fA_2 a2
  have q2_19 := f2 19 (by decide)
  have q2_25 := f2 25 (by decide)
  have q2_26 := f2 26 (by decide)
  show t_X d 175 10 lv [] g2 P
  refine t_0 qcg_10 rfl (ld_a l0) ?_
  refine t_3 qcg_11 rfl (ar := ([pvR 196], [])) (pcal_v0 rfl rfl el_196) ⟨by omega, Nat.le_of_ble_eq_true rfl, Nat.le_of_ble_eq_true rfl, rfl⟩ ?_
  have hn3 := hV_n g2
  refine di_run (by omega) hJ2.1 (by omega) (by omega) (fun t3 => ?_) (fun t3 => ?_) rfl
  · show t_X d 175 14 lv [oI (1)] g2 P
    refine tz_eq qcg_14 (by decide) ⟨by omega, by omega⟩ (fun c4 => absurd c4 (by omega)) (fun c4 => ?_)
    show t_X d 175 17 lv [] g2 P
    refine t_0 qcg_17 rfl (ld_a l0) ?_
    refine t_3 qcg_18 rfl (ar := ([pvR 196], [])) (pcal_v0 rfl rfl el_196) ⟨by omega, Nat.le_of_ble_eq_true rfl, Nat.le_of_ble_eq_true rfl, rfl⟩ ?_
    refine he_run hJ2.1 (by omega) (by omega) ?_ rfl
    have hv5 := hV_b g2
    have hn5 := hV_n g2
    show t_X d 175 21 lv [oI (hV g2)] g2 P
    refine t_0 qcg_21 rfl (pq_b (by decide)) ?_
    refine tb_ge qcg_23 (by decide) ⟨by omega, by omega⟩ ⟨by omega, by omega⟩ (fun c6 => ?_) (fun c6 => ?_)
    · show t_X d 175 36 lv [] g2 P
      refine t_0 qcg_36 rfl (ld_a l0) ?_
      refine t_3 qcg_37 rfl (ar := ([pvR 196], [])) (pcal_v0 rfl rfl el_196) ⟨by omega, Nat.le_of_ble_eq_true rfl, Nat.le_of_ble_eq_true rfl, rfl⟩ ?_
      refine he_run hJ2.1 (by omega) (by omega) ?_ rfl
      have hv7 := hV_b g2
      have hn7 := hV_n g2
      show t_X d 175 40 lv [oI (hV g2)] g2 P
      refine t_0 qcg_40 rfl (pq_b (by decide)) ?_
      refine t_0 qcg_42 rfl pq_sub ?_
      refine t_2 qcg_43 rfl (w := (px_s1 lv 1 (oI ((hV g2) - 48)), [])) rfl ?_
      replace l0 : px_lg (px_s1 lv 1 (oI ((hV g2) - 48))) 0 = some (pvR 196) := s1_ne (by decide) (fun _ => rfl) l0
      have l1 : px_lg (px_s1 lv 1 (oI ((hV g2) - 48))) 1 = some (oI ((hV g2) - 48)) := s1_eq
      generalize px_s1 lv 1 (oI ((hV g2) - 48)) = lv8 at l0 l1 ⊢
      show t_X d 175 44 lv8 [] g2 P
      refine t_0 qcg_44 rfl (ld_a l0) ?_
      refine t_0 qcg_45 rfl (ld_a l0) ?_
      have r9 := fF_b g2 18
      refine t_0 qcg_46 rfl (pq_gf (y := 18) rfl) ?_
      refine t_0 qcg_49 rfl rfl ?_
      refine t_0 qcg_50 rfl pq_add ?_
      refine tw_f qcg_51 rfl hJ2 w_18 gf_18 (by decide) ⟨by omega, by omega⟩ (fun g10 hJ10 v10 f10 a10 => ?_)
      replace a10 := fA_2 a10
      have q10_19 := f10 19 (by decide)
      have q10_25 := f10 25 (by decide)
      have q10_26 := f10 26 (by decide)
      show t_X d 175 54 lv8 [] g10 P
      refine t_0 qcg_54 rfl (ld_a l0) ?_
      refine t_0 qcg_55 rfl (ld_a l0) ?_
      have r11 := fF_b g10 26
      refine t_0 qcg_56 rfl (pq_gf (y := 26) rfl) ?_
      refine t_0 qcg_59 rfl rfl ?_
      refine t_0 qcg_60 rfl pq_sub ?_
      refine tw_f qcg_61 rfl hJ10 w_26 gf_26 (by decide) ⟨by omega, by omega⟩ (fun g12 hJ12 v12 f12 a12 => ?_)
      replace a12 := fA_2 a12
      have q12_18 := f12 18 (by decide)
      have q12_19 := f12 19 (by decide)
      have q12_25 := f12 25 (by decide)
      show t_X d 175 64 lv8 [] g12 P
      refine t_0 qcg_64 rfl (ld_a l0) ?_
      refine t_0 qcg_65 rfl (ar_30 hJ12.1) ?_
      refine t_0 qcg_68 rfl (ld_a l0) ?_
      have r13 := fF_b g12 26
      refine t_0 qcg_69 rfl (pq_gf (y := 26) rfl) ?_
      refine t_0 qcg_72 rfl (pq_ia el_215 rfl ⟨by omega, by omega⟩) ?_
      have r14 := fA_b g12 215 (fF g12 26).toNat
      refine t_2 qcg_73 rfl (w := (px_s1 lv8 2 (oI (fA g12 215 (fF g12 26).toNat)), [])) rfl ?_
      replace l0 : px_lg (px_s1 lv8 2 (oI (fA g12 215 (fF g12 26).toNat))) 0 = some (pvR 196) := s1_ne (by decide) (fun _ => rfl) l0
      replace l1 : px_lg (px_s1 lv8 2 (oI (fA g12 215 (fF g12 26).toNat))) 1 = some (oI ((hV g2) - 48)) := s1_ne (by decide) (fun _ => rfl) l1
      have l2 : px_lg (px_s1 lv8 2 (oI (fA g12 215 (fF g12 26).toNat))) 2 = some (oI (fA g12 215 (fF g12 26).toNat)) := s1_eq
      generalize px_s1 lv8 2 (oI (fA g12 215 (fF g12 26).toNat)) = lv15 at l0 l1 l2 ⊢
      show t_X d 175 74 lv15 [] g12 P
      refine t_0 qcg_74 rfl (ld_a l0) ?_
      have r16 := fF_b g12 25
      refine t_0 qcg_75 rfl (pq_gf (y := 25) rfl) ?_
      refine t_0 qcg_78 rfl (ld_i l2) ?_
      refine t_0 qcg_79 rfl pq_sub ?_
      refine t_2 qcg_80 rfl (w := (px_s1 lv15 3 (oI ((fF g12 25) - (fA g12 215 (fF g12 26).toNat))), [])) rfl ?_
      replace l0 : px_lg (px_s1 lv15 3 (oI ((fF g12 25) - (fA g12 215 (fF g12 26).toNat)))) 0 = some (pvR 196) := s1_ne (by decide) (fun _ => rfl) l0
      replace l1 : px_lg (px_s1 lv15 3 (oI ((fF g12 25) - (fA g12 215 (fF g12 26).toNat)))) 1 = some (oI ((hV g2) - 48)) := s1_ne (by decide) (fun _ => rfl) l1
      replace l2 : px_lg (px_s1 lv15 3 (oI ((fF g12 25) - (fA g12 215 (fF g12 26).toNat)))) 2 = some (oI (fA g12 215 (fF g12 26).toNat)) := s1_ne (by decide) (fun _ => rfl) l2
      have l3 : px_lg (px_s1 lv15 3 (oI ((fF g12 25) - (fA g12 215 (fF g12 26).toNat)))) 3 = some (oI ((fF g12 25) - (fA g12 215 (fF g12 26).toNat))) := s1_eq
      generalize px_s1 lv15 3 (oI ((fF g12 25) - (fA g12 215 (fF g12 26).toNat))) = lv17 at l0 l1 l2 l3 ⊢
      show t_X d 175 81 lv17 [] g12 P
      have ea0 : fA g12 = fA g := by rw [a12, a10, a2]
      have hat := hT3 (fF g12 26).toNat (by omega)
      have eat : fA g12 215 (fF g12 26).toNat = fA g 215 (fF g12 26).toNat := by rw [ea0]
      have m1 := Int.mul_le_mul_of_nonneg_left (show (1 : Int) ≤ ((hV g2) - 48) by omega) (show 0 ≤ ((fF g12 25) - (fA g12 215 (fF g12 26).toNat)) by omega)
      have m2 := Int.mul_le_mul_of_nonneg_left (show ((hV g2) - 48) ≤ 9 by omega) (show 0 ≤ ((fF g12 25) - (fA g12 215 (fF g12 26).toNat)) by omega)
      refine t_0 qcg_81 rfl (ld_i l2) ?_
      refine t_0 qcg_82 rfl (ld_i l3) ?_
      refine t_0 qcg_83 rfl (ld_i l1) ?_
      refine t_0 qcg_84 rfl pq_mul ?_
      refine t_0 qcg_85 rfl pq_add ?_
      refine t_0 qcg_86 rfl (pq_b (by decide)) ?_
      refine tb_le qcg_88 (by decide) ⟨by omega, by omega⟩ ⟨by omega, by omega⟩ (fun c18 => ?_) (fun c18 => ?_)
      · show t_X d 175 107 lv17 [] g12 P
        refine t_0 qcg_107 rfl (ld_i l3) ?_
        refine t_2 qcg_108 rfl (w := (px_s1 lv17 4 (oI ((fF g12 25) - (fA g12 215 (fF g12 26).toNat))), [])) rfl ?_
        replace l0 : px_lg (px_s1 lv17 4 (oI ((fF g12 25) - (fA g12 215 (fF g12 26).toNat)))) 0 = some (pvR 196) := s1_ne (by decide) (fun _ => rfl) l0
        replace l1 : px_lg (px_s1 lv17 4 (oI ((fF g12 25) - (fA g12 215 (fF g12 26).toNat)))) 1 = some (oI ((hV g2) - 48)) := s1_ne (by decide) (fun _ => rfl) l1
        replace l2 : px_lg (px_s1 lv17 4 (oI ((fF g12 25) - (fA g12 215 (fF g12 26).toNat)))) 2 = some (oI (fA g12 215 (fF g12 26).toNat)) := s1_ne (by decide) (fun _ => rfl) l2
        replace l3 : px_lg (px_s1 lv17 4 (oI ((fF g12 25) - (fA g12 215 (fF g12 26).toNat)))) 3 = some (oI ((fF g12 25) - (fA g12 215 (fF g12 26).toNat))) := s1_ne (by decide) (fun _ => rfl) l3
        have l4 : px_lg (px_s1 lv17 4 (oI ((fF g12 25) - (fA g12 215 (fF g12 26).toNat)))) 4 = some (oI ((fF g12 25) - (fA g12 215 (fF g12 26).toNat))) := s1_eq
        generalize px_s1 lv17 4 (oI ((fF g12 25) - (fA g12 215 (fF g12 26).toNat))) = lv19 at l0 l1 l2 l3 l4 ⊢
        show t_X d 175 110 lv19 [] g12 P
        have ea : fA g12 = fA g := by rw [a12, a10, a2]
        refine cg_l (h := g) (hb := g12) (fun j hj => hT3 j (by omega)) h1 ⟨by omega, by omega, by omega⟩ (by omega) (t := (hV g2) - 48) (A := fA g12 215 (fF g12 26).toNat) (m0 := (fF g12 25) - (fA g12 215 (fF g12 26).toNat)) ⟨by omega, by omega, by omega, by omega, by omega⟩ 60 ((fF g12 25) - (fA g12 215 (fF g12 26).toNat)).toNat _ _ (by omega) (by omega) hJ12 (fun _ => rfl) ⟨by rw [ea], fun j hj => by rw [ea]; exact hT2 j (by omega)⟩ l0 l1 l2 l3 ?_
        rw [l4]
        exact congrArg (fun u => some (oI u)) (by omega)
      · show t_X d 175 91 lv17 [] g12 P
        refine t_0 qcg_91 rfl (ld_a l0) ?_
        refine t_0 qcg_92 rfl (pq_b (by decide)) ?_
        refine t_0 qcg_94 rfl (ld_a l0) ?_
        refine t_0 qcg_95 rfl (ar_29 hJ12.1) ?_
        refine t_0 qcg_98 rfl (ld_a l0) ?_
        have r20 := fF_b g12 26
        refine t_0 qcg_99 rfl (pq_gf (y := 26) rfl) ?_
        refine t_0 qcg_102 rfl (pq_ia el_214 rfl ⟨by omega, by omega⟩) ?_
        have r21 := fA_b g12 214 (fF g12 26).toNat
        refine t_3 qcg_103 rfl (ar := ([pvR 196, oI (6), oI (fA g12 214 (fF g12 26).toNat)], [])) (pcal_v2 rfl rfl el_196) ⟨by omega, Nat.le_of_ble_eq_true rfl, Nat.le_of_ble_eq_true rfl, rfl⟩ ?_
        refine wr_run hJ12 w_20 (fun g22 hJ22 f22 a22 => ?_) rfl rfl rfl
        have q22_18 := f22 18 (by decide)
        have q22_19 := f22 19 (by decide)
        have q22_25 := f22 25 (by decide)
        have q22_26 := f22 26 (by decide)
        show t_X d 175 106 lv17 [oI (0)] g22 P
        refine t_5 qcg_106 rfl rfl ?_
        exact h2 _ hJ22
    · show t_X d 175 26 lv [] g2 P
      refine t_0 qcg_26 rfl (ld_a l0) ?_
      refine t_0 qcg_27 rfl rfl ?_
      refine t_0 qcg_28 rfl (ld_a l0) ?_
      have r23 := fF_b g2 18
      refine t_0 qcg_29 rfl (pq_gf (y := 18) rfl) ?_
      refine t_3 qcg_32 rfl (ar := ([pvR 196, oI (1), oI (fF g2 18)], [])) (pcal_v2 rfl rfl el_196) ⟨by omega, Nat.le_of_ble_eq_true rfl, Nat.le_of_ble_eq_true rfl, rfl⟩ ?_
      refine wr_run hJ2 w_20 (fun g24 hJ24 f24 a24 => ?_) rfl rfl rfl
      have q24_18 := f24 18 (by decide)
      have q24_19 := f24 19 (by decide)
      have q24_25 := f24 25 (by decide)
      have q24_26 := f24 26 (by decide)
      show t_X d 175 35 lv [oI (0)] g24 P
      refine t_5 qcg_35 rfl rfl ?_
      exact h2 _ hJ24
  · show t_X d 175 14 lv [oI (0)] g2 P
    refine tz_eq qcg_14 (by decide) ⟨by omega, by omega⟩ (fun c25 => ?_) (fun c25 => absurd c25 (by omega))
    show t_X d 175 26 lv [] g2 P
    refine t_0 qcg_26 rfl (ld_a l0) ?_
    refine t_0 qcg_27 rfl rfl ?_
    refine t_0 qcg_28 rfl (ld_a l0) ?_
    have r26 := fF_b g2 18
    refine t_0 qcg_29 rfl (pq_gf (y := 18) rfl) ?_
    refine t_3 qcg_32 rfl (ar := ([pvR 196, oI (1), oI (fF g2 18)], [])) (pcal_v2 rfl rfl el_196) ⟨by omega, Nat.le_of_ble_eq_true rfl, Nat.le_of_ble_eq_true rfl, rfl⟩ ?_
    refine wr_run hJ2 w_20 (fun g27 hJ27 f27 a27 => ?_) rfl rfl rfl
    have q27_18 := f27 18 (by decide)
    have q27_19 := f27 19 (by decide)
    have q27_25 := f27 25 (by decide)
    have q27_26 := f27 26 (by decide)
    show t_X d 175 35 lv [oI (0)] g27 P
    refine t_5 qcg_35 rfl rfl ?_
    exact h2 _ hJ27
set_option maxHeartbeats 4000000 in
theorem ri_c {d : Nat} (hd : 4 ≤ d) {h0 h : pH} {P : Option pv × pH → Prop} (h1 : ∀ g1 : pH, tJ g1 → fF h 18 < fF g1 18 → fF g1 18 ≤ fF g1 19 → fF g1 19 = fF h 19 → J_ Wt h0 g1 → P (some (oI 1), g1)) (h2 : ∀ g1 : pH, J_ Wt h0 g1 → P (some (oI 0), g1)) : ∀ (m : Nat) (g : pH) (lv : List (Nat × pv)), fF h 19 + 1 - fF g 18 ≤ m → 0 ≤ fF h 18 ∧ fF h 19 ≤ 240 ∧ fF h 18 < fF g 18 ∧ fF g 18 ≤ fF g 19 ∧ fF g 19 = fF h 19 → tJ g → J_ Wt h0 g → px_lg lv 0 = some (pvR 196) → t_X d 237 27 lv [] g P := by
  intro m
  induction m with
  | zero =>
    intro g lv hm hp hT hJ l0
    omega
  | succ m ih =>
    intro g lv hm hp hT hJ l0
    refine t_0 qri_27 rfl (ld_a l0) ?_
    refine t_3 qri_28 rfl (ar := ([pvR 196], [])) (pcal_v0 rfl rfl el_196) ⟨by omega, Nat.le_of_ble_eq_true rfl, Nat.le_of_ble_eq_true rfl, rfl⟩ ?_
    refine he_run hJ.1 (by omega) (by omega) ?_ rfl
    have hv1 := hV_b g
    have hn1 := hV_n g
    show t_X d 237 31 lv [oI (hV g)] g P
    refine t_0 qri_31 rfl (pq_b (by decide)) ?_
    refine tb_ne qri_33 (by decide) ⟨by omega, by omega⟩ ⟨by omega, by omega⟩ (fun c2 => ?_) (fun c2 => ?_)
    · show t_X d 237 52 lv [] g P
      refine t_0 qri_52 rfl rfl ?_
      refine t_5 qri_53 rfl rfl ?_
      exact h1 _ hT (by omega) (by omega) (by omega) hJ
    · show t_X d 237 36 lv [] g P
      refine t_0 qri_36 rfl (ld_a l0) ?_
      have r3 := fF_b g 26
      refine t_0 qri_37 rfl (pq_gf (y := 26) rfl) ?_
      refine tz_le qri_40 (by decide) ⟨by omega, by omega⟩ (fun c4 => ?_) (fun c4 => ?_)
      · show t_X d 237 52 lv [] g P
        refine t_0 qri_52 rfl rfl ?_
        refine t_5 qri_53 rfl rfl ?_
        exact h1 _ hT (by omega) (by omega) (by omega) hJ
      · show t_X d 237 43 lv [] g P
        refine t_0 qri_43 rfl (ld_a l0) ?_
        refine t_3 qri_44 rfl (ar := ([pvR 196], [])) (pcal_v0 rfl rfl el_196) ⟨by omega, Nat.le_of_ble_eq_true rfl, Nat.le_of_ble_eq_true rfl, rfl⟩ ?_
        refine cg_run (by omega) ⟨by omega, by omega, by omega⟩ (by omega) (by omega) hT (fun g5 T5 p5 u5 x5 hJ5 => ?_) (fun g50005 hJ50005 => ?_) hJ rfl
        · show t_X d 237 47 lv [oI (1)] g5 P
          refine tz_ne qri_47 (by decide) ⟨by omega, by omega⟩ (fun c6 => ?_) (fun c6 => absurd c6 (by omega))
          show t_X d 237 27 lv [] g5 P
          exact ih _ _ (by omega) (by omega) T5 hJ5 l0
        · show t_X d 237 47 lv [oI (0)] g50005 P
          refine tz_ne qri_47 (by decide) ⟨by omega, by omega⟩ (fun c7 => absurd c7 (by omega)) (fun c7 => ?_)
          show t_X d 237 50 lv [] g50005 P
          refine t_0 qri_50 rfl rfl ?_
          refine t_5 qri_51 rfl rfl ?_
          exact h2 _ hJ50005
set_option maxHeartbeats 4000000 in
theorem ri_o {d : Nat} (hd : 4 ≤ d) {h0 h : pH} {P : Option pv × pH → Prop} (h1 : ∀ g1 : pH, tJ g1 → fF h 18 < fF g1 18 → fF g1 18 ≤ fF g1 19 → fF g1 19 = fF h 19 → J_ Wt h0 g1 → P (some (oI 1), g1)) (h2 : ∀ g1 : pH, J_ Wt h0 g1 → P (some (oI 0), g1)) : ∀ (m : Nat) (g : pH) (lv : List (Nat × pv)), fF h 19 + 1 - fF g 18 ≤ m → 0 ≤ fF h 18 ∧ fF h 19 ≤ 240 ∧ fF h 18 ≤ fF g 18 ∧ fF g 18 ≤ fF g 19 ∧ fF g 19 = fF h 19 → tJ g → J_ Wt h0 g → px_lg lv 0 = some (pvR 196) → t_X d 237 0 lv [] g P := by
  intro m
  induction m with
  | zero =>
    intro g lv hm hp hT hJ l0
    omega
  | succ m ih =>
    intro g lv hm hp hT hJ l0
    refine t_0 qri_0 rfl (ld_a l0) ?_
    refine t_3 qri_1 rfl (ar := ([pvR 196], [])) (pcal_v0 rfl rfl el_196) ⟨by omega, Nat.le_of_ble_eq_true rfl, Nat.le_of_ble_eq_true rfl, rfl⟩ ?_
    refine he_run hJ.1 (by omega) (by omega) ?_ rfl
    have hv1 := hV_b g
    have hn1 := hV_n g
    show t_X d 237 4 lv [oI (hV g)] g P
    refine t_0 qri_4 rfl (pq_b (by decide)) ?_
    refine tb_ne qri_6 (by decide) ⟨by omega, by omega⟩ ⟨by omega, by omega⟩ (fun c2 => ?_) (fun c2 => ?_)
    · show t_X d 237 18 lv [] g P
      refine t_0 qri_18 rfl (ld_a l0) ?_
      refine t_3 qri_19 rfl (ar := ([pvR 196], [])) (pcal_v0 rfl rfl el_196) ⟨by omega, Nat.le_of_ble_eq_true rfl, Nat.le_of_ble_eq_true rfl, rfl⟩ ?_
      refine rr_run (by omega) ⟨by omega, by omega, by omega⟩ hT (fun g3 T3 y3 p3 u3 x3 hJ3 => ?_) (fun g50003 hJ50003 => ?_) hJ rfl
      · show t_X d 237 22 lv [oI (1)] g3 P
        refine tz_ne qri_22 (by decide) ⟨by omega, by omega⟩ (fun c4 => ?_) (fun c4 => absurd c4 (by omega))
        show t_X d 237 27 lv [] g3 P
        exact ri_c hd h1 h2 241 _ _ (by omega) (by omega) T3 hJ3 l0
      · show t_X d 237 22 lv [oI (0)] g50003 P
        refine tz_ne qri_22 (by decide) ⟨by omega, by omega⟩ (fun c5 => absurd c5 (by omega)) (fun c5 => ?_)
        show t_X d 237 25 lv [] g50003 P
        refine t_0 qri_25 rfl rfl ?_
        refine t_5 qri_26 rfl rfl ?_
        exact h2 _ hJ50003
    · show t_X d 237 9 lv [] g P
      refine t_0 qri_9 rfl (ld_a l0) ?_
      refine t_3 qri_10 rfl (ar := ([pvR 196], [])) (pcal_v0 rfl rfl el_196) ⟨by omega, Nat.le_of_ble_eq_true rfl, Nat.le_of_ble_eq_true rfl, rfl⟩ ?_
      refine og_run (by omega) ⟨by omega, by omega, by omega⟩ (by omega) hT (fun g6 T6 p6 u6 x6 hJ6 => ?_) (fun g50006 hJ50006 => ?_) hJ rfl
      · show t_X d 237 13 lv [oI (1)] g6 P
        refine tz_ne qri_13 (by decide) ⟨by omega, by omega⟩ (fun c7 => ?_) (fun c7 => absurd c7 (by omega))
        show t_X d 237 0 lv [] g6 P
        exact ih _ _ (by omega) (by omega) T6 hJ6 l0
      · show t_X d 237 13 lv [oI (0)] g50006 P
        refine tz_ne qri_13 (by decide) ⟨by omega, by omega⟩ (fun c8 => absurd c8 (by omega)) (fun c8 => ?_)
        show t_X d 237 16 lv [] g50006 P
        refine t_0 qri_16 rfl rfl ?_
        refine t_5 qri_17 rfl rfl ?_
        exact h2 _ hJ50006
set_option maxHeartbeats 4000000 in
theorem cy_loop {d : Nat} {h0 h : pH} {n : Int} (hn : 0 ≤ n ∧ n ≤ 60) {P : Option pv × pH → Prop} (hP : ∀ g1 : pH, J_ Wt h0 g1 → (∀ u, fF g1 u = fF h u) → P (none, g1)) : ∀ (m k : Nat) (g : pH) (lv : List (Nat × pv)), n - k ≤ m → 0 ≤ n → (k : Int) ≤ n → J_ Wt h0 g → (∀ j : Nat, (j : Int) < n → 0 ≤ fA g 213 j ∧ fA g 213 j ≤ 31) → (∀ u, fF g u = fF h u) → px_lg lv 0 = some (pvR 213) → px_lg lv 1 = some (pvR 212) → px_lg lv 2 = some (oI n) → px_lg lv 3 = some (oI (k : Int)) → t_X d 179 2 lv [] g P := by
  obtain ⟨w_17, w_18, w_19, w_20, w_21, w_24, w_25, w_26⟩ := Wt_f
  obtain ⟨w_a212, w_a213, w_a214, w_a215, -⟩ := Wt_a
  intro m
  induction m with
  | zero =>
    intro k g lv hm hn0 hk hJ hA hF l0 l1 l2 l3
    refine t_0 qcp_2 rfl (ld_i l3) ?_
    refine t_0 qcp_3 rfl (ld_i l2) ?_
    refine tb_ge qcp_4 (by decide) ⟨by omega, by omega⟩ ⟨by omega, by omega⟩ (fun c1 => ?_) (fun c1 => absurd c1 (by omega))
    show t_X d 179 19 lv [] g P
    refine t_5 qcp_19 rfl rfl ?_
    exact hP _ hJ hF
  | succ m ih =>
    intro k g lv hm hn0 hk hJ hA hF l0 l1 l2 l3
    refine t_0 qcp_2 rfl (ld_i l3) ?_
    refine t_0 qcp_3 rfl (ld_i l2) ?_
    refine tb_ge qcp_4 (by decide) ⟨by omega, by omega⟩ ⟨by omega, by omega⟩ (fun c1 => ?_) (fun c1 => ?_)
    · show t_X d 179 19 lv [] g P
      refine t_5 qcp_19 rfl rfl ?_
      exact hP _ hJ hF
    · show t_X d 179 7 lv [] g P
      refine t_0 qcp_7 rfl (ld_a l1) ?_
      refine t_0 qcp_8 rfl (ld_i l3) ?_
      refine t_0 qcp_9 rfl (ld_a l0) ?_
      refine t_0 qcp_10 rfl (ld_i l3) ?_
      have hv := hA k (by omega)
      refine t_0 qcp_11 rfl (pq_ia el_213 rfl ⟨by omega, by omega⟩) ?_
      show t_X d 179 12 lv [oI (fA g 213 k), oI ((k : Int)), pvR 212] g P
      have r2 := fA_b g 213 k
      refine tw_a qcp_12 hJ el_212 rfl w_a212 ga_212 (by decide) ⟨by omega, by omega⟩ ⟨by omega, by omega⟩ (fun g3 hJ3 a3 v3 b3 f3 => ?_)
      replace f3 := fF_1 f3
      show t_X d 179 13 lv [] g3 P
      refine t_2 qcp_13 rfl (w := (px_s1 lv 3 (oI ((k : Int) + 1)), [])) (pq_inc l3 (by decide)) ?_
      replace l0 : px_lg (px_s1 lv 3 (oI ((k : Int) + 1))) 0 = some (pvR 213) := s1_ne (by decide) (fun _ => rfl) l0
      replace l1 : px_lg (px_s1 lv 3 (oI ((k : Int) + 1))) 1 = some (pvR 212) := s1_ne (by decide) (fun _ => rfl) l1
      replace l2 : px_lg (px_s1 lv 3 (oI ((k : Int) + 1))) 2 = some (oI (n)) := s1_ne (by decide) (fun _ => rfl) l2
      have l3 : px_lg (px_s1 lv 3 (oI ((k : Int) + 1))) 3 = some (oI ((k : Int) + 1)) := s1_eq
      generalize px_s1 lv 3 (oI ((k : Int) + 1)) = lv4 at l0 l1 l2 l3 ⊢
      show t_X d 179 16 lv4 [] g3 P
      refine t_1 qcp_16 rfl (pb_goto (pc := 16) (by decide)) ?_
      show t_X d 179 2 lv4 [] g3 P
      exact ih (k + 1) _ _ (by omega) (by omega) (by omega) hJ3 (by rw [a3 213 (by decide)]; exact hA) (congrFun f3 |> fun q => fun u => (q u).trans (hF u)) l0 l1 l2 l3
set_option maxHeartbeats 4000000 in
theorem ty_e {d : Nat} (hd : 1 ≤ d) {h0 : pH} {P : Option pv × pH → Prop} (hP : ∀ (g1 : pH) (z : Int), J_ Wt h0 g1 → P (some (oI z), g1)) {g : pH} (hJ : J_ Wt h0 g) {x : Int} (hx : x = 0 ∨ (x = 1 ∧ tJ g)) {lv : List (Nat × pv)} (l0 : px_lg lv 0 = some (pvR 196)) (l2 : px_lg lv 2 = some (oI x)) : t_X d 264 92 lv [] g P := by
  obtain ⟨w_17, w_18, w_19, w_20, w_21, w_24, w_25, w_26⟩ := Wt_f
  obtain ⟨w_a212, w_a213, w_a214, w_a215, -⟩ := Wt_a
  rcases hx with rfl | ⟨rfl, hT⟩
  · refine t_0 qty_92 rfl (ld_a l0) ?_
    refine t_0 qty_93 rfl rfl ?_
    refine tw_f qty_94 rfl hJ w_17 gf_17 (by decide) ⟨by omega, by omega⟩ (fun g1 hJ1 v1 f1 a1 => ?_)
    replace a1 := fA_2 a1
    have q1_18 := f1 18 (by decide)
    have q1_19 := f1 19 (by decide)
    have q1_25 := f1 25 (by decide)
    have q1_26 := f1 26 (by decide)
    show t_X d 264 97 lv [] g1 P
    refine t_0 qty_97 rfl (ld_i l2) ?_
    refine tz_ne qty_98 (by decide) ⟨by omega, by omega⟩ (fun c2 => absurd c2 (by omega)) (fun c2 => ?_)
    show t_X d 264 101 lv [] g1 P
    refine t_0 qty_101 rfl (ld_a l0) ?_
    have r3 := fF_b g1 20
    refine t_0 qty_102 rfl (pq_gf (y := 20) rfl) ?_
    refine t_5 qty_105 rfl rfl ?_
    exact hP _ _ hJ1
  · have hT1 := hT.1
    refine t_0 qty_92 rfl (ld_a l0) ?_
    refine t_0 qty_93 rfl rfl ?_
    refine tw_f qty_94 rfl hJ w_17 gf_17 (by decide) ⟨by omega, by omega⟩ (fun g1 hJ1 v1 f1 a1 => ?_)
    replace a1 := fA_2 a1
    have q1_18 := f1 18 (by decide)
    have q1_19 := f1 19 (by decide)
    have q1_25 := f1 25 (by decide)
    have q1_26 := f1 26 (by decide)
    show t_X d 264 97 lv [] g1 P
    refine t_0 qty_97 rfl (ld_i l2) ?_
    refine tz_ne qty_98 (by decide) ⟨by omega, by omega⟩ (fun c2 => ?_) (fun c2 => absurd c2 (by omega))
    show t_X d 264 106 lv [] g1 P
    refine t_0 qty_106 rfl (ld_a l0) ?_
    refine t_0 qty_107 rfl (ld_a l0) ?_
    have r3 := fF_b g1 25
    refine t_0 qty_108 rfl (pq_gf (y := 25) rfl) ?_
    refine tw_f qty_111 rfl hJ1 w_24 gf_24 (by decide) ⟨by omega, by omega⟩ (fun g4 hJ4 v4 f4 a4 => ?_)
    replace a4 := fA_2 a4
    have q4_18 := f4 18 (by decide)
    have q4_19 := f4 19 (by decide)
    have q4_25 := f4 25 (by decide)
    have q4_26 := f4 26 (by decide)
    show t_X d 264 114 lv [] g4 P
    refine t_0 qty_114 rfl (ld_a l0) ?_
    refine t_0 qty_115 rfl (ar_28 hJ4.1) ?_
    refine t_0 qty_118 rfl (ld_a l0) ?_
    refine t_0 qty_119 rfl (ar_27 hJ4.1) ?_
    refine t_0 qty_122 rfl (ld_a l0) ?_
    have r5 := fF_b g4 25
    refine t_0 qty_123 rfl (pq_gf (y := 25) rfl) ?_
    refine t_3 qty_126 rfl (ar := ([pvR 213, pvR 212, oI (fF g4 25)], [])) (pcal_s ⟨Or.inl rfl, rfl, Nat.le_of_ble_eq_true rfl⟩) ⟨by omega, Nat.le_of_ble_eq_true rfl, Nat.le_of_ble_eq_true rfl, rfl⟩ ?_
    refine t_0 qcp_0 rfl rfl ?_
    refine t_2 qcp_1 rfl (w := (px_s1 _ 3 (oI 0), [])) rfl ?_
    refine cy_loop (h := g4) (n := fF g4 25) (by omega) (fun g6 hJ6 f6 => ?_) 60 0 _ _ (by omega) (by omega) (by omega) hJ4 ?_ (fun _ => rfl) (s1_ne (by decide) (fun _ => rfl) rfl) (s1_ne (by decide) (fun _ => rfl) rfl) (s1_ne (by decide) (fun _ => rfl) rfl) s1_eq
    · show t_X d 264 129 lv [] g6 P
      refine t_0 qty_129 rfl (ld_a l0) ?_
      have r7 := fF_b g6 25
      refine t_0 qty_130 rfl (pq_gf (y := 25) rfl) ?_
      refine t_5 qty_133 rfl rfl ?_
      exact hP _ _ hJ6
    · intro j hj
      rw [a4, a1]
      exact hT.2.1 j (by omega)
theorem ty_z {d : Nat} (hd : 1 ≤ d) {h0 : pH} {P : Option pv × pH → Prop} (hP : ∀ (g1 : pH) (z : Int), J_ Wt h0 g1 → P (some (oI z), g1)) {g : pH} (hJ : J_ Wt h0 g) {lv : List (Nat × pv)} (l0 : px_lg lv 0 = some (pvR 196)) (l2 : px_lg lv 2 = some (oI 0)) : t_X d 264 45 lv [] g P := by
  refine t_0 qty_45 rfl (ld_i l2) ?_
  refine tz_eq qty_46 (by decide) ⟨by omega, by omega⟩ (fun c1 => ?_) (fun c1 => absurd c1 (by omega))
  show t_X d 264 92 lv [] g P
  exact ty_e hd hP hJ (Or.inl rfl) l0 l2
set_option maxHeartbeats 4000000 in
theorem ty_l {d : Nat} (hd : 6 ≤ d) {h0 : pH} {N : Int} (hN : 0 ≤ N ∧ N ≤ 240) {P : Option pv × pH → Prop} (hP : ∀ (g1 : pH) (z : Int), J_ Wt h0 g1 → P (some (oI z), g1)) : ∀ (m : Nat) (g : pH) (lv : List (Nat × pv)), N + 1 - fF g 18 ≤ m → 0 ≤ fF g 18 ∧ fF g 18 ≤ N ∧ fF g 19 = N → tJ g → J_ Wt h0 g → px_lg lv 0 = some (pvR 196) → px_lg lv 2 = some (oI 1) → t_X d 264 45 lv [] g P := by
  obtain ⟨w_17, w_18, w_19, w_20, w_21, w_24, w_25, w_26⟩ := Wt_f
  obtain ⟨w_a212, w_a213, w_a214, w_a215, -⟩ := Wt_a
  intro m
  induction m with
  | zero =>
    intro g lv hm hp hT hJ l0 l2
    omega
  | succ m ih =>
    intro g lv hm hp hT hJ l0 l2
    have hT1 := hT.1
    refine t_0 qty_45 rfl (ld_i l2) ?_
    refine tz_eq qty_46 (by decide) ⟨by omega, by omega⟩ (fun c1 => absurd c1 (by omega)) (fun c1 => ?_)
    show t_X d 264 49 lv [] g P
    refine t_0 qty_49 rfl (ld_a l0) ?_
    have r2 := fF_b g 18
    refine t_0 qty_50 rfl (pq_gf (y := 18) rfl) ?_
    refine t_0 qty_53 rfl (ld_a l0) ?_
    have r3 := fF_b g 19
    refine t_0 qty_54 rfl (pq_gf (y := 19) rfl) ?_
    refine tb_lt qty_57 (by decide) ⟨by omega, by omega⟩ ⟨by omega, by omega⟩ (fun c4 => ?_) (fun c4 => ?_)
    · show t_X d 264 67 lv [] g P
      refine t_0 qty_67 rfl (ld_a l0) ?_
      refine t_0 qty_68 rfl (pq_b (by decide)) ?_
      refine t_3 qty_70 rfl (ar := ([pvR 196, oI (44)], [])) (pcal_v1 rfl rfl el_196) ⟨by omega, Nat.le_of_ble_eq_true rfl, Nat.le_of_ble_eq_true rfl, rfl⟩ ?_
      refine tk_run (by omega) hJ w_18 w_20 (by omega) (by omega) (by decide) (fun g5 p5 u5 hJ5 f5 a5 => ?_) (fun g50005 hJ50005 => ?_) rfl rfl
      · have q5_19 := f5 19 (by decide)
        have q5_25 := f5 25 (by decide)
        have q5_26 := f5 26 (by decide)
        have T5 : tJ g5 := by
          unfold tJ
          rw [q5_25, q5_26, a5]
          exact hT
        show t_X d 264 73 lv [oI (1)] g5 P
        refine tz_eq qty_73 (by decide) ⟨by omega, by omega⟩ (fun c6 => absurd c6 (by omega)) (fun c6 => ?_)
        show t_X d 264 76 lv [] g5 P
        refine t_0 qty_76 rfl (ld_a l0) ?_
        refine t_3 qty_77 rfl (ar := ([pvR 196], [])) (pcal_v0 rfl rfl el_196) ⟨by omega, Nat.le_of_ble_eq_true rfl, Nat.le_of_ble_eq_true rfl, rfl⟩ ?_
        refine ri_o (by omega) (h := g5) (fun g7 T7 p7 u7 x7 hJ7 => ?_) (fun g50007 hJ50007 => ?_) 241 _ _ (by omega) (by omega) T5 hJ5 rfl
        · show t_X d 264 80 lv [oI (1)] g7 P
          refine tz_eq qty_80 (by decide) ⟨by omega, by omega⟩ (fun c8 => absurd c8 (by omega)) (fun c8 => ?_)
          show t_X d 264 83 lv [] g7 P
          refine t_0 qty_83 rfl rfl ?_
          refine t_1 qty_84 rfl (pb_goto (pc := 84) (by decide)) ?_
          show t_X d 264 88 lv [oI (1)] g7 P
          refine t_2 qty_88 rfl (w := (px_s1 lv 2 (oI (1)), [])) rfl ?_
          replace l0 : px_lg (px_s1 lv 2 (oI (1))) 0 = some (pvR 196) := s1_ne (by decide) (fun _ => rfl) l0
          have l2 : px_lg (px_s1 lv 2 (oI (1))) 2 = some (oI (1)) := s1_eq
          generalize px_s1 lv 2 (oI (1)) = lv9 at l0 l2 ⊢
          show t_X d 264 89 lv9 [] g7 P
          refine t_1 qty_89 rfl (pb_goto (pc := 89) (by decide)) ?_
          show t_X d 264 45 lv9 [] g7 P
          exact ih _ _ (by omega) (by omega) T7 hJ7 l0 l2
        · show t_X d 264 80 lv [oI (0)] g50007 P
          refine tz_eq qty_80 (by decide) ⟨by omega, by omega⟩ (fun c10 => ?_) (fun c10 => absurd c10 (by omega))
          show t_X d 264 87 lv [] g50007 P
          refine t_0 qty_87 rfl rfl ?_
          refine t_2 qty_88 rfl (w := (px_s1 lv 2 (oI (0)), [])) rfl ?_
          replace l0 : px_lg (px_s1 lv 2 (oI (0))) 0 = some (pvR 196) := s1_ne (by decide) (fun _ => rfl) l0
          have l2 : px_lg (px_s1 lv 2 (oI (0))) 2 = some (oI (0)) := s1_eq
          generalize px_s1 lv 2 (oI (0)) = lv11 at l0 l2 ⊢
          show t_X d 264 89 lv11 [] g50007 P
          refine t_1 qty_89 rfl (pb_goto (pc := 89) (by decide)) ?_
          show t_X d 264 45 lv11 [] g50007 P
          exact ty_z (by omega) hP hJ50007 l0 l2
      · show t_X d 264 73 lv [oI (0)] g50005 P
        refine tz_eq qty_73 (by decide) ⟨by omega, by omega⟩ (fun c12 => ?_) (fun c12 => absurd c12 (by omega))
        show t_X d 264 87 lv [] g50005 P
        refine t_0 qty_87 rfl rfl ?_
        refine t_2 qty_88 rfl (w := (px_s1 lv 2 (oI (0)), [])) rfl ?_
        replace l0 : px_lg (px_s1 lv 2 (oI (0))) 0 = some (pvR 196) := s1_ne (by decide) (fun _ => rfl) l0
        have l2 : px_lg (px_s1 lv 2 (oI (0))) 2 = some (oI (0)) := s1_eq
        generalize px_s1 lv 2 (oI (0)) = lv13 at l0 l2 ⊢
        show t_X d 264 89 lv13 [] g50005 P
        refine t_1 qty_89 rfl (pb_goto (pc := 89) (by decide)) ?_
        show t_X d 264 45 lv13 [] g50005 P
        exact ty_z (by omega) hP hJ50005 l0 l2
    · show t_X d 264 60 lv [] g P
      refine t_0 qty_60 rfl (ld_a l0) ?_
      have r14 := fF_b g 26
      refine t_0 qty_61 rfl (pq_gf (y := 26) rfl) ?_
      refine tz_le qty_64 (by decide) ⟨by omega, by omega⟩ (fun c15 => ?_) (fun c15 => ?_)
      · show t_X d 264 92 lv [] g P
        exact ty_e (by omega) hP hJ (Or.inr ⟨rfl, hT⟩) l0 l2
      · show t_X d 264 67 lv [] g P
        refine t_0 qty_67 rfl (ld_a l0) ?_
        refine t_0 qty_68 rfl (pq_b (by decide)) ?_
        refine t_3 qty_70 rfl (ar := ([pvR 196, oI (44)], [])) (pcal_v1 rfl rfl el_196) ⟨by omega, Nat.le_of_ble_eq_true rfl, Nat.le_of_ble_eq_true rfl, rfl⟩ ?_
        refine tk_run (by omega) hJ w_18 w_20 (by omega) (by omega) (by decide) (fun g16 p16 u16 hJ16 f16 a16 => ?_) (fun g50016 hJ50016 => ?_) rfl rfl
        · have q16_19 := f16 19 (by decide)
          have q16_25 := f16 25 (by decide)
          have q16_26 := f16 26 (by decide)
          have T16 : tJ g16 := by
            unfold tJ
            rw [q16_25, q16_26, a16]
            exact hT
          show t_X d 264 73 lv [oI (1)] g16 P
          refine tz_eq qty_73 (by decide) ⟨by omega, by omega⟩ (fun c17 => absurd c17 (by omega)) (fun c17 => ?_)
          show t_X d 264 76 lv [] g16 P
          refine t_0 qty_76 rfl (ld_a l0) ?_
          refine t_3 qty_77 rfl (ar := ([pvR 196], [])) (pcal_v0 rfl rfl el_196) ⟨by omega, Nat.le_of_ble_eq_true rfl, Nat.le_of_ble_eq_true rfl, rfl⟩ ?_
          refine ri_o (by omega) (h := g16) (fun g18 T18 p18 u18 x18 hJ18 => ?_) (fun g50018 hJ50018 => ?_) 241 _ _ (by omega) (by omega) T16 hJ16 rfl
          · show t_X d 264 80 lv [oI (1)] g18 P
            refine tz_eq qty_80 (by decide) ⟨by omega, by omega⟩ (fun c19 => absurd c19 (by omega)) (fun c19 => ?_)
            show t_X d 264 83 lv [] g18 P
            refine t_0 qty_83 rfl rfl ?_
            refine t_1 qty_84 rfl (pb_goto (pc := 84) (by decide)) ?_
            show t_X d 264 88 lv [oI (1)] g18 P
            refine t_2 qty_88 rfl (w := (px_s1 lv 2 (oI (1)), [])) rfl ?_
            replace l0 : px_lg (px_s1 lv 2 (oI (1))) 0 = some (pvR 196) := s1_ne (by decide) (fun _ => rfl) l0
            have l2 : px_lg (px_s1 lv 2 (oI (1))) 2 = some (oI (1)) := s1_eq
            generalize px_s1 lv 2 (oI (1)) = lv20 at l0 l2 ⊢
            show t_X d 264 89 lv20 [] g18 P
            refine t_1 qty_89 rfl (pb_goto (pc := 89) (by decide)) ?_
            show t_X d 264 45 lv20 [] g18 P
            exact ih _ _ (by omega) (by omega) T18 hJ18 l0 l2
          · show t_X d 264 80 lv [oI (0)] g50018 P
            refine tz_eq qty_80 (by decide) ⟨by omega, by omega⟩ (fun c21 => ?_) (fun c21 => absurd c21 (by omega))
            show t_X d 264 87 lv [] g50018 P
            refine t_0 qty_87 rfl rfl ?_
            refine t_2 qty_88 rfl (w := (px_s1 lv 2 (oI (0)), [])) rfl ?_
            replace l0 : px_lg (px_s1 lv 2 (oI (0))) 0 = some (pvR 196) := s1_ne (by decide) (fun _ => rfl) l0
            have l2 : px_lg (px_s1 lv 2 (oI (0))) 2 = some (oI (0)) := s1_eq
            generalize px_s1 lv 2 (oI (0)) = lv22 at l0 l2 ⊢
            show t_X d 264 89 lv22 [] g50018 P
            refine t_1 qty_89 rfl (pb_goto (pc := 89) (by decide)) ?_
            show t_X d 264 45 lv22 [] g50018 P
            exact ty_z (by omega) hP hJ50018 l0 l2
        · show t_X d 264 73 lv [oI (0)] g50016 P
          refine tz_eq qty_73 (by decide) ⟨by omega, by omega⟩ (fun c23 => ?_) (fun c23 => absurd c23 (by omega))
          show t_X d 264 87 lv [] g50016 P
          refine t_0 qty_87 rfl rfl ?_
          refine t_2 qty_88 rfl (w := (px_s1 lv 2 (oI (0)), [])) rfl ?_
          replace l0 : px_lg (px_s1 lv 2 (oI (0))) 0 = some (pvR 196) := s1_ne (by decide) (fun _ => rfl) l0
          have l2 : px_lg (px_s1 lv 2 (oI (0))) 2 = some (oI (0)) := s1_eq
          generalize px_s1 lv 2 (oI (0)) = lv24 at l0 l2 ⊢
          show t_X d 264 89 lv24 [] g50016 P
          refine t_1 qty_89 rfl (pb_goto (pc := 89) (by decide)) ?_
          show t_X d 264 45 lv24 [] g50016 P
          exact ty_z (by omega) hP hJ50016 l0 l2
set_option maxHeartbeats 8000000 in
theorem ty_run {d : Nat} (hd : 8 ≤ d) {g : pH} (hG : g_I eG g) {n : Int} (hn : -2147483648 ≤ n ∧ n ≤ 2147483647) {P : Option pv × pH → Prop} (hP : ∀ (g1 : pH) (z : Int), J_ Wt g g1 → P (some (oI z), g1)) {lv : List (Nat × pv)} (l0 : px_lg lv 0 = some (pvR 196)) (l1 : px_lg lv 1 = some (oI n)) : t_X d 264 0 lv [] g P := by
  obtain ⟨w_17, w_18, w_19, w_20, w_21, w_24, w_25, w_26⟩ := Wt_f
  obtain ⟨w_a212, w_a213, w_a214, w_a215, -⟩ := Wt_a
  have hJ0 : J_ Wt g g := J_rf hG
  refine t_0 qty_0 rfl (ld_i l1) ?_
  refine t_0 qty_1 rfl rfl ?_
  refine t_0 qty_2 rfl (pq_b (by decide)) ?_
  refine t_3 qty_4 rfl (ar := ([oI (n), oI (1), oI (120)], [])) (pcal_s ⟨Or.inl rfl, rfl, Nat.le_of_ble_eq_true rfl⟩) ⟨by omega, Nat.le_of_ble_eq_true rfl, Nat.le_of_ble_eq_true rfl, rfl⟩ ?_
  refine in_run ⟨by omega, by omega⟩ ⟨by omega, by omega⟩ ⟨by omega, by omega⟩ rfl rfl rfl (fun t1 => ?_) (fun t1 => ?_)
  · show t_X d 264 7 lv [oI (1)] g P
    refine tz_eq qty_7 (by decide) ⟨by omega, by omega⟩ (fun c2 => absurd c2 (by omega)) (fun c2 => ?_)
    show t_X d 264 10 lv [] g P
    refine t_0 qty_10 rfl (ld_i l1) ?_
    refine t_0 qty_11 rfl (ld_a l0) ?_
    have r3 := gb_f hJ0.1 (y := 17) rfl rfl gf_17
    refine t_0 qty_12 rfl (pq_gf (y := 17) rfl) ?_
    refine tb_le qty_15 (by decide) ⟨by omega, by omega⟩ ⟨by omega, by omega⟩ (fun c4 => ?_) (fun c4 => ?_)
    · show t_X d 264 20 lv [] g P
      refine t_0 qty_20 rfl (ld_a l0) ?_
      refine t_0 qty_21 rfl rfl ?_
      refine tw_f qty_22 rfl hJ0 w_18 gf_18 (by decide) ⟨by omega, by omega⟩ (fun g5 hJ5 v5 f5 a5 => ?_)
      replace a5 := fA_2 a5
      have q5_19 := f5 19 (by decide)
      have q5_25 := f5 25 (by decide)
      have q5_26 := f5 26 (by decide)
      show t_X d 264 25 lv [] g5 P
      refine t_0 qty_25 rfl (ld_a l0) ?_
      refine t_0 qty_26 rfl (ld_i l1) ?_
      refine tw_f qty_27 rfl hJ5 w_19 gf_19 (by decide) ⟨by omega, by omega⟩ (fun g6 hJ6 v6 f6 a6 => ?_)
      replace a6 := fA_2 a6
      have q6_18 := f6 18 (by decide)
      have q6_25 := f6 25 (by decide)
      have q6_26 := f6 26 (by decide)
      show t_X d 264 30 lv [] g6 P
      refine t_0 qty_30 rfl (ld_a l0) ?_
      refine t_0 qty_31 rfl rfl ?_
      refine tw_f qty_32 rfl hJ6 w_25 gf_25 (by decide) ⟨by omega, by omega⟩ (fun g7 hJ7 v7 f7 a7 => ?_)
      replace a7 := fA_2 a7
      have q7_18 := f7 18 (by decide)
      have q7_19 := f7 19 (by decide)
      have q7_26 := f7 26 (by decide)
      show t_X d 264 35 lv [] g7 P
      refine t_0 qty_35 rfl (ld_a l0) ?_
      refine t_0 qty_36 rfl rfl ?_
      refine tw_f qty_37 rfl hJ7 w_26 gf_26 (by decide) ⟨by omega, by omega⟩ (fun g8 hJ8 v8 f8 a8 => ?_)
      replace a8 := fA_2 a8
      have q8_18 := f8 18 (by decide)
      have q8_19 := f8 19 (by decide)
      have q8_25 := f8 25 (by decide)
      show t_X d 264 40 lv [] g8 P
      have T0 : tJ g8 := ⟨by omega, fun j hj => absurd hj (by omega), fun j hj => absurd hj (by omega)⟩
      refine t_0 qty_40 rfl (ld_a l0) ?_
      refine t_3 qty_41 rfl (ar := ([pvR 196], [])) (pcal_v0 rfl rfl el_196) ⟨by omega, Nat.le_of_ble_eq_true rfl, Nat.le_of_ble_eq_true rfl, rfl⟩ ?_
      refine ri_o (by omega) (h := g8) (fun g9 T9 p9 u9 x9 hJ9 => ?_) (fun g50009 hJ50009 => ?_) 241 _ _ (by omega) (by omega) T0 hJ8 rfl
      · show t_X d 264 44 lv [oI (1)] g9 P
        refine t_2 qty_44 rfl (w := (px_s1 lv 2 (oI (1)), [])) rfl ?_
        replace l0 : px_lg (px_s1 lv 2 (oI (1))) 0 = some (pvR 196) := s1_ne (by decide) (fun _ => rfl) l0
        replace l1 : px_lg (px_s1 lv 2 (oI (1))) 1 = some (oI (n)) := s1_ne (by decide) (fun _ => rfl) l1
        have l2 : px_lg (px_s1 lv 2 (oI (1))) 2 = some (oI (1)) := s1_eq
        generalize px_s1 lv 2 (oI (1)) = lv10 at l0 l1 l2 ⊢
        show t_X d 264 45 lv10 [] g9 P
        exact ty_l (by omega) (N := n) (by omega) hP 241 _ _ (by omega) (by omega) T9 hJ9 l0 l2
      · show t_X d 264 44 lv [oI (0)] g50009 P
        refine t_2 qty_44 rfl (w := (px_s1 lv 2 (oI (0)), [])) rfl ?_
        replace l0 : px_lg (px_s1 lv 2 (oI (0))) 0 = some (pvR 196) := s1_ne (by decide) (fun _ => rfl) l0
        replace l1 : px_lg (px_s1 lv 2 (oI (0))) 1 = some (oI (n)) := s1_ne (by decide) (fun _ => rfl) l1
        have l2 : px_lg (px_s1 lv 2 (oI (0))) 2 = some (oI (0)) := s1_eq
        generalize px_s1 lv 2 (oI (0)) = lv11 at l0 l1 l2 ⊢
        show t_X d 264 45 lv11 [] g50009 P
        exact ty_z (by omega) hP hJ50009 l0 l2
    · show t_X d 264 18 lv [] g P
      refine t_0 qty_18 rfl rfl ?_
      refine t_5 qty_19 rfl rfl ?_
      exact hP _ _ hJ0
  · show t_X d 264 7 lv [oI (0)] g P
    refine tz_eq qty_7 (by decide) ⟨by omega, by omega⟩ (fun c12 => ?_) (fun c12 => absurd c12 (by omega))
    show t_X d 264 18 lv [] g P
    refine t_0 qty_18 rfl rfl ?_
    refine t_5 qty_19 rfl rfl ?_
    exact hP _ _ hJ0
end
section
/-! by hand: the law's reader: words for codes and for what waits -/
def isN (e : Int) : Prop := (2 ≤ e / 1048576 ∧ e / 1048576 ≤ 6) ∨ e / 1048576 = 10
def nW (e : Int) : Int := if (2 ≤ e / 1048576 ∧ e / 1048576 ≤ 6) ∨ e / 1048576 = 10 then 1 else 0
theorem nW_1 {e : Int} (h : (2 ≤ e / 1048576 ∧ e / 1048576 ≤ 6) ∨ e / 1048576 = 10) : nW e = 1 := if_pos h
theorem nW_0 {e : Int} (h : ¬ ((2 ≤ e / 1048576 ∧ e / 1048576 ≤ 6) ∨ e / 1048576 = 10)) : nW e = 0 := if_neg h
theorem nW_b (e : Int) : 0 ≤ nW e ∧ nW e ≤ 1 := by
  unfold nW
  split <;> omega
def kW (v : Nat → Int) : Nat → Int
  | 0 => 0
  | n + 1 => kW v n + nW (v n)
theorem kW_e {v u : Nat → Int} : ∀ {n : Nat}, (∀ k, k < n → v k = u k) → kW v n = kW u n
  | 0, _ => rfl
  | n + 1, h => by
    show kW v n + nW (v n) = kW u n + nW (u n)
    rw [kW_e (n := n) (fun k hk => h k (by omega)), h n (by omega)]
theorem kW_0 (v : Nat → Int) : ∀ n : Nat, 0 ≤ kW v n
  | 0 => Int.le_refl 0
  | n + 1 => by
    have := kW_0 v n
    have := nW_b (v n)
    show 0 ≤ kW v n + nW (v n)
    omega
theorem kW_le (v : Nat → Int) {b : Nat} : ∀ {n : Nat}, b ≤ n → kW v b ≤ kW v n
  | 0, h => by
    obtain rfl : b = 0 := by omega
    exact Int.le_refl _
  | n + 1, h => by
    by_cases e : b = n + 1
    · subst e; exact Int.le_refl _
    · have := kW_le v (b := b) (n := n) (by omega)
      have := nW_b (v n)
      show kW v b ≤ kW v n + nW (v n)
      omega
theorem kW_S {v : Nat → Int} {w : Int} (h : 0 ≤ w) : kW v (w + 1).toNat = kW v w.toNat + nW (v w.toNat) := by
  rw [show (w + 1).toNat = w.toNat + 1 by omega]
  rfl
theorem kW_P {v : Nat → Int} {w : Int} (h : 1 ≤ w) : kW v w.toNat = kW v (w - 1).toNat + nW (v (w - 1).toNat) := by
  rw [show w.toNat = (w - 1).toNat + 1 by omega]
  rfl
def ef (c : Int) : Int := if c / 1048576 ≤ 1 then 1 else if c / 1048576 = 10 then 0 else -1
def dS (f : Nat → Int) : Nat → Int
  | 0 => 0
  | n + 1 => dS f n + ef (f n)
theorem dS_e {f f2 : Nat → Int} : ∀ {n : Nat}, (∀ k, k < n → ef (f k) = ef (f2 k)) → dS f n = dS f2 n
  | 0, _ => rfl
  | n + 1, h => by
    show dS f n + ef (f n) = dS f2 n + ef (f2 n)
    rw [dS_e (n := n) (fun k hk => h k (by omega)), h n (by omega)]
theorem dS_S {f : Nat → Int} {c : Int} (h : 0 ≤ c) : dS f (c + 1).toNat = dS f c.toNat + ef (f c.toNat) := by
  rw [show (c + 1).toNat = c.toNat + 1 by omega]
  rfl
theorem ef_1 {c : Int} (h : c / 1048576 ≤ 1) : ef c = 1 := if_pos h
theorem ef_0 {c : Int} (h : c / 1048576 = 10) : ef c = 0 := by
  unfold ef
  rw [if_neg (by omega), if_pos h]
theorem ef_m {c : Int} (h : 2 ≤ c / 1048576) (h2 : c / 1048576 ≠ 10) : ef c = -1 := by
  unfold ef
  rw [if_neg (by omega), if_neg h2]
theorem ef_b (c : Int) : ef c ≤ 1 := by
  unfold ef
  split
  · omega
  · split <;> omega
theorem dS_b (f : Nat → Int) {a : Nat} : ∀ {n : Nat}, a ≤ n → dS f n - dS f a ≤ n - a
  | 0, h => by
    obtain rfl : a = 0 := by omega
    show dS f 0 - dS f 0 ≤ _
    omega
  | n + 1, h => by
    by_cases e : a = n + 1
    · subst e; omega
    · have := dS_b f (a := a) (n := n) (by omega)
      have := ef_b (f n)
      show dS f n + ef (f n) - dS f a ≤ _
      omega
/-- codes of a sum that begins at c0 -/
def wS (f : Nat → Int) (c0 k : Nat) : Prop := 0 ≤ f k ∧ f k / 1048576 ≤ 6 ∧ (f k / 1048576 = 1 → f k % 1048576 ≤ 10) ∧ 0 ≤ dS f k - dS f c0 ∧ (2 ≤ f k / 1048576 → 2 ≤ dS f k - dS f c0)
def sJ (c0 b : Nat) (p0 : Int) (f0 w0 : Nat → Int) (p c w : Int) (f v : Nat → Int) (δ : Int) : Prop :=
  ((c0 : Int) ≤ c ∧ (b : Int) ≤ w ∧ w ≤ p ∧ p0 ≤ p ∧ c + kW v w.toNat ≤ c0 + kW w0 b + (p - p0)) ∧ (∀ j, j < b → v j = w0 j) ∧ (∀ k, k < c0 → f k = f0 k) ∧ (∀ j : Nat, b ≤ j → (j : Int) < w → 0 ≤ v j ∧ ((2 ≤ v j / 1048576 ∧ v j / 1048576 ≤ 6) ∨ v j / 1048576 = 14)) ∧ (∀ k : Nat, c0 ≤ k → (k : Int) < c → wS f c0 k) ∧ dS f c.toNat = dS f c0 + (kW v w.toNat - kW w0 b) + δ
section SJ
variable {c0 b : Nat} {p0 : Int} {f0 w0 : Nat → Int} {p c w : Int} {f v : Nat → Int} {δ : Int}
theorem sJ_st {f v : Nat → Int} {p : Int} (hp : (b : Int) ≤ p) : sJ c0 b p f v p c0 b f v 0 := by
  refine ⟨⟨Int.le_refl _, Int.le_refl _, hp, Int.le_refl _, ?_⟩, fun _ _ => rfl, fun _ _ => rfl, fun j h1 h2 => absurd h2 (by omega), fun k h1 h2 => absurd h2 (by omega), ?_⟩
  · rw [Int.toNat_natCast]
    omega
  · rw [Int.toNat_natCast, Int.toNat_natCast]
    omega
/-- a code more -/
theorem wS_up {f2 : Nat → Int} (h0 : 0 ≤ c) (hu : ∀ k, k ≠ c.toNat → f2 k = f k) {k : Nat} (hk : (k : Int) ≤ c) : dS f2 k = dS f k := dS_e (fun j hj => by rw [hu j (by omega)])
theorem sJ_kb (h : sJ c0 b p0 f0 w0 p c w f v δ) : kW v b = kW w0 b := kW_e (fun k hk => h.2.1 k hk)
theorem sJ_kl (h : sJ c0 b p0 f0 w0 p c w f v δ) : kW w0 b ≤ kW v w.toNat := by
  rw [← sJ_kb h]
  exact kW_le v (by have := h.1.2.1; omega)
theorem sJ_p (h : sJ c0 b p0 f0 w0 p c w f v δ) {p' : Int} (hp : p ≤ p') : sJ c0 b p0 f0 w0 p' c w f v δ := ⟨⟨h.1.1, h.1.2.1, by have := h.1.2.2.1; omega, by have := h.1.2.2.2.1; omega, by have := h.1.2.2.2.2; omega⟩, h.2⟩
theorem sJ_num (h : sJ c0 b p0 f0 w0 p c w f v 0) {f2 : Nat → Int} {x p' : Int} (hp : p + 1 ≤ p') (hx : 0 ≤ x ∧ x / 1048576 ≤ 1 ∧ (x / 1048576 = 1 → x % 1048576 ≤ 10)) (e1 : f2 c.toNat = x) (e2 : ∀ k, k ≠ c.toNat → f2 k = f k) : sJ c0 b p0 f0 w0 p' (c + 1) w f2 v 1 := by
  have hkl := sJ_kl h
  obtain ⟨⟨a1, a2, a3, a4, a5⟩, h1, h2, h3, h4, h5⟩ := h
  have hd : ∀ k : Nat, (k : Int) ≤ c → dS f2 k = dS f k := fun k hk => wS_up (by omega) e2 hk
  refine ⟨⟨by omega, by omega, by omega, by omega, by omega⟩, h1, fun k hk => by rw [e2 k (by omega)]; exact h2 k hk, h3, fun k k1 k2 => ?_, ?_⟩
  · by_cases q : k = c.toNat
    · subst q
      unfold wS
      rw [e1, hd _ (by omega), hd c0 (by omega), h5]
      exact ⟨hx.1, by omega, hx.2.2, by omega, fun _ => by omega⟩
    · have := h4 k k1 (by omega)
      unfold wS at this ⊢
      rw [e2 k q, hd k (by omega), hd c0 (by omega)]
      exact this
  · rw [dS_S (by omega), e1, ef_1 hx.2.1, hd _ (by omega), hd c0 (by omega), h5]
    omega
theorem sJ_push (h : sJ c0 b p0 f0 w0 p c w f v δ) {v2 : Nat → Int} {x : Int} (hx : 0 ≤ x ∧ ((2 ≤ x / 1048576 ∧ x / 1048576 ≤ 6 ∧ δ = 1) ∨ (x / 1048576 = 14 ∧ δ = 0))) (e1 : v2 w.toNat = x) (e2 : ∀ k, k ≠ w.toNat → v2 k = v k) : sJ c0 b p0 f0 w0 (p + 1) c (w + 1) f v2 0 := by
  obtain ⟨⟨a1, a2, a3, a4, a5⟩, h1, h2, h3, h4, h5⟩ := h
  have hk : kW v2 w.toNat = kW v w.toNat := kW_e (fun k hk => e2 k (by omega))
  have hn : nW x = δ := by
    rcases hx.2 with q | q
    · rw [nW_1 (by omega), q.2.2]
    · rw [nW_0 (by omega), q.2]
  have hS : kW v2 (w + 1).toNat = kW v w.toNat + δ := by rw [kW_S (by omega), hk, e1, hn]
  refine ⟨⟨by omega, by omega, by omega, by omega, ?_⟩, fun j hj => by rw [e2 j (by omega)]; exact h1 j hj, h2, fun j j1 j2 => ?_, h4, ?_⟩
  · rw [hS]
    rcases hx.2 with q | q <;> omega
  · by_cases q : j = w.toNat
    · subst q
      rw [e1]
      exact ⟨hx.1, by omega⟩
    · rw [e2 j q]
      exact h3 j j1 (by omega)
  · rw [hS, h5]
    omega
theorem sJ_close (h : sJ c0 b p0 f0 w0 p c w f v 1) (hw : (b : Int) < w) {f2 : Nat → Int} {x : Int} (ho : 2 ≤ v (w - 1).toNat / 1048576 ∧ v (w - 1).toNat / 1048576 ≤ 6) (hx : 0 ≤ x ∧ 2 ≤ x / 1048576 ∧ x / 1048576 ≤ 6) (e1 : f2 c.toNat = x) (e2 : ∀ k, k ≠ c.toNat → f2 k = f k) : sJ c0 b p0 f0 w0 p (c + 1) (w - 1) f2 v 1 := by
  have hkb := sJ_kb h
  obtain ⟨⟨a1, a2, a3, a4, a5⟩, h1, h2, h3, h4, h5⟩ := h
  have hd : ∀ k : Nat, (k : Int) ≤ c → dS f2 k = dS f k := fun k hk => wS_up (by omega) e2 hk
  have hP := kW_P (v := v) (w := w) (by omega)
  rw [nW_1 (by omega)] at hP
  have hle := kW_le v (b := b) (n := (w - 1).toNat) (by omega)
  refine ⟨⟨by omega, by omega, by omega, by omega, by omega⟩, h1, fun k hk => by rw [e2 k (by omega)]; exact h2 k hk, fun j j1 j2 => h3 j j1 (by omega), fun k k1 k2 => ?_, ?_⟩
  · by_cases q : k = c.toNat
    · subst q
      unfold wS
      rw [e1, hd _ (by omega), hd c0 (by omega), h5]
      exact ⟨hx.1, hx.2.2, fun z => by omega, by omega, fun _ => by omega⟩
    · have := h4 k k1 (by omega)
      unfold wS at this ⊢
      rw [e2 k q, hd k (by omega), hd c0 (by omega)]
      exact this
  · rw [dS_S (by omega), e1, ef_m hx.2.1 (by omega), hd _ (by omega), hd c0 (by omega), h5]
    omega
theorem sJ_pop (h : sJ c0 b p0 f0 w0 p c w f v δ) (hw : (b : Int) < w) (ho : v (w - 1).toNat / 1048576 = 14) : sJ c0 b p0 f0 w0 p c (w - 1) f v δ := by
  obtain ⟨⟨a1, a2, a3, a4, a5⟩, h1, h2, h3, h4, h5⟩ := h
  have hP := kW_P (v := v) (w := w) (by omega)
  rw [nW_0 (by omega)] at hP
  exact ⟨⟨by omega, by omega, by omega, by omega, by omega⟩, h1, h2, fun j j1 j2 => h3 j j1 (by omega), h4, by rw [h5]; omega⟩
end SJ
/-- codes of a condition that begins at a -/
def wC (f v : Nat → Int) (a : Nat) (c w : Int) (k : Nat) : Prop := (0 ≤ f k ∧ f k / 1048576 ≤ 12 ∧ (f k / 1048576 = 1 → f k % 1048576 ≤ 10) ∧ 0 ≤ dS f k - dS f a ∧ (f k / 1048576 = 10 → 1 ≤ dS f k - dS f a) ∧ (2 ≤ f k / 1048576 ∧ f k / 1048576 ≤ 9 → 2 ≤ dS f k - dS f a)) ∧ (11 ≤ f k / 1048576 → dS f k - dS f a = 1 ∧ (((k : Int) < f k % 1048576 ∧ f k % 1048576 ≤ c ∧ dS f (f k % 1048576).toNat - dS f a = 1) ∨ ∃ j : Nat, (j : Int) < w ∧ 11 ≤ v j / 1048576 ∧ v j / 1048576 ≤ 12 ∧ v j % 1048576 = k))
def pC (f v : Nat → Int) (a : Nat) (c : Int) (j : Nat) : Prop := 0 ≤ v j ∧ ¬ (2 ≤ v j / 1048576 ∧ v j / 1048576 ≤ 6) ∧ (11 ≤ v j / 1048576 ∧ v j / 1048576 ≤ 12 → (a : Int) ≤ v j % 1048576 ∧ v j % 1048576 < c ∧ 11 ≤ f (v j % 1048576).toNat / 1048576 ∧ dS f (v j % 1048576).toNat - dS f a = 1)
def cJ (a : Nat) (f0 : Nat → Int) (z p c w : Int) (f v : Nat → Int) (δ : Int) : Prop :=
  ((a : Int) ≤ c ∧ 1 ≤ w ∧ w ≤ p ∧ p ≤ 240 ∧ c + kW v w.toNat + z ≤ p) ∧ (∀ k, k < a → f k = f0 k) ∧ (∀ j : Nat, (j : Int) < w → pC f v a c j) ∧ v 0 / 1048576 = 13 ∧ (∀ k : Nat, a ≤ k → (k : Int) < c → wC f v a c w k) ∧ dS f c.toNat - dS f a = δ
section CJ
variable {a : Nat} {f0 : Nat → Int} {z p c w : Int} {f v : Nat → Int} {δ : Int}
theorem cJ_p (h : cJ a f0 z p c w f v δ) {p' z' : Int} (hp : p ≤ p' ∧ p' ≤ 240) (hz : z' - z ≤ p' - p) : cJ a f0 z' p' c w f v δ := ⟨⟨h.1.1, h.1.2.1, by have := h.1.2.2.1; omega, by omega, by have := h.1.2.2.2.2; omega⟩, h.2⟩
theorem wC_v {v2 : Nat → Int} {w2 : Int} {k : Nat} (h : wC f v a c w k) (hj : ∀ j : Nat, (j : Int) < w → 11 ≤ v j / 1048576 → v j / 1048576 ≤ 12 → (j : Int) < w2 ∧ v2 j = v j) : wC f v2 a c w2 k := by
  refine ⟨h.1, fun q => ⟨(h.2 q).1, (h.2 q).2.imp id (fun ⟨j, j1, j2, j3, j4⟩ => ?_)⟩⟩
  have := hj j j1 j2 j3
  exact ⟨j, this.1, by rw [this.2]; exact j2, by rw [this.2]; exact j3, by rw [this.2]; exact j4⟩
/-- one more that waits: ( or ! -/
theorem cJ_open (h : cJ a f0 z p c w f v δ) (hp : p + 1 ≤ 240) {v2 : Nat → Int} {x : Int} (hx : 0 ≤ x ∧ (x / 1048576 = 10 ∨ x / 1048576 = 13)) (e1 : v2 w.toNat = x) (e2 : ∀ k, k ≠ w.toNat → v2 k = v k) : cJ a f0 z (p + 1) c (w + 1) f v2 δ := by
  obtain ⟨⟨a1, a2, a3, a4, a5⟩, h1, h2, h3, h4, h5⟩ := h
  have hk : kW v2 w.toNat = kW v w.toNat := kW_e (fun k hk => e2 k (by omega))
  have hS : kW v2 (w + 1).toNat = kW v w.toNat + nW x := by rw [kW_S (by omega), hk, e1]
  have hb := nW_b x
  refine ⟨⟨a1, by omega, by omega, by omega, by omega⟩, h1, fun j hj => ?_, by rw [e2 0 (by omega)]; exact h3, fun k k1 k2 => wC_v (h4 k k1 k2) (fun j j1 _ _ => ⟨by omega, e2 j (by omega)⟩), h5⟩
  by_cases q : j = w.toNat
  · subst q
    unfold pC
    rw [e1]
    exact ⟨hx.1, by omega, fun y => by omega⟩
  · have := h2 j (by omega)
    unfold pC at this ⊢
    rw [e2 j q]
    exact this
/-- behind a sum -/
theorem cJ_sum (h : cJ a f0 z p c w f v δ) (hδ : 0 ≤ δ) {p2 c2 : Int} {f2 v2 : Nat → Int} (hp2 : p2 ≤ 240) (hs : sJ c.toNat w.toNat p f v p2 c2 w f2 v2 1) : cJ a f0 z p2 c2 w f2 v2 (δ + 1) := by
  obtain ⟨⟨a1, a2, a3, a4, a5⟩, h1, h2, h3, h4, h5⟩ := h
  have hkb := sJ_kb hs
  obtain ⟨⟨b1, b2, b3, b4, b5⟩, g1, g2, g3, g4, g5⟩ := hs
  have hd : ∀ k : Nat, (k : Int) ≤ c → dS f2 k = dS f k := fun k hk => dS_e (fun j hj => by rw [g2 j (by omega)])
  have hc0 := hd c.toNat (by omega)
  have ha0 := hd a (by omega)
  refine ⟨⟨by omega, a2, b3, hp2, by omega⟩, fun k hk => by rw [g2 k (by omega)]; exact h1 k hk, fun j hj => ?_, by rw [g1 0 (by omega)]; exact h3, fun k k1 k2 => ?_, by omega⟩
  · have := h2 j hj
    unfold pC at this ⊢
    rw [g1 j (by omega)]
    refine ⟨this.1, this.2.1, fun y => ?_⟩
    obtain ⟨y1, y2, y3, y4⟩ := this.2.2 y
    rw [g2 _ (by omega), hd _ (by omega), ha0]
    exact ⟨y1, by omega, y3, y4⟩
  · by_cases q : (k : Int) < c
    · have := h4 k k1 q
      unfold wC at this ⊢
      rw [g2 k (by omega), hd k (by omega), ha0]
      refine ⟨this.1, fun y => ⟨(this.2 y).1, ?_⟩⟩
      rcases (this.2 y).2 with ⟨y1, y2, y3⟩ | ⟨j, j1, j2, j3, j4⟩
      · refine Or.inl ⟨y1, by omega, ?_⟩
        rw [hd _ (by omega)]
        exact y3
      · refine Or.inr ⟨j, j1, ?_⟩
        rw [g1 j (by omega)]
        exact ⟨j2, j3, j4⟩
    · have := g4 k (by omega) k2
      unfold wS at this
      exact ⟨⟨this.1, by omega, this.2.2.1, by omega, fun y => by omega, fun y => by omega⟩, fun y => by omega⟩
/-- a code behind: a comparison, or NOT out of what waits -/
theorem cJ_note (h : cJ a f0 z p c w f v δ) {w2 : Int} {f2 : Nat → Int} {x : Int} (hw : (w2 = w ∧ 7 ≤ x / 1048576 ∧ x / 1048576 ≤ 9 ∧ δ = 2 ∧ z = 1) ∨ (w2 = w - 1 ∧ x / 1048576 = 10 ∧ v (w - 1).toNat / 1048576 = 10 ∧ δ = 1 ∧ z = 0)) (hx : 0 ≤ x) (e1 : f2 c.toNat = x) (e2 : ∀ k, k ≠ c.toNat → f2 k = f k) : cJ a f0 0 p (c + 1) w2 f2 v 1 := by
  obtain ⟨⟨a1, a2, a3, a4, a5⟩, h1, h2, h3, h4, h5⟩ := h
  have hd : ∀ k : Nat, (k : Int) ≤ c → dS f2 k = dS f k := fun k hk => wS_up (by omega) e2 hk
  have ha0 := hd a (by omega)
  have hc0 := hd c.toNat (by omega)
  have hw2 : 1 ≤ w2 ∧ w2 ≤ w := by
    rcases hw with q | q
    · omega
    · refine ⟨?_, by omega⟩
      by_cases y : w = 1
      · subst y
        have : v 0 / 1048576 = 10 := q.2.2.1
        omega
      · omega
  have hkw : kW v w2.toNat + 1 ≤ kW v w.toNat + z := by
    rcases hw with ⟨q, -, -, -, q2⟩ | ⟨q, q1, q2, -, q3⟩
    · subst q; omega
    · have hP := kW_P (v := v) (w := w) (by omega)
      rw [nW_1 (Or.inr q2)] at hP
      rw [q]
      omega
  have hef : ef x = 1 - δ := by
    rcases hw with q | q
    · rw [ef_m (by omega) (by omega)]; omega
    · rw [ef_0 q.2.1]; omega
  refine ⟨⟨by omega, hw2.1, by omega, a4, by omega⟩, fun k hk => by rw [e2 k (by omega)]; exact h1 k hk, fun j hj => ?_, h3, fun k k1 k2 => ?_, ?_⟩
  · have := h2 j (by omega)
    unfold pC at this ⊢
    refine ⟨this.1, this.2.1, fun y => ?_⟩
    obtain ⟨y1, y2, y3, y4⟩ := this.2.2 y
    rw [e2 _ (by omega), hd _ (by omega), ha0]
    exact ⟨y1, by omega, y3, y4⟩
  · by_cases q : k = c.toNat
    · subst q
      unfold wC
      rw [e1, hc0, ha0]
      exact ⟨⟨hx, by omega, fun y => by omega, by omega, fun y => by omega, fun y => by omega⟩, fun y => by omega⟩
    · have := h4 k k1 (by omega)
      unfold wC at this ⊢
      rw [e2 k q, hd k (by omega), ha0]
      refine ⟨this.1, fun y => ⟨(this.2 y).1, ?_⟩⟩
      rcases (this.2 y).2 with ⟨y1, y2, y3⟩ | ⟨j, j1, j2, j3, j4⟩
      · refine Or.inl ⟨y1, by omega, ?_⟩
        rw [hd _ (by omega)]
        exact y3
      · refine Or.inr ⟨j, ?_, j2, j3, j4⟩
        rcases hw with u | u
        · omega
        · by_cases y5 : j = (w - 1).toNat
          · subst y5; omega
          · omega
  · rw [dS_S (by omega), e1, hef, hc0, ha0]
    omega
/-- a jump lands -/
theorem ef_q {x y : Int} (h : x / 1048576 = y / 1048576) : ef x = ef y := by
  unfold ef
  rw [h]
theorem cJ_land (h : cJ a f0 0 p c w f v 1) (hq : 11 ≤ v (w - 1).toNat / 1048576 ∧ v (w - 1).toNat / 1048576 ≤ 12) {f2 : Nat → Int} (e1 : f2 (v (w - 1).toNat % 1048576).toNat = 1048576 * (f (v (w - 1).toNat % 1048576).toNat / 1048576) + c) (e2 : ∀ k, k ≠ (v (w - 1).toNat % 1048576).toNat → f2 k = f k) : cJ a f0 0 p c (w - 1) f2 v 1 := by
  obtain ⟨⟨a1, a2, a3, a4, a5⟩, h1, h2, h3, h4, h5⟩ := h
  have hw2 : 2 ≤ w := by
    by_cases y : w = 1
    · subst y
      have : v 0 / 1048576 = 13 := h3
      have : 11 ≤ v 0 / 1048576 ∧ v 0 / 1048576 ≤ 12 := hq
      omega
    · omega
  obtain ⟨r1, r2, r3, r4⟩ := (h2 (w - 1).toNat (by omega)).2.2 hq
  have hk0 := kW_0 v w.toNat
  have hle := kW_le v (b := (w - 1).toNat) (n := w.toNat) (by omega)
  obtain ⟨r, hr⟩ : ∃ r : Nat, (v (w - 1).toNat % 1048576).toNat = r := ⟨_, rfl⟩
  have hri : v (w - 1).toNat % 1048576 = (r : Int) := by omega
  rw [hr] at e1 e2 r3 r4
  have hqd : f2 r / 1048576 = f r / 1048576 := by rw [e1]; omega
  have hqm : f2 r % 1048576 = c := by rw [e1]; omega
  have hg : ∀ k, f2 k / 1048576 = f k / 1048576 := fun k => by
    by_cases q : k = r
    · subst q; exact hqd
    · rw [e2 k q]
  have hd : ∀ k, dS f2 k = dS f k := fun k => dS_e (fun j _ => ef_q (hg j))
  refine ⟨⟨a1, by omega, by omega, a4, by omega⟩, fun k hk => by rw [e2 k (by omega)]; exact h1 k hk, fun j hj => ?_, h3, fun k k1 k2 => ?_, by rw [hd, hd]; exact h5⟩
  · have := h2 j (by omega)
    unfold pC at this ⊢
    rw [hg, hd, hd]
    exact this
  · have := h4 k k1 k2
    unfold wC at this ⊢
    rw [hg k, hd k, hd a]
    by_cases q : k = r
    · subst q
      refine ⟨⟨by rw [e1]; omega, this.1.2.1, fun y => by omega, this.1.2.2.2⟩, fun y => ⟨(this.2 y).1, Or.inl ?_⟩⟩
      rw [hqm, hd]
      exact ⟨by omega, by omega, h5⟩
    · rw [e2 k q]
      refine ⟨this.1, fun y => ⟨(this.2 y).1, ?_⟩⟩
      rcases (this.2 y).2 with ⟨y1, y2, y3⟩ | ⟨j, j1, j2, j3, j4⟩
      · refine Or.inl ⟨y1, y2, ?_⟩
        rw [hd]
        exact y3
      · refine Or.inr ⟨j, ?_, j2, j3, j4⟩
        by_cases y5 : j = (w - 1).toNat
        · subst y5; omega
        · omega
theorem cJ_jump (h : cJ a f0 0 p c w f v 1) (hp : p + 1 ≤ 240) {f2 v2 : Nat → Int} {o : Int} (ho : o = 11 ∨ o = 12) (e1 : f2 c.toNat = 1048576 * o + 0) (e2 : ∀ k, k ≠ c.toNat → f2 k = f k) (u1 : v2 w.toNat = 1048576 * o + c) (u2 : ∀ k, k ≠ w.toNat → v2 k = v k) : cJ a f0 0 (p + 1) (c + 1) (w + 1) f2 v2 0 := by
  obtain ⟨⟨a1, a2, a3, a4, a5⟩, h1, h2, h3, h4, h5⟩ := h
  have hk0 := kW_0 v w.toNat
  have hd : ∀ k : Nat, (k : Int) ≤ c → dS f2 k = dS f k := fun k hk => wS_up (by omega) e2 hk
  have ha0 := hd a (by omega)
  have hc0 := hd c.toNat (by omega)
  have hcm : (1048576 * o + c) % 1048576 = c := by omega
  have hcd : (1048576 * o + c) / 1048576 = o := by omega
  have hk : kW v2 w.toNat = kW v w.toNat := kW_e (fun k hk => u2 k (by omega))
  have hS : kW v2 (w + 1).toNat = kW v w.toNat := by rw [kW_S (by omega), hk, u1, nW_0 (by omega)]; omega
  refine ⟨⟨by omega, by omega, by omega, by omega, by omega⟩, fun k hk => by rw [e2 k (by omega)]; exact h1 k hk, fun j hj => ?_, by rw [u2 0 (by omega)]; exact h3, fun k k1 k2 => ?_, ?_⟩
  · by_cases q : j = w.toNat
    · subst q
      unfold pC
      rw [u1, hcm, e1, hc0, ha0]
      exact ⟨by omega, by omega, fun y => ⟨by omega, by omega, by omega, h5⟩⟩
    · have := h2 j (by omega)
      unfold pC at this ⊢
      rw [u2 j q]
      refine ⟨this.1, this.2.1, fun y => ?_⟩
      obtain ⟨y1, y2, y3, y4⟩ := this.2.2 y
      rw [e2 _ (by omega), hd _ (by omega), ha0]
      exact ⟨y1, by omega, y3, y4⟩
  · by_cases q : k = c.toNat
    · subst q
      unfold wC
      rw [e1, hc0, ha0]
      exact ⟨⟨by omega, by omega, fun y => by omega, by omega, fun y => by omega, fun y => by omega⟩, fun y => ⟨h5, Or.inr ⟨w.toNat, by omega, by rw [u1]; omega, by rw [u1]; omega, by rw [u1]; omega⟩⟩⟩
    · have := wC_v (v2 := v2) (w2 := w + 1) (h4 k k1 (by omega)) (fun j j1 _ _ => ⟨by omega, u2 j (by omega)⟩)
      unfold wC at this ⊢
      rw [e2 k q, hd k (by omega), ha0]
      refine ⟨this.1, fun y => ⟨(this.2 y).1, ?_⟩⟩
      rcases (this.2 y).2 with ⟨y1, y2, y3⟩ | y1
      · refine Or.inl ⟨y1, by omega, ?_⟩
        rw [hd _ (by omega)]
        exact y3
      · exact Or.inr y1
  · rw [dS_S (by omega), e1, ef_m (by omega) (by omega), hc0, ha0]
    omega
theorem cJ_pop (h : cJ a f0 z p c w f v δ) (hw : 2 ≤ w) (hq : ¬ (11 ≤ v (w - 1).toNat / 1048576 ∧ v (w - 1).toNat / 1048576 ≤ 12)) : cJ a f0 z p c (w - 1) f v δ := by
  obtain ⟨⟨a1, a2, a3, a4, a5⟩, h1, h2, h3, h4, h5⟩ := h
  have hle := kW_le v (b := (w - 1).toNat) (n := w.toNat) (by omega)
  refine ⟨⟨a1, by omega, by omega, a4, by omega⟩, h1, fun j hj => h2 j (by omega), h3, fun k k1 k2 => wC_v (h4 k k1 k2) (fun j j1 j2 j3 => ⟨?_, rfl⟩), h5⟩
  by_cases y5 : j = (w - 1).toNat
  · subst y5; omega
  · omega
theorem cJ_st (hp : 1 ≤ p ∧ p ≤ 240) (ha : (a : Int) + z ≤ p) (hv : 0 ≤ v 0 ∧ v 0 / 1048576 = 13) : cJ a f z p a 1 f v 0 := by
  have hk : kW v (1 : Int).toNat = 0 := by
    show 0 + nW (v 0) = 0
    rw [nW_0 (by omega)]
    rfl
  refine ⟨⟨Int.le_refl _, Int.le_refl _, hp.1, hp.2, by omega⟩, fun _ _ => rfl, fun j hj => ?_, hv.2, fun k k1 k2 => absurd k2 (by omega), ?_⟩
  · obtain rfl : j = 0 := by omega
    exact ⟨hv.1, by omega, fun y => by omega⟩
  · rw [Int.toNat_natCast]
    omega
theorem cJ_fin (h : cJ a f0 z p c 1 f v 1) (hz : 0 ≤ z) : ∃ D : Nat → Nat, cOK f D a c := by
  obtain ⟨⟨a1, a2, a3, a4, a5⟩, h1, h2, h3, h4, h5⟩ := h
  have hk0 := kW_0 v (1 : Int).toNat
  refine ⟨fun k => (dS f k - dS f a).toNat, by omega, a1, by omega, ?_, fun k k1 k2 => ?_⟩
  · show (dS f (a : Int).toNat - dS f a).toNat = 0
    rw [Int.toNat_natCast]
    omega
  · have hw := h4 k (by omega) k2
    have hb := dS_b f (a := a) (n := k) (by omega)
    have hs : dS f (k + 1) = dS f k + ef (f k) := rfl
    unfold wC at hw
    refine ⟨⟨hw.1.1, ?_⟩, by show ((dS f k - dS f a).toNat : Int) ≤ _; omega⟩
    show ((f k / 1048576 = 0 ∨ (f k / 1048576 = 1 ∧ f k % 1048576 ≤ 10)) ∧ (dS f (k + 1) - dS f a).toNat = (dS f k - dS f a).toNat + 1) ∨ (f k / 1048576 = 10 ∧ 1 ≤ (dS f k - dS f a).toNat ∧ (dS f (k + 1) - dS f a).toNat = (dS f k - dS f a).toNat) ∨ ((f k / 1048576 = 11 ∨ f k / 1048576 = 12) ∧ 1 ≤ (dS f k - dS f a).toNat ∧ (dS f (k + 1) - dS f a).toNat + 1 = (dS f k - dS f a).toNat ∧ (k : Int) < f k % 1048576 ∧ f k % 1048576 ≤ c ∧ (dS f (f k % 1048576).toNat - dS f a).toNat = (dS f k - dS f a).toNat) ∨ (2 ≤ f k / 1048576 ∧ f k / 1048576 ≤ 9 ∧ 2 ≤ (dS f k - dS f a).toNat ∧ (dS f (k + 1) - dS f a).toNat + 1 = (dS f k - dS f a).toNat)
    rw [hs]
    have hw0 : 0 ≤ f k := hw.1.1
    by_cases q1 : f k / 1048576 ≤ 1
    · rw [ef_1 q1]
      exact Or.inl ⟨by omega, by omega⟩
    by_cases q2 : f k / 1048576 = 10
    · rw [ef_0 q2]
      exact Or.inr (Or.inl ⟨q2, by omega, by omega⟩)
    rw [ef_m (by omega) q2]
    by_cases q3 : 11 ≤ f k / 1048576
    · have := hw.2 q3
      rcases this.2 with ⟨y1, y2, y3⟩ | ⟨j, j1, j2, j3, j4⟩
      · exact Or.inr (Or.inr (Or.inl ⟨by omega, by omega, by omega, y1, y2, by omega⟩))
      · obtain rfl : j = 0 := by omega
        omega
    · exact Or.inr (Or.inr (Or.inr ⟨by omega, by omega, by omega, by omega⟩))
end CJ
theorem sJ_fin {c0 b : Nat} {p0 : Int} {f0 w0 : Nat → Int} {p c w : Int} {f v : Nat → Int} (h : sJ c0 b p0 f0 w0 p c w f v 1) (hc : c ≤ 250) : ∃ D : Nat → Nat, cOK f D c0 c := by
  obtain ⟨⟨a1, a2, a3, a4, a5⟩, h1, h2, h3, h4, h5⟩ := h
  refine ⟨fun k => (dS f k - dS f c0).toNat, by omega, a1, hc, ?_, fun k k1 k2 => ?_⟩
  · show (dS f (c0 : Int).toNat - dS f c0).toNat = 0
    rw [Int.toNat_natCast]
    omega
  · have hw := h4 k (by omega) k2
    have hb := dS_b f (a := c0) (n := k) (by omega)
    have hs : dS f (k + 1) = dS f k + ef (f k) := rfl
    unfold wS at hw
    refine ⟨⟨hw.1, ?_⟩, by show ((dS f k - dS f c0).toNat : Int) ≤ _; omega⟩
    show ((f k / 1048576 = 0 ∨ (f k / 1048576 = 1 ∧ f k % 1048576 ≤ 10)) ∧ (dS f (k + 1) - dS f c0).toNat = (dS f k - dS f c0).toNat + 1) ∨ (f k / 1048576 = 10 ∧ 1 ≤ (dS f k - dS f c0).toNat ∧ (dS f (k + 1) - dS f c0).toNat = (dS f k - dS f c0).toNat) ∨ ((f k / 1048576 = 11 ∨ f k / 1048576 = 12) ∧ 1 ≤ (dS f k - dS f c0).toNat ∧ (dS f (k + 1) - dS f c0).toNat + 1 = (dS f k - dS f c0).toNat ∧ (k : Int) < f k % 1048576 ∧ f k % 1048576 ≤ c ∧ (dS f (f k % 1048576).toNat - dS f c0).toNat = (dS f k - dS f c0).toNat) ∨ (2 ≤ f k / 1048576 ∧ f k / 1048576 ≤ 9 ∧ 2 ≤ (dS f k - dS f c0).toNat ∧ (dS f (k + 1) - dS f c0).toNat + 1 = (dS f k - dS f c0).toNat)
    rw [hs]
    by_cases q1 : f k / 1048576 ≤ 1
    · rw [ef_1 q1]
      exact Or.inl ⟨by omega, by omega⟩
    · rw [ef_m (by omega) (by omega)]
      exact Or.inr (Or.inr (Or.inr ⟨by omega, by omega, by omega, by omega⟩))
theorem cOK_e {f f2 : Nat → Int} {D : Nat → Nat} {a b : Int} (h : cOK f D a b) (he : ∀ k : Nat, a ≤ k → (k : Int) < b → f2 k = f k) : cOK f2 D a b := ⟨h.1, h.2.1, h.2.2.1, h.2.2.2.1, fun k k1 k2 => by rw [he k k1 k2]; exact h.2.2.2.2 k k1 k2⟩
end
section
/-! by hand: the law's reader, small methods (printed in part by wip/e2/la.py) -/
theorem qfo_0 : xe_look (xc 188) 0 = some (.iload_n 0, 1, 0, 0, 0) := by decide +kernel
theorem qfo_1 : xe_look (xc 188) 1 = some (.tableswitch 146 97 122 #[123, 146, 146, 146, 140, 146, 146, 146, 119, 146, 121, 137, 129, 146, 131, 146, 127, 146, 146, 146, 146, 134, 146, 146, 125, 143], 119, 0, 0, 0) := by decide +kernel
theorem qfo_120 : xe_look (xc 188) 120 = some (.iconst 0, 1, 0, 0, 0) := by decide +kernel
theorem qfo_121 : xe_look (xc 188) 121 = some (.ireturn, 1, 0, 0, 0) := by decide +kernel
theorem qfo_122 : xe_look (xc 188) 122 = some (.iconst 1, 1, 0, 0, 0) := by decide +kernel
theorem qfo_123 : xe_look (xc 188) 123 = some (.ireturn, 1, 0, 0, 0) := by decide +kernel
theorem qfo_124 : xe_look (xc 188) 124 = some (.iconst 2, 1, 0, 0, 0) := by decide +kernel
theorem qfo_125 : xe_look (xc 188) 125 = some (.ireturn, 1, 0, 0, 0) := by decide +kernel
theorem qfo_126 : xe_look (xc 188) 126 = some (.iconst 3, 1, 0, 0, 0) := by decide +kernel
theorem qfo_127 : xe_look (xc 188) 127 = some (.ireturn, 1, 0, 0, 0) := by decide +kernel
theorem qfo_128 : xe_look (xc 188) 128 = some (.iconst 4, 1, 0, 0, 0) := by decide +kernel
theorem qfo_129 : xe_look (xc 188) 129 = some (.ireturn, 1, 0, 0, 0) := by decide +kernel
theorem qfo_130 : xe_look (xc 188) 130 = some (.iconst 5, 1, 0, 0, 0) := by decide +kernel
theorem qfo_131 : xe_look (xc 188) 131 = some (.ireturn, 1, 0, 0, 0) := by decide +kernel
theorem qfo_132 : xe_look (xc 188) 132 = some (.bipush 6, 2, 0, 0, 0) := by decide +kernel
theorem qfo_134 : xe_look (xc 188) 134 = some (.ireturn, 1, 0, 0, 0) := by decide +kernel
theorem qfo_135 : xe_look (xc 188) 135 = some (.bipush 7, 2, 0, 0, 0) := by decide +kernel
theorem qfo_137 : xe_look (xc 188) 137 = some (.ireturn, 1, 0, 0, 0) := by decide +kernel
theorem qfo_138 : xe_look (xc 188) 138 = some (.bipush 8, 2, 0, 0, 0) := by decide +kernel
theorem qfo_140 : xe_look (xc 188) 140 = some (.ireturn, 1, 0, 0, 0) := by decide +kernel
theorem qfo_141 : xe_look (xc 188) 141 = some (.bipush 9, 2, 0, 0, 0) := by decide +kernel
theorem qfo_143 : xe_look (xc 188) 143 = some (.ireturn, 1, 0, 0, 0) := by decide +kernel
theorem qfo_144 : xe_look (xc 188) 144 = some (.bipush 10, 2, 0, 0, 0) := by decide +kernel
theorem qfo_146 : xe_look (xc 188) 146 = some (.ireturn, 1, 0, 0, 0) := by decide +kernel
theorem qfo_147 : xe_look (xc 188) 147 = some (.iconst (-1), 1, 0, 0, 0) := by decide +kernel
theorem qfo_148 : xe_look (xc 188) 148 = some (.ireturn, 1, 0, 0, 0) := by decide +kernel
theorem qic_0 : xe_look (xc 202) 0 = some (.iload_n 0, 1, 0, 0, 0) := by decide +kernel
theorem qic_1 : xe_look (xc 202) 1 = some (.bipush 119, 2, 0, 0, 0) := by decide +kernel
theorem qic_3 : xe_look (xc 202) 3 = some (.if_icmp .eq 45, 3, 0, 0, 0) := by decide +kernel
theorem qic_6 : xe_look (xc 202) 6 = some (.iload_n 0, 1, 0, 0, 0) := by decide +kernel
theorem qic_7 : xe_look (xc 202) 7 = some (.bipush 110, 2, 0, 0, 0) := by decide +kernel
theorem qic_9 : xe_look (xc 202) 9 = some (.if_icmp .eq 39, 3, 0, 0, 0) := by decide +kernel
theorem qic_12 : xe_look (xc 202) 12 = some (.iload_n 0, 1, 0, 0, 0) := by decide +kernel
theorem qic_13 : xe_look (xc 202) 13 = some (.bipush 115, 2, 0, 0, 0) := by decide +kernel
theorem qic_15 : xe_look (xc 202) 15 = some (.if_icmp .eq 33, 3, 0, 0, 0) := by decide +kernel
theorem qic_18 : xe_look (xc 202) 18 = some (.iload_n 0, 1, 0, 0, 0) := by decide +kernel
theorem qic_19 : xe_look (xc 202) 19 = some (.bipush 116, 2, 0, 0, 0) := by decide +kernel
theorem qic_21 : xe_look (xc 202) 21 = some (.if_icmp .eq 27, 3, 0, 0, 0) := by decide +kernel
theorem qic_24 : xe_look (xc 202) 24 = some (.iload_n 0, 1, 0, 0, 0) := by decide +kernel
theorem qic_25 : xe_look (xc 202) 25 = some (.bipush 106, 2, 0, 0, 0) := by decide +kernel
theorem qic_27 : xe_look (xc 202) 27 = some (.if_icmp .eq 21, 3, 0, 0, 0) := by decide +kernel
theorem qic_30 : xe_look (xc 202) 30 = some (.iload_n 0, 1, 0, 0, 0) := by decide +kernel
theorem qic_31 : xe_look (xc 202) 31 = some (.bipush 120, 2, 0, 0, 0) := by decide +kernel
theorem qic_33 : xe_look (xc 202) 33 = some (.if_icmp .eq 15, 3, 0, 0, 0) := by decide +kernel
theorem qic_36 : xe_look (xc 202) 36 = some (.iload_n 0, 1, 0, 0, 0) := by decide +kernel
theorem qic_37 : xe_look (xc 202) 37 = some (.bipush 112, 2, 0, 0, 0) := by decide +kernel
theorem qic_39 : xe_look (xc 202) 39 = some (.if_icmp .eq 9, 3, 0, 0, 0) := by decide +kernel
theorem qic_42 : xe_look (xc 202) 42 = some (.iload_n 0, 1, 0, 0, 0) := by decide +kernel
theorem qic_43 : xe_look (xc 202) 43 = some (.bipush 98, 2, 0, 0, 0) := by decide +kernel
theorem qic_45 : xe_look (xc 202) 45 = some (.if_icmp .ne 7, 3, 0, 0, 0) := by decide +kernel
theorem qic_48 : xe_look (xc 202) 48 = some (.iconst 1, 1, 0, 0, 0) := by decide +kernel
theorem qic_49 : xe_look (xc 202) 49 = some (.goto 4, 3, 0, 0, 0) := by decide +kernel
theorem qic_52 : xe_look (xc 202) 52 = some (.iconst 0, 1, 0, 0, 0) := by decide +kernel
theorem qic_53 : xe_look (xc 202) 53 = some (.ireturn, 1, 0, 0, 0) := by decide +kernel
theorem qnt_0 : xe_look (xc 223) 0 = some (.aload_n 0, 1, 0, 0, 0) := by decide +kernel
theorem qnt_1 : xe_look (xc 223) 1 = some (.getfield 68, 3, 12, 36, 1194) := by decide +kernel
theorem qnt_4 : xe_look (xc 223) 4 = some (.aload_n 0, 1, 0, 0, 0) := by decide +kernel
theorem qnt_5 : xe_look (xc 223) 5 = some (.getfield 296, 3, 12, 32, 1222) := by decide +kernel
theorem qnt_8 : xe_look (xc 223) 8 = some (.ldc_w 299, 3, 0, 2148532224, 1151) := by decide +kernel
theorem qnt_11 : xe_look (xc 223) 11 = some (.iload_n 1, 1, 0, 0, 0) := by decide +kernel
theorem qnt_12 : xe_look (xc 223) 12 = some (.imul, 1, 0, 0, 0) := by decide +kernel
theorem qnt_13 : xe_look (xc 223) 13 = some (.iload_n 2, 1, 0, 0, 0) := by decide +kernel
theorem qnt_14 : xe_look (xc 223) 14 = some (.iadd, 1, 0, 0, 0) := by decide +kernel
theorem qnt_15 : xe_look (xc 223) 15 = some (.iastore, 1, 0, 0, 0) := by decide +kernel
theorem qnt_16 : xe_look (xc 223) 16 = some (.aload_n 0, 1, 0, 0, 0) := by decide +kernel
theorem qnt_17 : xe_look (xc 223) 17 = some (.aload_n 0, 1, 0, 0, 0) := by decide +kernel
theorem qnt_18 : xe_look (xc 223) 18 = some (.getfield 296, 3, 12, 32, 1222) := by decide +kernel
theorem qnt_21 : xe_look (xc 223) 21 = some (.iconst 1, 1, 0, 0, 0) := by decide +kernel
theorem qnt_22 : xe_look (xc 223) 22 = some (.iadd, 1, 0, 0, 0) := by decide +kernel
theorem qnt_23 : xe_look (xc 223) 23 = some (.putfield 296, 3, 12, 32, 1222) := by decide +kernel
theorem qnt_26 : xe_look (xc 223) 26 = some (.return_, 1, 0, 0, 0) := by decide +kernel
theorem qop_0 : xe_look (xc 229) 0 = some (.aload_n 0, 1, 0, 0, 0) := by decide +kernel
theorem qop_1 : xe_look (xc 229) 1 = some (.getfield 300, 3, 12, 31, 1170) := by decide +kernel
theorem qop_4 : xe_look (xc 229) 4 = some (.bipush 6, 2, 0, 0, 0) := by decide +kernel
theorem qop_6 : xe_look (xc 229) 6 = some (.if_icmp .ne 13, 3, 0, 0, 0) := by decide +kernel
theorem qop_9 : xe_look (xc 229) 9 = some (.aload_n 0, 1, 0, 0, 0) := by decide +kernel
theorem qop_10 : xe_look (xc 229) 10 = some (.iconst 5, 1, 0, 0, 0) := by decide +kernel
theorem qop_11 : xe_look (xc 229) 11 = some (.aload_n 0, 1, 0, 0, 0) := by decide +kernel
theorem qop_12 : xe_look (xc 229) 12 = some (.getfield 242, 3, 12, 18, 1135) := by decide +kernel
theorem qop_15 : xe_look (xc 229) 15 = some (.invokevirtual 256, 3, 0, 274, 1138) := by decide +kernel
theorem qop_18 : xe_look (xc 229) 18 = some (.ireturn, 1, 0, 0, 0) := by decide +kernel
theorem qop_19 : xe_look (xc 229) 19 = some (.aload_n 0, 1, 0, 0, 0) := by decide +kernel
theorem qop_20 : xe_look (xc 229) 20 = some (.aload_n 0, 1, 0, 0, 0) := by decide +kernel
theorem qop_21 : xe_look (xc 229) 21 = some (.getfield 300, 3, 12, 31, 1170) := by decide +kernel
theorem qop_24 : xe_look (xc 229) 24 = some (.iconst 1, 1, 0, 0, 0) := by decide +kernel
theorem qop_25 : xe_look (xc 229) 25 = some (.iadd, 1, 0, 0, 0) := by decide +kernel
theorem qop_26 : xe_look (xc 229) 26 = some (.putfield 300, 3, 12, 31, 1170) := by decide +kernel
theorem qop_29 : xe_look (xc 229) 29 = some (.aload_n 0, 1, 0, 0, 0) := by decide +kernel
theorem qop_30 : xe_look (xc 229) 30 = some (.getfield 71, 3, 12, 37, 1189) := by decide +kernel
theorem qop_33 : xe_look (xc 229) 33 = some (.aload_n 0, 1, 0, 0, 0) := by decide +kernel
theorem qop_34 : xe_look (xc 229) 34 = some (.getfield 303, 3, 12, 33, 1146) := by decide +kernel
theorem qop_37 : xe_look (xc 229) 37 = some (.ldc_w 299, 3, 0, 2148532224, 1151) := by decide +kernel
theorem qop_40 : xe_look (xc 229) 40 = some (.iload_n 1, 1, 0, 0, 0) := by decide +kernel
theorem qop_41 : xe_look (xc 229) 41 = some (.imul, 1, 0, 0, 0) := by decide +kernel
theorem qop_42 : xe_look (xc 229) 42 = some (.iastore, 1, 0, 0, 0) := by decide +kernel
theorem qop_43 : xe_look (xc 229) 43 = some (.aload_n 0, 1, 0, 0, 0) := by decide +kernel
theorem qop_44 : xe_look (xc 229) 44 = some (.aload_n 0, 1, 0, 0, 0) := by decide +kernel
theorem qop_45 : xe_look (xc 229) 45 = some (.getfield 303, 3, 12, 33, 1146) := by decide +kernel
theorem qop_48 : xe_look (xc 229) 48 = some (.iconst 1, 1, 0, 0, 0) := by decide +kernel
theorem qop_49 : xe_look (xc 229) 49 = some (.iadd, 1, 0, 0, 0) := by decide +kernel
theorem qop_50 : xe_look (xc 229) 50 = some (.putfield 303, 3, 12, 33, 1146) := by decide +kernel
theorem qop_53 : xe_look (xc 229) 53 = some (.aload_n 0, 1, 0, 0, 0) := by decide +kernel
theorem qop_54 : xe_look (xc 229) 54 = some (.aload_n 0, 1, 0, 0, 0) := by decide +kernel
theorem qop_55 : xe_look (xc 229) 55 = some (.getfield 242, 3, 12, 18, 1135) := by decide +kernel
theorem qop_58 : xe_look (xc 229) 58 = some (.iconst 1, 1, 0, 0, 0) := by decide +kernel
theorem qop_59 : xe_look (xc 229) 59 = some (.iadd, 1, 0, 0, 0) := by decide +kernel
theorem qop_60 : xe_look (xc 229) 60 = some (.putfield 242, 3, 12, 18, 1135) := by decide +kernel
theorem qop_63 : xe_look (xc 229) 63 = some (.iconst 1, 1, 0, 0, 0) := by decide +kernel
theorem qop_64 : xe_look (xc 229) 64 = some (.ireturn, 1, 0, 0, 0) := by decide +kernel
theorem qss_0 : xe_look (xc 256) 0 = some (.iload_n 0, 1, 0, 0, 0) := by decide +kernel
theorem qss_1 : xe_look (xc 256) 1 = some (.bipush 43, 2, 0, 0, 0) := by decide +kernel
theorem qss_3 : xe_look (xc 256) 3 = some (.if_icmp .ne 7, 3, 0, 0, 0) := by decide +kernel
theorem qss_6 : xe_look (xc 256) 6 = some (.iconst 2, 1, 0, 0, 0) := by decide +kernel
theorem qss_7 : xe_look (xc 256) 7 = some (.goto 45, 3, 0, 0, 0) := by decide +kernel
theorem qss_10 : xe_look (xc 256) 10 = some (.iload_n 0, 1, 0, 0, 0) := by decide +kernel
theorem qss_11 : xe_look (xc 256) 11 = some (.bipush 45, 2, 0, 0, 0) := by decide +kernel
theorem qss_13 : xe_look (xc 256) 13 = some (.if_icmp .ne 7, 3, 0, 0, 0) := by decide +kernel
theorem qss_16 : xe_look (xc 256) 16 = some (.iconst 3, 1, 0, 0, 0) := by decide +kernel
theorem qss_17 : xe_look (xc 256) 17 = some (.goto 35, 3, 0, 0, 0) := by decide +kernel
theorem qss_20 : xe_look (xc 256) 20 = some (.iload_n 0, 1, 0, 0, 0) := by decide +kernel
theorem qss_21 : xe_look (xc 256) 21 = some (.bipush 42, 2, 0, 0, 0) := by decide +kernel
theorem qss_23 : xe_look (xc 256) 23 = some (.if_icmp .ne 7, 3, 0, 0, 0) := by decide +kernel
theorem qss_26 : xe_look (xc 256) 26 = some (.iconst 4, 1, 0, 0, 0) := by decide +kernel
theorem qss_27 : xe_look (xc 256) 27 = some (.goto 25, 3, 0, 0, 0) := by decide +kernel
theorem qss_30 : xe_look (xc 256) 30 = some (.iload_n 0, 1, 0, 0, 0) := by decide +kernel
theorem qss_31 : xe_look (xc 256) 31 = some (.bipush 47, 2, 0, 0, 0) := by decide +kernel
theorem qss_33 : xe_look (xc 256) 33 = some (.if_icmp .ne 7, 3, 0, 0, 0) := by decide +kernel
theorem qss_36 : xe_look (xc 256) 36 = some (.iconst 5, 1, 0, 0, 0) := by decide +kernel
theorem qss_37 : xe_look (xc 256) 37 = some (.goto 15, 3, 0, 0, 0) := by decide +kernel
theorem qss_40 : xe_look (xc 256) 40 = some (.iload_n 0, 1, 0, 0, 0) := by decide +kernel
theorem qss_41 : xe_look (xc 256) 41 = some (.bipush 37, 2, 0, 0, 0) := by decide +kernel
theorem qss_43 : xe_look (xc 256) 43 = some (.if_icmp .ne 8, 3, 0, 0, 0) := by decide +kernel
theorem qss_46 : xe_look (xc 256) 46 = some (.bipush 6, 2, 0, 0, 0) := by decide +kernel
theorem qss_48 : xe_look (xc 256) 48 = some (.goto 4, 3, 0, 0, 0) := by decide +kernel
theorem qss_51 : xe_look (xc 256) 51 = some (.iconst (-1), 1, 0, 0, 0) := by decide +kernel
theorem qss_52 : xe_look (xc 256) 52 = some (.ireturn, 1, 0, 0, 0) := by decide +kernel
theorem qwt_0 : xe_look (xc 272) 0 = some (.aload_n 0, 1, 0, 0, 0) := by decide +kernel
theorem qwt_1 : xe_look (xc 272) 1 = some (.getfield 303, 3, 12, 33, 1146) := by decide +kernel
theorem qwt_4 : xe_look (xc 272) 4 = some (.ifCond .ne 7, 3, 0, 0, 0) := by decide +kernel
theorem qwt_7 : xe_look (xc 272) 7 = some (.iconst (-1), 1, 0, 0, 0) := by decide +kernel
theorem qwt_8 : xe_look (xc 272) 8 = some (.goto 18, 3, 0, 0, 0) := by decide +kernel
theorem qwt_11 : xe_look (xc 272) 11 = some (.aload_n 0, 1, 0, 0, 0) := by decide +kernel
theorem qwt_12 : xe_look (xc 272) 12 = some (.getfield 71, 3, 12, 37, 1189) := by decide +kernel
theorem qwt_15 : xe_look (xc 272) 15 = some (.aload_n 0, 1, 0, 0, 0) := by decide +kernel
theorem qwt_16 : xe_look (xc 272) 16 = some (.getfield 303, 3, 12, 33, 1146) := by decide +kernel
theorem qwt_19 : xe_look (xc 272) 19 = some (.iconst 1, 1, 0, 0, 0) := by decide +kernel
theorem qwt_20 : xe_look (xc 272) 20 = some (.isub, 1, 0, 0, 0) := by decide +kernel
theorem qwt_21 : xe_look (xc 272) 21 = some (.iaload, 1, 0, 0, 0) := by decide +kernel
theorem qwt_22 : xe_look (xc 272) 22 = some (.ldc_w 299, 3, 0, 2148532224, 1151) := by decide +kernel
theorem qwt_25 : xe_look (xc 272) 25 = some (.idiv, 1, 0, 0, 0) := by decide +kernel
theorem qwt_26 : xe_look (xc 272) 26 = some (.ireturn, 1, 0, 0, 0) := by decide +kernel
theorem ga_216 : eG (cn 216) = ((-2147483648), 2147483647, []) := by decide +kernel
theorem ga_217 : eG (cn 217) = ((-2147483648), 2147483647, []) := by decide +kernel
theorem gf_31 : eG (cn 196 + 31) = ((-2147483648), 2147483647, []) := by decide +kernel
theorem gf_32 : eG (cn 196 + 32) = ((-2147483648), 2147483647, []) := by decide +kernel
theorem gf_33 : eG (cn 196 + 33) = ((-2147483648), 2147483647, []) := by decide +kernel
def Wu : Nat := 2 ^ (cn 196 + 18) + 2 ^ (cn 196 + 20) + 2 ^ (cn 196 + 21) + 2 ^ (cn 196 + 31) + 2 ^ (cn 196 + 32) + 2 ^ (cn 196 + 33) + 2 ^ cn 216 + 2 ^ cn 217
theorem Wu_f : Wu.testBit (cn 196 + 18) = true ∧ Wu.testBit (cn 196 + 20) = true ∧ Wu.testBit (cn 196 + 21) = true ∧ Wu.testBit (cn 196 + 31) = true ∧ Wu.testBit (cn 196 + 32) = true ∧ Wu.testBit (cn 196 + 33) = true ∧ Wu.testBit (cn 216) = true ∧ Wu.testBit (cn 217) = true ∧ Wu.testBit (cn 196 + 19) = false := by decide +kernel
theorem nt_run {d : Nat} {h0 g : pH} {a b : Int} (hJ : J_ Wu h0 g) (hc : 0 ≤ fF g 32 ∧ fF g 32 < 260) (ha : 0 ≤ a ∧ a ≤ 14) (hb : 0 ≤ b ∧ b ≤ 1048575) {P : Option pv × pH → Prop} (hP : ∀ g1 : pH, J_ Wu h0 g1 → fF g1 32 = fF g 32 + 1 → (∀ u, u ≠ 32 → fF g1 u = fF g u) → fA g1 216 (fF g 32).toNat = 1048576 * a + b → (∀ u, u ≠ (fF g 32).toNat → fA g1 216 u = fA g 216 u) → (∀ k, k ≠ 216 → fA g1 k = fA g k) → P (none, g1)) {lv : List (Nat × pv)} (l0 : px_lg lv 0 = some (pvR 196)) (l1 : px_lg lv 1 = some (oI a)) (l2 : px_lg lv 2 = some (oI b)) : t_X d 223 0 lv [] g P := by
  obtain ⟨w_18, w_20, w_21, w_31, w_32, w_33, w_a216, w_a217, z_19⟩ := Wu_f
  refine t_0 qnt_0 rfl (ld_a l0) ?_
  refine t_0 qnt_1 rfl (ar_36 hJ.1) ?_
  refine t_0 qnt_4 rfl (ld_a l0) ?_
  have r1 := fF_b g 32
  refine t_0 qnt_5 rfl (pq_gf (y := 32) rfl) ?_
  refine t_0 qnt_8 rfl (pq_cw (n := 1048576) (by decide +kernel)) ?_
  refine t_0 qnt_11 rfl (ld_i l1) ?_
  refine t_0 qnt_12 rfl pq_mul ?_
  refine t_0 qnt_13 rfl (ld_i l2) ?_
  refine t_0 qnt_14 rfl pq_add ?_
  refine tw_a qnt_15 hJ el_216 rfl w_a216 ga_216 (by decide) ⟨by omega, by omega⟩ ⟨by omega, by omega⟩ (fun g2 hJ2 a2 v2 b2 f2 => ?_)
  replace f2 := fF_1 f2
  have q2_32 := congrFun f2 32
  show t_X d 223 16 lv [] g2 P
  refine t_0 qnt_16 rfl (ld_a l0) ?_
  refine t_0 qnt_17 rfl (ld_a l0) ?_
  have r3 := fF_b g2 32
  refine t_0 qnt_18 rfl (pq_gf (y := 32) rfl) ?_
  refine t_0 qnt_21 rfl rfl ?_
  refine t_0 qnt_22 rfl pq_add ?_
  refine tw_f qnt_23 rfl hJ2 w_32 gf_32 (by decide) ⟨by omega, by omega⟩ (fun g4 hJ4 v4 f4 a4 => ?_)
  replace a4 := fA_2 a4
  show t_X d 223 26 lv [] g4 P
  refine t_5 qnt_26 rfl rfl ?_
  exact hP _ hJ4 (by omega) (fun u hu => by rw [f4 u hu, f2]) (by rw [a4, v2]) (fun u hu => by rw [a4, b2 u hu]) (fun k hk => by rw [a4, a2 k hk])
theorem wt_run {d : Nat} {h0 g : pH} (hJ : J_ Wu h0 g) (hw : 0 ≤ fF g 33 ∧ fF g 33 ≤ 260) (hv : 1 ≤ fF g 33 → 0 ≤ fA g 217 (fF g 33 - 1).toNat) {P : Option pv × pH → Prop} (hP : ∀ z : Int, (fF g 33 = 0 ∧ z = -1) ∨ (1 ≤ fF g 33 ∧ z = fA g 217 (fF g 33 - 1).toNat / 1048576) → P (some (oI z), g)) {lv : List (Nat × pv)} (l0 : px_lg lv 0 = some (pvR 196)) : t_X d 272 0 lv [] g P := by
  refine t_0 qwt_0 rfl (ld_a l0) ?_
  have r1 := fF_b g 33
  refine t_0 qwt_1 rfl (pq_gf (y := 33) rfl) ?_
  refine tz_ne qwt_4 (by decide) ⟨by omega, by omega⟩ (fun c2 => ?_) (fun c2 => ?_)
  · show t_X d 272 11 lv [] g P
    refine t_0 qwt_11 rfl (ld_a l0) ?_
    refine t_0 qwt_12 rfl (ar_37 hJ.1) ?_
    refine t_0 qwt_15 rfl (ld_a l0) ?_
    have r3 := fF_b g 33
    refine t_0 qwt_16 rfl (pq_gf (y := 33) rfl) ?_
    refine t_0 qwt_19 rfl rfl ?_
    refine t_0 qwt_20 rfl pq_sub ?_
    refine t_0 qwt_21 rfl (pq_ia el_217 rfl ⟨by omega, by omega⟩) ?_
    have r4 := fA_b g 217 ((fF g 33) - 1).toNat
    have hv0 := hv (by omega)
    refine t_0 qwt_22 rfl (pq_cw (n := 1048576) (by decide +kernel)) ?_
    refine t_0 qwt_25 rfl (pq_div ⟨by omega, by omega⟩ ⟨by omega, by omega⟩) ?_
    refine t_5 qwt_26 rfl rfl ?_
    exact hP _ (Or.inr ⟨by omega, rfl⟩)
  · show t_X d 272 7 lv [] g P
    refine t_0 qwt_7 rfl rfl ?_
    refine t_1 qwt_8 rfl (pb_goto (pc := 8) (by decide)) ?_
    show t_X d 272 26 lv [oI ((-1))] g P
    refine t_5 qwt_26 rfl rfl ?_
    exact hP _ (Or.inl ⟨by omega, rfl⟩)
theorem op_run {d : Nat} (hd : 1 ≤ d) {h0 g : pH} {a : Int} (hJ : J_ Wu h0 g) (hw : 0 ≤ fF g 33 ∧ fF g 33 < 260) (hp : 0 ≤ fF g 18 ∧ fF g 18 ≤ 240) (ha : 0 ≤ a ∧ a ≤ 14) {P : Option pv × pH → Prop} (h1 : ∀ g1 : pH, fF g1 18 = fF g 18 + 1 → fF g1 19 = fF g 19 → fF g1 32 = fF g 32 → fF g1 33 = fF g 33 + 1 → fA g1 217 (fF g 33).toNat = 1048576 * a → (∀ u, u ≠ (fF g 33).toNat → fA g1 217 u = fA g 217 u) → fA g1 216 = fA g 216 → J_ Wu h0 g1 → P (some (oI 1), g1)) (h2 : ∀ g1 : pH, J_ Wu h0 g1 → P (some (oI 0), g1)) {lv : List (Nat × pv)} (l0 : px_lg lv 0 = some (pvR 196)) (l1 : px_lg lv 1 = some (oI a)) : t_X d 229 0 lv [] g P := by
  obtain ⟨w_18, w_20, w_21, w_31, w_32, w_33, w_a216, w_a217, z_19⟩ := Wu_f
  refine t_0 qop_0 rfl (ld_a l0) ?_
  have r1 := fF_b g 31
  refine t_0 qop_1 rfl (pq_gf (y := 31) rfl) ?_
  refine t_0 qop_4 rfl (pq_b (by decide)) ?_
  refine tb_ne qop_6 (by decide) ⟨by omega, by omega⟩ ⟨by omega, by omega⟩ (fun c2 => ?_) (fun c2 => ?_)
  · show t_X d 229 19 lv [] g P
    refine t_0 qop_19 rfl (ld_a l0) ?_
    refine t_0 qop_20 rfl (ld_a l0) ?_
    have r3 := fF_b g 31
    refine t_0 qop_21 rfl (pq_gf (y := 31) rfl) ?_
    refine t_0 qop_24 rfl rfl ?_
    refine t_0 qop_25 rfl pq_add ?_
    refine tw_fx qop_26 rfl hJ w_31 gf_31 (fun g4 hJ4 f4 a4 => ?_)
    replace a4 := fA_2 a4
    have q4_18 := f4 18 (by decide)
    have q4_19 := f4 19 (by decide)
    have q4_32 := f4 32 (by decide)
    have q4_33 := f4 33 (by decide)
    show t_X d 229 29 lv [] g4 P
    refine t_0 qop_29 rfl (ld_a l0) ?_
    refine t_0 qop_30 rfl (ar_37 hJ4.1) ?_
    refine t_0 qop_33 rfl (ld_a l0) ?_
    have r5 := fF_b g4 33
    refine t_0 qop_34 rfl (pq_gf (y := 33) rfl) ?_
    refine t_0 qop_37 rfl (pq_cw (n := 1048576) (by decide +kernel)) ?_
    refine t_0 qop_40 rfl (ld_i l1) ?_
    refine t_0 qop_41 rfl pq_mul ?_
    refine tw_a qop_42 hJ4 el_217 rfl w_a217 ga_217 (by decide) ⟨by omega, by omega⟩ ⟨by omega, by omega⟩ (fun g6 hJ6 a6 v6 b6 f6 => ?_)
    replace f6 := fF_1 f6
    have q6_18 := congrFun f6 18
    have q6_19 := congrFun f6 19
    have q6_32 := congrFun f6 32
    have q6_33 := congrFun f6 33
    show t_X d 229 43 lv [] g6 P
    refine t_0 qop_43 rfl (ld_a l0) ?_
    refine t_0 qop_44 rfl (ld_a l0) ?_
    have r7 := fF_b g6 33
    refine t_0 qop_45 rfl (pq_gf (y := 33) rfl) ?_
    refine t_0 qop_48 rfl rfl ?_
    refine t_0 qop_49 rfl pq_add ?_
    refine tw_f qop_50 rfl hJ6 w_33 gf_33 (by decide) ⟨by omega, by omega⟩ (fun g8 hJ8 v8 f8 a8 => ?_)
    replace a8 := fA_2 a8
    have q8_18 := f8 18 (by decide)
    have q8_19 := f8 19 (by decide)
    have q8_32 := f8 32 (by decide)
    show t_X d 229 53 lv [] g8 P
    refine t_0 qop_53 rfl (ld_a l0) ?_
    refine t_0 qop_54 rfl (ld_a l0) ?_
    have r9 := fF_b g8 18
    refine t_0 qop_55 rfl (pq_gf (y := 18) rfl) ?_
    refine t_0 qop_58 rfl rfl ?_
    refine t_0 qop_59 rfl pq_add ?_
    refine tw_f qop_60 rfl hJ8 w_18 gf_18 (by decide) ⟨by omega, by omega⟩ (fun g10 hJ10 v10 f10 a10 => ?_)
    replace a10 := fA_2 a10
    have q10_19 := f10 19 (by decide)
    have q10_32 := f10 32 (by decide)
    have q10_33 := f10 33 (by decide)
    show t_X d 229 63 lv [] g10 P
    refine t_0 qop_63 rfl rfl ?_
    refine t_5 qop_64 rfl rfl ?_
    refine h1 _ (by omega) (by omega) (by omega) (by omega) ?_ (fun u hu => ?_) (by rw [a10, a8, a6 216 (by decide), a4]) hJ10
    · rw [a10, a8, ← q4_33]
      exact v6
    · rw [a10, a8, b6 u (by rw [q4_33]; exact hu), a4]
  · show t_X d 229 9 lv [] g P
    refine t_0 qop_9 rfl (ld_a l0) ?_
    refine t_0 qop_10 rfl rfl ?_
    refine t_0 qop_11 rfl (ld_a l0) ?_
    have r11 := fF_b g 18
    refine t_0 qop_12 rfl (pq_gf (y := 18) rfl) ?_
    refine t_3 qop_15 rfl (ar := ([pvR 196, oI (5), oI (fF g 18)], [])) (pcal_v2 rfl rfl el_196) ⟨by omega, Nat.le_of_ble_eq_true rfl, Nat.le_of_ble_eq_true rfl, rfl⟩ ?_
    refine wr_run hJ w_20 (fun g12 hJ12 f12 a12 => ?_) rfl rfl rfl
    have q12_18 := f12 18 (by decide)
    have q12_19 := f12 19 (by decide)
    have q12_32 := f12 32 (by decide)
    have q12_33 := f12 33 (by decide)
    show t_X d 229 18 lv [oI (0)] g12 P
    refine t_5 qop_18 rfl rfl ?_
    exact h2 _ hJ12
theorem ss_run {d : Nat} {g : pH} {c : Int} (hc : -1 ≤ c ∧ c ≤ 255) {P : Option pv × pH → Prop} (hP : ∀ z : Int, (z = -1 ∨ (2 ≤ z ∧ z ≤ 6 ∧ 0 ≤ c)) → P (some (oI z), g)) {lv : List (Nat × pv)} (l0 : px_lg lv 0 = some (oI c)) : t_X d 256 0 lv [] g P := by
  refine t_0 qss_0 rfl (ld_i l0) ?_
  refine t_0 qss_1 rfl (pq_b (by decide)) ?_
  refine tb_ne qss_3 (by decide) ⟨by omega, by omega⟩ ⟨by omega, by omega⟩ (fun c1 => ?_) (fun c1 => ?_)
  · show t_X d 256 10 lv [] g P
    refine t_0 qss_10 rfl (ld_i l0) ?_
    refine t_0 qss_11 rfl (pq_b (by decide)) ?_
    refine tb_ne qss_13 (by decide) ⟨by omega, by omega⟩ ⟨by omega, by omega⟩ (fun c2 => ?_) (fun c2 => ?_)
    · show t_X d 256 20 lv [] g P
      refine t_0 qss_20 rfl (ld_i l0) ?_
      refine t_0 qss_21 rfl (pq_b (by decide)) ?_
      refine tb_ne qss_23 (by decide) ⟨by omega, by omega⟩ ⟨by omega, by omega⟩ (fun c3 => ?_) (fun c3 => ?_)
      · show t_X d 256 30 lv [] g P
        refine t_0 qss_30 rfl (ld_i l0) ?_
        refine t_0 qss_31 rfl (pq_b (by decide)) ?_
        refine tb_ne qss_33 (by decide) ⟨by omega, by omega⟩ ⟨by omega, by omega⟩ (fun c4 => ?_) (fun c4 => ?_)
        · show t_X d 256 40 lv [] g P
          refine t_0 qss_40 rfl (ld_i l0) ?_
          refine t_0 qss_41 rfl (pq_b (by decide)) ?_
          refine tb_ne qss_43 (by decide) ⟨by omega, by omega⟩ ⟨by omega, by omega⟩ (fun c5 => ?_) (fun c5 => ?_)
          · show t_X d 256 51 lv [] g P
            refine t_0 qss_51 rfl rfl ?_
            refine t_5 qss_52 rfl rfl ?_
            exact hP _ (by omega)
          · show t_X d 256 46 lv [] g P
            refine t_0 qss_46 rfl (pq_b (by decide)) ?_
            refine t_1 qss_48 rfl (pb_goto (pc := 48) (by decide)) ?_
            show t_X d 256 52 lv [oI (6)] g P
            refine t_5 qss_52 rfl rfl ?_
            exact hP _ (by omega)
        · show t_X d 256 36 lv [] g P
          refine t_0 qss_36 rfl rfl ?_
          refine t_1 qss_37 rfl (pb_goto (pc := 37) (by decide)) ?_
          show t_X d 256 52 lv [oI (5)] g P
          refine t_5 qss_52 rfl rfl ?_
          exact hP _ (by omega)
      · show t_X d 256 26 lv [] g P
        refine t_0 qss_26 rfl rfl ?_
        refine t_1 qss_27 rfl (pb_goto (pc := 27) (by decide)) ?_
        show t_X d 256 52 lv [oI (4)] g P
        refine t_5 qss_52 rfl rfl ?_
        exact hP _ (by omega)
    · show t_X d 256 16 lv [] g P
      refine t_0 qss_16 rfl rfl ?_
      refine t_1 qss_17 rfl (pb_goto (pc := 17) (by decide)) ?_
      show t_X d 256 52 lv [oI (3)] g P
      refine t_5 qss_52 rfl rfl ?_
      exact hP _ (by omega)
  · show t_X d 256 6 lv [] g P
    refine t_0 qss_6 rfl rfl ?_
    refine t_1 qss_7 rfl (pb_goto (pc := 7) (by decide)) ?_
    show t_X d 256 52 lv [oI (2)] g P
    refine t_5 qss_52 rfl rfl ?_
    exact hP _ (by omega)
theorem ic_run {d : Nat} {g : pH} {c : Int} (hc : -1 ≤ c ∧ c ≤ 255) {P : Option pv × pH → Prop} (h1 : 0 ≤ c → P (some (oI 1), g)) (h0 : P (some (oI 0), g)) {lv : List (Nat × pv)} (l0 : px_lg lv 0 = some (oI c)) : t_X d 202 0 lv [] g P := by
  refine t_0 qic_0 rfl (ld_i l0) ?_
  refine t_0 qic_1 rfl (pq_b (by decide)) ?_
  refine tb_eq qic_3 (by decide) ⟨by omega, by omega⟩ ⟨by omega, by omega⟩ (fun c1 => ?_) (fun c1 => ?_)
  · show t_X d 202 48 lv [] g P
    refine t_0 qic_48 rfl rfl ?_
    refine t_1 qic_49 rfl (pb_goto (pc := 49) (by decide)) ?_
    show t_X d 202 53 lv [oI (1)] g P
    refine t_5 qic_53 rfl rfl ?_
    exact h1 (by omega)
  · show t_X d 202 6 lv [] g P
    refine t_0 qic_6 rfl (ld_i l0) ?_
    refine t_0 qic_7 rfl (pq_b (by decide)) ?_
    refine tb_eq qic_9 (by decide) ⟨by omega, by omega⟩ ⟨by omega, by omega⟩ (fun c2 => ?_) (fun c2 => ?_)
    · show t_X d 202 48 lv [] g P
      refine t_0 qic_48 rfl rfl ?_
      refine t_1 qic_49 rfl (pb_goto (pc := 49) (by decide)) ?_
      show t_X d 202 53 lv [oI (1)] g P
      refine t_5 qic_53 rfl rfl ?_
      exact h1 (by omega)
    · show t_X d 202 12 lv [] g P
      refine t_0 qic_12 rfl (ld_i l0) ?_
      refine t_0 qic_13 rfl (pq_b (by decide)) ?_
      refine tb_eq qic_15 (by decide) ⟨by omega, by omega⟩ ⟨by omega, by omega⟩ (fun c3 => ?_) (fun c3 => ?_)
      · show t_X d 202 48 lv [] g P
        refine t_0 qic_48 rfl rfl ?_
        refine t_1 qic_49 rfl (pb_goto (pc := 49) (by decide)) ?_
        show t_X d 202 53 lv [oI (1)] g P
        refine t_5 qic_53 rfl rfl ?_
        exact h1 (by omega)
      · show t_X d 202 18 lv [] g P
        refine t_0 qic_18 rfl (ld_i l0) ?_
        refine t_0 qic_19 rfl (pq_b (by decide)) ?_
        refine tb_eq qic_21 (by decide) ⟨by omega, by omega⟩ ⟨by omega, by omega⟩ (fun c4 => ?_) (fun c4 => ?_)
        · show t_X d 202 48 lv [] g P
          refine t_0 qic_48 rfl rfl ?_
          refine t_1 qic_49 rfl (pb_goto (pc := 49) (by decide)) ?_
          show t_X d 202 53 lv [oI (1)] g P
          refine t_5 qic_53 rfl rfl ?_
          exact h1 (by omega)
        · show t_X d 202 24 lv [] g P
          refine t_0 qic_24 rfl (ld_i l0) ?_
          refine t_0 qic_25 rfl (pq_b (by decide)) ?_
          refine tb_eq qic_27 (by decide) ⟨by omega, by omega⟩ ⟨by omega, by omega⟩ (fun c5 => ?_) (fun c5 => ?_)
          · show t_X d 202 48 lv [] g P
            refine t_0 qic_48 rfl rfl ?_
            refine t_1 qic_49 rfl (pb_goto (pc := 49) (by decide)) ?_
            show t_X d 202 53 lv [oI (1)] g P
            refine t_5 qic_53 rfl rfl ?_
            exact h1 (by omega)
          · show t_X d 202 30 lv [] g P
            refine t_0 qic_30 rfl (ld_i l0) ?_
            refine t_0 qic_31 rfl (pq_b (by decide)) ?_
            refine tb_eq qic_33 (by decide) ⟨by omega, by omega⟩ ⟨by omega, by omega⟩ (fun c6 => ?_) (fun c6 => ?_)
            · show t_X d 202 48 lv [] g P
              refine t_0 qic_48 rfl rfl ?_
              refine t_1 qic_49 rfl (pb_goto (pc := 49) (by decide)) ?_
              show t_X d 202 53 lv [oI (1)] g P
              refine t_5 qic_53 rfl rfl ?_
              exact h1 (by omega)
            · show t_X d 202 36 lv [] g P
              refine t_0 qic_36 rfl (ld_i l0) ?_
              refine t_0 qic_37 rfl (pq_b (by decide)) ?_
              refine tb_eq qic_39 (by decide) ⟨by omega, by omega⟩ ⟨by omega, by omega⟩ (fun c7 => ?_) (fun c7 => ?_)
              · show t_X d 202 48 lv [] g P
                refine t_0 qic_48 rfl rfl ?_
                refine t_1 qic_49 rfl (pb_goto (pc := 49) (by decide)) ?_
                show t_X d 202 53 lv [oI (1)] g P
                refine t_5 qic_53 rfl rfl ?_
                exact h1 (by omega)
              · show t_X d 202 42 lv [] g P
                refine t_0 qic_42 rfl (ld_i l0) ?_
                refine t_0 qic_43 rfl (pq_b (by decide)) ?_
                refine tb_ne qic_45 (by decide) ⟨by omega, by omega⟩ ⟨by omega, by omega⟩ (fun c8 => ?_) (fun c8 => ?_)
                · show t_X d 202 52 lv [] g P
                  refine t_0 qic_52 rfl rfl ?_
                  refine t_5 qic_53 rfl rfl ?_
                  exact h0
                · show t_X d 202 48 lv [] g P
                  refine t_0 qic_48 rfl rfl ?_
                  refine t_1 qic_49 rfl (pb_goto (pc := 49) (by decide)) ?_
                  show t_X d 202 53 lv [oI (1)] g P
                  refine t_5 qic_53 rfl rfl ?_
                  exact h1 (by omega)
theorem fo_run {d : Nat} {g : pH} {c : Int} (hc : -1 ≤ c ∧ c ≤ 255) {P : Option pv × pH → Prop} (hP : ∀ z : Int, (z = -1 ∨ (0 ≤ z ∧ z ≤ 10 ∧ 0 ≤ c)) → P (some (oI z), g)) {lv : List (Nat × pv)} (l0 : px_lg lv 0 = some (oI c)) : t_X d 188 0 lv [] g P := by
  refine t_0 qfo_0 rfl (ld_i l0) ?_
  have e1 : (Int32.ofInt c).toInt = c := oT (by omega) (by omega)
  by_cases h : c < 97 ∨ 122 < c
  · refine t_1 qfo_1 rfl (t := (147, [])) ?_ ?_
    · show (if (Int32.ofInt c).toInt < 97 ∨ 122 < (Int32.ofInt c).toInt then (if 0 ≤ ((1 : Nat) : Int) + 146 then some (px_tg 1 146, []) else none) else _) = _
      rw [e1, if_pos h]
      rfl
    · show t_X d 188 147 lv [] g P
      refine t_0 qfo_147 rfl rfl ?_
      refine t_5 qfo_148 rfl rfl ?_
      exact hP _ (Or.inl rfl)
  · have hh : c = 97 ∨ c = 98 ∨ c = 99 ∨ c = 100 ∨ c = 101 ∨ c = 102 ∨ c = 103 ∨ c = 104 ∨ c = 105 ∨ c = 106 ∨ c = 107 ∨ c = 108 ∨ c = 109 ∨ c = 110 ∨ c = 111 ∨ c = 112 ∨ c = 113 ∨ c = 114 ∨ c = 115 ∨ c = 116 ∨ c = 117 ∨ c = 118 ∨ c = 119 ∨ c = 120 ∨ c = 121 ∨ c = 122 := by omega
    clear h e1
    rcases hh with rfl | rfl | rfl | rfl | rfl | rfl | rfl | rfl | rfl | rfl | rfl | rfl | rfl | rfl | rfl | rfl | rfl | rfl | rfl | rfl | rfl | rfl | rfl | rfl | rfl | rfl
    · refine t_1 qfo_1 rfl (t := (124, [])) rfl ?_
      show t_X d 188 124 lv [] g P
      refine t_0 qfo_124 rfl rfl ?_
      refine t_5 qfo_125 rfl rfl ?_
      exact hP _ (Or.inr ⟨by decide, by decide, by decide⟩)
    · refine t_1 qfo_1 rfl (t := (147, [])) rfl ?_
      show t_X d 188 147 lv [] g P
      refine t_0 qfo_147 rfl rfl ?_
      refine t_5 qfo_148 rfl rfl ?_
      exact hP _ (Or.inl rfl)
    · refine t_1 qfo_1 rfl (t := (147, [])) rfl ?_
      show t_X d 188 147 lv [] g P
      refine t_0 qfo_147 rfl rfl ?_
      refine t_5 qfo_148 rfl rfl ?_
      exact hP _ (Or.inl rfl)
    · refine t_1 qfo_1 rfl (t := (147, [])) rfl ?_
      show t_X d 188 147 lv [] g P
      refine t_0 qfo_147 rfl rfl ?_
      refine t_5 qfo_148 rfl rfl ?_
      exact hP _ (Or.inl rfl)
    · refine t_1 qfo_1 rfl (t := (141, [])) rfl ?_
      show t_X d 188 141 lv [] g P
      refine t_0 qfo_141 rfl (pq_b (by decide)) ?_
      refine t_5 qfo_143 rfl rfl ?_
      exact hP _ (Or.inr ⟨by decide, by decide, by decide⟩)
    · refine t_1 qfo_1 rfl (t := (147, [])) rfl ?_
      show t_X d 188 147 lv [] g P
      refine t_0 qfo_147 rfl rfl ?_
      refine t_5 qfo_148 rfl rfl ?_
      exact hP _ (Or.inl rfl)
    · refine t_1 qfo_1 rfl (t := (147, [])) rfl ?_
      show t_X d 188 147 lv [] g P
      refine t_0 qfo_147 rfl rfl ?_
      refine t_5 qfo_148 rfl rfl ?_
      exact hP _ (Or.inl rfl)
    · refine t_1 qfo_1 rfl (t := (147, [])) rfl ?_
      show t_X d 188 147 lv [] g P
      refine t_0 qfo_147 rfl rfl ?_
      refine t_5 qfo_148 rfl rfl ?_
      exact hP _ (Or.inl rfl)
    · refine t_1 qfo_1 rfl (t := (120, [])) rfl ?_
      show t_X d 188 120 lv [] g P
      refine t_0 qfo_120 rfl rfl ?_
      refine t_5 qfo_121 rfl rfl ?_
      exact hP _ (Or.inr ⟨by decide, by decide, by decide⟩)
    · refine t_1 qfo_1 rfl (t := (147, [])) rfl ?_
      show t_X d 188 147 lv [] g P
      refine t_0 qfo_147 rfl rfl ?_
      refine t_5 qfo_148 rfl rfl ?_
      exact hP _ (Or.inl rfl)
    · refine t_1 qfo_1 rfl (t := (122, [])) rfl ?_
      show t_X d 188 122 lv [] g P
      refine t_0 qfo_122 rfl rfl ?_
      refine t_5 qfo_123 rfl rfl ?_
      exact hP _ (Or.inr ⟨by decide, by decide, by decide⟩)
    · refine t_1 qfo_1 rfl (t := (138, [])) rfl ?_
      show t_X d 188 138 lv [] g P
      refine t_0 qfo_138 rfl (pq_b (by decide)) ?_
      refine t_5 qfo_140 rfl rfl ?_
      exact hP _ (Or.inr ⟨by decide, by decide, by decide⟩)
    · refine t_1 qfo_1 rfl (t := (130, [])) rfl ?_
      show t_X d 188 130 lv [] g P
      refine t_0 qfo_130 rfl rfl ?_
      refine t_5 qfo_131 rfl rfl ?_
      exact hP _ (Or.inr ⟨by decide, by decide, by decide⟩)
    · refine t_1 qfo_1 rfl (t := (147, [])) rfl ?_
      show t_X d 188 147 lv [] g P
      refine t_0 qfo_147 rfl rfl ?_
      refine t_5 qfo_148 rfl rfl ?_
      exact hP _ (Or.inl rfl)
    · refine t_1 qfo_1 rfl (t := (132, [])) rfl ?_
      show t_X d 188 132 lv [] g P
      refine t_0 qfo_132 rfl (pq_b (by decide)) ?_
      refine t_5 qfo_134 rfl rfl ?_
      exact hP _ (Or.inr ⟨by decide, by decide, by decide⟩)
    · refine t_1 qfo_1 rfl (t := (147, [])) rfl ?_
      show t_X d 188 147 lv [] g P
      refine t_0 qfo_147 rfl rfl ?_
      refine t_5 qfo_148 rfl rfl ?_
      exact hP _ (Or.inl rfl)
    · refine t_1 qfo_1 rfl (t := (128, [])) rfl ?_
      show t_X d 188 128 lv [] g P
      refine t_0 qfo_128 rfl rfl ?_
      refine t_5 qfo_129 rfl rfl ?_
      exact hP _ (Or.inr ⟨by decide, by decide, by decide⟩)
    · refine t_1 qfo_1 rfl (t := (147, [])) rfl ?_
      show t_X d 188 147 lv [] g P
      refine t_0 qfo_147 rfl rfl ?_
      refine t_5 qfo_148 rfl rfl ?_
      exact hP _ (Or.inl rfl)
    · refine t_1 qfo_1 rfl (t := (147, [])) rfl ?_
      show t_X d 188 147 lv [] g P
      refine t_0 qfo_147 rfl rfl ?_
      refine t_5 qfo_148 rfl rfl ?_
      exact hP _ (Or.inl rfl)
    · refine t_1 qfo_1 rfl (t := (147, [])) rfl ?_
      show t_X d 188 147 lv [] g P
      refine t_0 qfo_147 rfl rfl ?_
      refine t_5 qfo_148 rfl rfl ?_
      exact hP _ (Or.inl rfl)
    · refine t_1 qfo_1 rfl (t := (147, [])) rfl ?_
      show t_X d 188 147 lv [] g P
      refine t_0 qfo_147 rfl rfl ?_
      refine t_5 qfo_148 rfl rfl ?_
      exact hP _ (Or.inl rfl)
    · refine t_1 qfo_1 rfl (t := (135, [])) rfl ?_
      show t_X d 188 135 lv [] g P
      refine t_0 qfo_135 rfl (pq_b (by decide)) ?_
      refine t_5 qfo_137 rfl rfl ?_
      exact hP _ (Or.inr ⟨by decide, by decide, by decide⟩)
    · refine t_1 qfo_1 rfl (t := (147, [])) rfl ?_
      show t_X d 188 147 lv [] g P
      refine t_0 qfo_147 rfl rfl ?_
      refine t_5 qfo_148 rfl rfl ?_
      exact hP _ (Or.inl rfl)
    · refine t_1 qfo_1 rfl (t := (147, [])) rfl ?_
      show t_X d 188 147 lv [] g P
      refine t_0 qfo_147 rfl rfl ?_
      refine t_5 qfo_148 rfl rfl ?_
      exact hP _ (Or.inl rfl)
    · refine t_1 qfo_1 rfl (t := (126, [])) rfl ?_
      show t_X d 188 126 lv [] g P
      refine t_0 qfo_126 rfl rfl ?_
      refine t_5 qfo_127 rfl rfl ?_
      exact hP _ (Or.inr ⟨by decide, by decide, by decide⟩)
    · refine t_1 qfo_1 rfl (t := (144, [])) rfl ?_
      show t_X d 188 144 lv [] g P
      refine t_0 qfo_144 rfl (pq_b (by decide)) ?_
      refine t_5 qfo_146 rfl rfl ?_
      exact hP _ (Or.inr ⟨by decide, by decide, by decide⟩)
end
