/-! by hand: the law's reader, conditions (printed in part by wip/e2/lc.py) -/
theorem qcn_0 : xe_look (xc 235) 0 = some (.aload_n 0, 1, 0, 0, 0) := by decide +kernel
theorem qcn_1 : xe_look (xc 235) 1 = some (.invokevirtual 252, 3, 0, 198, 1137) := by decide +kernel
theorem qcn_4 : xe_look (xc 235) 4 = some (.bipush 40, 2, 0, 0, 0) := by decide +kernel
theorem qcn_6 : xe_look (xc 235) 6 = some (.if_icmp .eq 13, 3, 0, 0, 0) := by decide +kernel
theorem qcn_9 : xe_look (xc 235) 9 = some (.aload_n 0, 1, 0, 0, 0) := by decide +kernel
theorem qcn_10 : xe_look (xc 235) 10 = some (.iconst 1, 1, 0, 0, 0) := by decide +kernel
theorem qcn_11 : xe_look (xc 235) 11 = some (.aload_n 0, 1, 0, 0, 0) := by decide +kernel
theorem qcn_12 : xe_look (xc 235) 12 = some (.getfield 242, 3, 12, 18, 1135) := by decide +kernel
theorem qcn_15 : xe_look (xc 235) 15 = some (.invokevirtual 256, 3, 0, 274, 1138) := by decide +kernel
theorem qcn_18 : xe_look (xc 235) 18 = some (.ireturn, 1, 0, 0, 0) := by decide +kernel
theorem qcn_19 : xe_look (xc 235) 19 = some (.aload_n 0, 1, 0, 0, 0) := by decide +kernel
theorem qcn_20 : xe_look (xc 235) 20 = some (.iconst 0, 1, 0, 0, 0) := by decide +kernel
theorem qcn_21 : xe_look (xc 235) 21 = some (.putfield 300, 3, 12, 31, 1170) := by decide +kernel
theorem qcn_24 : xe_look (xc 235) 24 = some (.aload_n 0, 1, 0, 0, 0) := by decide +kernel
theorem qcn_25 : xe_look (xc 235) 25 = some (.iconst 0, 1, 0, 0, 0) := by decide +kernel
theorem qcn_26 : xe_look (xc 235) 26 = some (.putfield 303, 3, 12, 33, 1146) := by decide +kernel
theorem qcn_29 : xe_look (xc 235) 29 = some (.aload_n 0, 1, 0, 0, 0) := by decide +kernel
theorem qcn_30 : xe_look (xc 235) 30 = some (.bipush 13, 2, 0, 0, 0) := by decide +kernel
theorem qcn_32 : xe_look (xc 235) 32 = some (.invokevirtual 313, 3, 0, 229, 1258) := by decide +kernel
theorem qcn_35 : xe_look (xc 235) 35 = some (.ifCond .ne 5, 3, 0, 0, 0) := by decide +kernel
theorem qcn_38 : xe_look (xc 235) 38 = some (.iconst 0, 1, 0, 0, 0) := by decide +kernel
theorem qcn_39 : xe_look (xc 235) 39 = some (.ireturn, 1, 0, 0, 0) := by decide +kernel
theorem qcn_40 : xe_look (xc 235) 40 = some (.aload_n 0, 1, 0, 0, 0) := by decide +kernel
theorem qcn_41 : xe_look (xc 235) 41 = some (.invokevirtual 252, 3, 0, 198, 1137) := by decide +kernel
theorem qcn_44 : xe_look (xc 235) 44 = some (.bipush 33, 2, 0, 0, 0) := by decide +kernel
theorem qcn_46 : xe_look (xc 235) 46 = some (.if_icmp .eq 12, 3, 0, 0, 0) := by decide +kernel
theorem qcn_49 : xe_look (xc 235) 49 = some (.aload_n 0, 1, 0, 0, 0) := by decide +kernel
theorem qcn_50 : xe_look (xc 235) 50 = some (.invokevirtual 252, 3, 0, 198, 1137) := by decide +kernel
theorem qcn_53 : xe_look (xc 235) 53 = some (.bipush 40, 2, 0, 0, 0) := by decide +kernel
theorem qcn_55 : xe_look (xc 235) 55 = some (.if_icmp .ne 28, 3, 0, 0, 0) := by decide +kernel
theorem qcn_58 : xe_look (xc 235) 58 = some (.aload_n 0, 1, 0, 0, 0) := by decide +kernel
theorem qcn_59 : xe_look (xc 235) 59 = some (.aload_n 0, 1, 0, 0, 0) := by decide +kernel
theorem qcn_60 : xe_look (xc 235) 60 = some (.invokevirtual 252, 3, 0, 198, 1137) := by decide +kernel
theorem qcn_63 : xe_look (xc 235) 63 = some (.bipush 33, 2, 0, 0, 0) := by decide +kernel
theorem qcn_65 : xe_look (xc 235) 65 = some (.if_icmp .ne 8, 3, 0, 0, 0) := by decide +kernel
theorem qcn_68 : xe_look (xc 235) 68 = some (.bipush 10, 2, 0, 0, 0) := by decide +kernel
theorem qcn_70 : xe_look (xc 235) 70 = some (.goto 5, 3, 0, 0, 0) := by decide +kernel
theorem qcn_73 : xe_look (xc 235) 73 = some (.bipush 13, 2, 0, 0, 0) := by decide +kernel
theorem qcn_75 : xe_look (xc 235) 75 = some (.invokevirtual 313, 3, 0, 229, 1258) := by decide +kernel
theorem qcn_78 : xe_look (xc 235) 78 = some (.ifCond .ne (-38), 3, 0, 0, 0) := by decide +kernel
theorem qcn_81 : xe_look (xc 235) 81 = some (.iconst 0, 1, 0, 0, 0) := by decide +kernel
theorem qcn_82 : xe_look (xc 235) 82 = some (.ireturn, 1, 0, 0, 0) := by decide +kernel
theorem qcn_83 : xe_look (xc 235) 83 = some (.aload_n 0, 1, 0, 0, 0) := by decide +kernel
theorem qcn_84 : xe_look (xc 235) 84 = some (.invokevirtual 341, 3, 0, 234, 1259) := by decide +kernel
theorem qcn_87 : xe_look (xc 235) 87 = some (.ifCond .ne 5, 3, 0, 0, 0) := by decide +kernel
theorem qcn_90 : xe_look (xc 235) 90 = some (.iconst 0, 1, 0, 0, 0) := by decide +kernel
theorem qcn_91 : xe_look (xc 235) 91 = some (.ireturn, 1, 0, 0, 0) := by decide +kernel
theorem qcn_92 : xe_look (xc 235) 92 = some (.aload_n 0, 1, 0, 0, 0) := by decide +kernel
theorem qcn_93 : xe_look (xc 235) 93 = some (.invokevirtual 252, 3, 0, 198, 1137) := by decide +kernel
theorem qcn_96 : xe_look (xc 235) 96 = some (.bipush 41, 2, 0, 0, 0) := by decide +kernel
theorem qcn_98 : xe_look (xc 235) 98 = some (.if_icmp .ne 54, 3, 0, 0, 0) := by decide +kernel
theorem qcn_101 : xe_look (xc 235) 101 = some (.aload_n 0, 1, 0, 0, 0) := by decide +kernel
theorem qcn_102 : xe_look (xc 235) 102 = some (.iconst 1, 1, 0, 0, 0) := by decide +kernel
theorem qcn_103 : xe_look (xc 235) 103 = some (.invokevirtual 344, 3, 0, 212, 1260) := by decide +kernel
theorem qcn_106 : xe_look (xc 235) 106 = some (.aload_n 0, 1, 0, 0, 0) := by decide +kernel
theorem qcn_107 : xe_look (xc 235) 107 = some (.aload_n 0, 1, 0, 0, 0) := by decide +kernel
theorem qcn_108 : xe_look (xc 235) 108 = some (.getfield 303, 3, 12, 33, 1146) := by decide +kernel
theorem qcn_111 : xe_look (xc 235) 111 = some (.iconst 1, 1, 0, 0, 0) := by decide +kernel
theorem qcn_112 : xe_look (xc 235) 112 = some (.isub, 1, 0, 0, 0) := by decide +kernel
theorem qcn_113 : xe_look (xc 235) 113 = some (.putfield 303, 3, 12, 33, 1146) := by decide +kernel
theorem qcn_116 : xe_look (xc 235) 116 = some (.aload_n 0, 1, 0, 0, 0) := by decide +kernel
theorem qcn_117 : xe_look (xc 235) 117 = some (.aload_n 0, 1, 0, 0, 0) := by decide +kernel
theorem qcn_118 : xe_look (xc 235) 118 = some (.getfield 300, 3, 12, 31, 1170) := by decide +kernel
theorem qcn_121 : xe_look (xc 235) 121 = some (.iconst 1, 1, 0, 0, 0) := by decide +kernel
theorem qcn_122 : xe_look (xc 235) 122 = some (.isub, 1, 0, 0, 0) := by decide +kernel
theorem qcn_123 : xe_look (xc 235) 123 = some (.putfield 300, 3, 12, 31, 1170) := by decide +kernel
theorem qcn_126 : xe_look (xc 235) 126 = some (.aload_n 0, 1, 0, 0, 0) := by decide +kernel
theorem qcn_127 : xe_look (xc 235) 127 = some (.aload_n 0, 1, 0, 0, 0) := by decide +kernel
theorem qcn_128 : xe_look (xc 235) 128 = some (.getfield 242, 3, 12, 18, 1135) := by decide +kernel
theorem qcn_131 : xe_look (xc 235) 131 = some (.iconst 1, 1, 0, 0, 0) := by decide +kernel
theorem qcn_132 : xe_look (xc 235) 132 = some (.iadd, 1, 0, 0, 0) := by decide +kernel
theorem qcn_133 : xe_look (xc 235) 133 = some (.putfield 242, 3, 12, 18, 1135) := by decide +kernel
theorem qcn_136 : xe_look (xc 235) 136 = some (.aload_n 0, 1, 0, 0, 0) := by decide +kernel
theorem qcn_137 : xe_look (xc 235) 137 = some (.getfield 303, 3, 12, 33, 1146) := by decide +kernel
theorem qcn_140 : xe_look (xc 235) 140 = some (.ifCond .ne 5, 3, 0, 0, 0) := by decide +kernel
theorem qcn_143 : xe_look (xc 235) 143 = some (.iconst 1, 1, 0, 0, 0) := by decide +kernel
theorem qcn_144 : xe_look (xc 235) 144 = some (.ireturn, 1, 0, 0, 0) := by decide +kernel
theorem qcn_145 : xe_look (xc 235) 145 = some (.aload_n 0, 1, 0, 0, 0) := by decide +kernel
theorem qcn_146 : xe_look (xc 235) 146 = some (.invokevirtual 338, 3, 0, 186, 1257) := by decide +kernel
theorem qcn_149 : xe_look (xc 235) 149 = some (.goto (-57), 3, 0, 0, 0) := by decide +kernel
theorem qcn_152 : xe_look (xc 235) 152 = some (.aload_n 0, 1, 0, 0, 0) := by decide +kernel
theorem qcn_153 : xe_look (xc 235) 153 = some (.invokevirtual 252, 3, 0, 198, 1137) := by decide +kernel
theorem qcn_156 : xe_look (xc 235) 156 = some (.bipush 38, 2, 0, 0, 0) := by decide +kernel
theorem qcn_158 : xe_look (xc 235) 158 = some (.if_icmp .eq 22, 3, 0, 0, 0) := by decide +kernel
theorem qcn_161 : xe_look (xc 235) 161 = some (.aload_n 0, 1, 0, 0, 0) := by decide +kernel
theorem qcn_162 : xe_look (xc 235) 162 = some (.invokevirtual 252, 3, 0, 198, 1137) := by decide +kernel
theorem qcn_165 : xe_look (xc 235) 165 = some (.bipush 124, 2, 0, 0, 0) := by decide +kernel
theorem qcn_167 : xe_look (xc 235) 167 = some (.if_icmp .eq 13, 3, 0, 0, 0) := by decide +kernel
theorem qcn_170 : xe_look (xc 235) 170 = some (.aload_n 0, 1, 0, 0, 0) := by decide +kernel
theorem qcn_171 : xe_look (xc 235) 171 = some (.iconst 1, 1, 0, 0, 0) := by decide +kernel
theorem qcn_172 : xe_look (xc 235) 172 = some (.aload_n 0, 1, 0, 0, 0) := by decide +kernel
theorem qcn_173 : xe_look (xc 235) 173 = some (.getfield 242, 3, 12, 18, 1135) := by decide +kernel
theorem qcn_176 : xe_look (xc 235) 176 = some (.invokevirtual 256, 3, 0, 274, 1138) := by decide +kernel
theorem qcn_179 : xe_look (xc 235) 179 = some (.ireturn, 1, 0, 0, 0) := by decide +kernel
theorem qcn_180 : xe_look (xc 235) 180 = some (.aload_n 0, 1, 0, 0, 0) := by decide +kernel
theorem qcn_181 : xe_look (xc 235) 181 = some (.aload_n 0, 1, 0, 0, 0) := by decide +kernel
theorem qcn_182 : xe_look (xc 235) 182 = some (.invokevirtual 252, 3, 0, 198, 1137) := by decide +kernel
theorem qcn_185 : xe_look (xc 235) 185 = some (.bipush 124, 2, 0, 0, 0) := by decide +kernel
theorem qcn_187 : xe_look (xc 235) 187 = some (.if_icmp .ne 7, 3, 0, 0, 0) := by decide +kernel
theorem qcn_190 : xe_look (xc 235) 190 = some (.iconst 1, 1, 0, 0, 0) := by decide +kernel
theorem qcn_191 : xe_look (xc 235) 191 = some (.goto 4, 3, 0, 0, 0) := by decide +kernel
theorem qcn_194 : xe_look (xc 235) 194 = some (.iconst 0, 1, 0, 0, 0) := by decide +kernel
theorem qcn_195 : xe_look (xc 235) 195 = some (.invokevirtual 344, 3, 0, 212, 1260) := by decide +kernel
theorem qcn_198 : xe_look (xc 235) 198 = some (.aload_n 0, 1, 0, 0, 0) := by decide +kernel
theorem qcn_199 : xe_look (xc 235) 199 = some (.aload_n 0, 1, 0, 0, 0) := by decide +kernel
theorem qcn_200 : xe_look (xc 235) 200 = some (.invokevirtual 252, 3, 0, 198, 1137) := by decide +kernel
theorem qcn_203 : xe_look (xc 235) 203 = some (.bipush 38, 2, 0, 0, 0) := by decide +kernel
theorem qcn_205 : xe_look (xc 235) 205 = some (.if_icmp .ne 8, 3, 0, 0, 0) := by decide +kernel
theorem qcn_208 : xe_look (xc 235) 208 = some (.bipush 11, 2, 0, 0, 0) := by decide +kernel
theorem qcn_210 : xe_look (xc 235) 210 = some (.goto 5, 3, 0, 0, 0) := by decide +kernel
theorem qcn_213 : xe_look (xc 235) 213 = some (.bipush 12, 2, 0, 0, 0) := by decide +kernel
theorem qcn_215 : xe_look (xc 235) 215 = some (.invokevirtual 347, 3, 0, 208, 1261) := by decide +kernel
theorem qcn_218 : xe_look (xc 235) 218 = some (.goto (-178), 3, 0, 0, 0) := by decide +kernel
theorem qep_0 : xe_look (xc 186) 0 = some (.aload_n 0, 1, 0, 0, 0) := by decide +kernel
theorem qep_1 : xe_look (xc 186) 1 = some (.invokevirtual 306, 3, 0, 272, 1144) := by decide +kernel
theorem qep_4 : xe_look (xc 186) 4 = some (.bipush 10, 2, 0, 0, 0) := by decide +kernel
theorem qep_6 : xe_look (xc 186) 6 = some (.if_icmp .ne 33, 3, 0, 0, 0) := by decide +kernel
theorem qep_9 : xe_look (xc 186) 9 = some (.aload_n 0, 1, 0, 0, 0) := by decide +kernel
theorem qep_10 : xe_look (xc 186) 10 = some (.bipush 10, 2, 0, 0, 0) := by decide +kernel
theorem qep_12 : xe_look (xc 186) 12 = some (.iconst 0, 1, 0, 0, 0) := by decide +kernel
theorem qep_13 : xe_look (xc 186) 13 = some (.invokevirtual 309, 3, 0, 223, 1145) := by decide +kernel
theorem qep_16 : xe_look (xc 186) 16 = some (.aload_n 0, 1, 0, 0, 0) := by decide +kernel
theorem qep_17 : xe_look (xc 186) 17 = some (.aload_n 0, 1, 0, 0, 0) := by decide +kernel
theorem qep_18 : xe_look (xc 186) 18 = some (.getfield 303, 3, 12, 33, 1146) := by decide +kernel
theorem qep_21 : xe_look (xc 186) 21 = some (.iconst 1, 1, 0, 0, 0) := by decide +kernel
theorem qep_22 : xe_look (xc 186) 22 = some (.isub, 1, 0, 0, 0) := by decide +kernel
theorem qep_23 : xe_look (xc 186) 23 = some (.putfield 303, 3, 12, 33, 1146) := by decide +kernel
theorem qep_26 : xe_look (xc 186) 26 = some (.aload_n 0, 1, 0, 0, 0) := by decide +kernel
theorem qep_27 : xe_look (xc 186) 27 = some (.aload_n 0, 1, 0, 0, 0) := by decide +kernel
theorem qep_28 : xe_look (xc 186) 28 = some (.getfield 300, 3, 12, 31, 1170) := by decide +kernel
theorem qep_31 : xe_look (xc 186) 31 = some (.iconst 1, 1, 0, 0, 0) := by decide +kernel
theorem qep_32 : xe_look (xc 186) 32 = some (.isub, 1, 0, 0, 0) := by decide +kernel
theorem qep_33 : xe_look (xc 186) 33 = some (.putfield 300, 3, 12, 31, 1170) := by decide +kernel
theorem qep_36 : xe_look (xc 186) 36 = some (.goto (-36), 3, 0, 0, 0) := by decide +kernel
theorem qep_39 : xe_look (xc 186) 39 = some (.return_, 1, 0, 0, 0) := by decide +kernel
theorem qjm_0 : xe_look (xc 208) 0 = some (.aload_n 0, 1, 0, 0, 0) := by decide +kernel
theorem qjm_1 : xe_look (xc 208) 1 = some (.getfield 71, 3, 12, 37, 1189) := by decide +kernel
theorem qjm_4 : xe_look (xc 208) 4 = some (.aload_n 0, 1, 0, 0, 0) := by decide +kernel
theorem qjm_5 : xe_look (xc 208) 5 = some (.getfield 303, 3, 12, 33, 1146) := by decide +kernel
theorem qjm_8 : xe_look (xc 208) 8 = some (.ldc_w 299, 3, 0, 2148532224, 1151) := by decide +kernel
theorem qjm_11 : xe_look (xc 208) 11 = some (.iload_n 1, 1, 0, 0, 0) := by decide +kernel
theorem qjm_12 : xe_look (xc 208) 12 = some (.imul, 1, 0, 0, 0) := by decide +kernel
theorem qjm_13 : xe_look (xc 208) 13 = some (.aload_n 0, 1, 0, 0, 0) := by decide +kernel
theorem qjm_14 : xe_look (xc 208) 14 = some (.getfield 296, 3, 12, 32, 1222) := by decide +kernel
theorem qjm_17 : xe_look (xc 208) 17 = some (.iadd, 1, 0, 0, 0) := by decide +kernel
theorem qjm_18 : xe_look (xc 208) 18 = some (.iastore, 1, 0, 0, 0) := by decide +kernel
theorem qjm_19 : xe_look (xc 208) 19 = some (.aload_n 0, 1, 0, 0, 0) := by decide +kernel
theorem qjm_20 : xe_look (xc 208) 20 = some (.aload_n 0, 1, 0, 0, 0) := by decide +kernel
theorem qjm_21 : xe_look (xc 208) 21 = some (.getfield 303, 3, 12, 33, 1146) := by decide +kernel
theorem qjm_24 : xe_look (xc 208) 24 = some (.iconst 1, 1, 0, 0, 0) := by decide +kernel
theorem qjm_25 : xe_look (xc 208) 25 = some (.iadd, 1, 0, 0, 0) := by decide +kernel
theorem qjm_26 : xe_look (xc 208) 26 = some (.putfield 303, 3, 12, 33, 1146) := by decide +kernel
theorem qjm_29 : xe_look (xc 208) 29 = some (.aload_n 0, 1, 0, 0, 0) := by decide +kernel
theorem qjm_30 : xe_look (xc 208) 30 = some (.iload_n 1, 1, 0, 0, 0) := by decide +kernel
theorem qjm_31 : xe_look (xc 208) 31 = some (.iconst 0, 1, 0, 0, 0) := by decide +kernel
theorem qjm_32 : xe_look (xc 208) 32 = some (.invokevirtual 309, 3, 0, 223, 1145) := by decide +kernel
theorem qjm_35 : xe_look (xc 208) 35 = some (.aload_n 0, 1, 0, 0, 0) := by decide +kernel
theorem qjm_36 : xe_look (xc 208) 36 = some (.aload_n 0, 1, 0, 0, 0) := by decide +kernel
theorem qjm_37 : xe_look (xc 208) 37 = some (.getfield 242, 3, 12, 18, 1135) := by decide +kernel
theorem qjm_40 : xe_look (xc 208) 40 = some (.iconst 1, 1, 0, 0, 0) := by decide +kernel
theorem qjm_41 : xe_look (xc 208) 41 = some (.iadd, 1, 0, 0, 0) := by decide +kernel
theorem qjm_42 : xe_look (xc 208) 42 = some (.putfield 242, 3, 12, 18, 1135) := by decide +kernel
theorem qjm_45 : xe_look (xc 208) 45 = some (.return_, 1, 0, 0, 0) := by decide +kernel
theorem qln_0 : xe_look (xc 212) 0 = some (.aload_n 0, 1, 0, 0, 0) := by decide +kernel
theorem qln_1 : xe_look (xc 212) 1 = some (.invokevirtual 306, 3, 0, 272, 1144) := by decide +kernel
theorem qln_4 : xe_look (xc 212) 4 = some (.bipush 11, 2, 0, 0, 0) := by decide +kernel
theorem qln_6 : xe_look (xc 212) 6 = some (.if_icmp .eq 16, 3, 0, 0, 0) := by decide +kernel
theorem qln_9 : xe_look (xc 212) 9 = some (.iload_n 1, 1, 0, 0, 0) := by decide +kernel
theorem qln_10 : xe_look (xc 212) 10 = some (.ifCond .eq 66, 3, 0, 0, 0) := by decide +kernel
theorem qln_13 : xe_look (xc 212) 13 = some (.aload_n 0, 1, 0, 0, 0) := by decide +kernel
theorem qln_14 : xe_look (xc 212) 14 = some (.invokevirtual 306, 3, 0, 272, 1144) := by decide +kernel
theorem qln_17 : xe_look (xc 212) 17 = some (.bipush 12, 2, 0, 0, 0) := by decide +kernel
theorem qln_19 : xe_look (xc 212) 19 = some (.if_icmp .ne 57, 3, 0, 0, 0) := by decide +kernel
theorem qln_22 : xe_look (xc 212) 22 = some (.aload_n 0, 1, 0, 0, 0) := by decide +kernel
theorem qln_23 : xe_look (xc 212) 23 = some (.getfield 71, 3, 12, 37, 1189) := by decide +kernel
theorem qln_26 : xe_look (xc 212) 26 = some (.aload_n 0, 1, 0, 0, 0) := by decide +kernel
theorem qln_27 : xe_look (xc 212) 27 = some (.getfield 303, 3, 12, 33, 1146) := by decide +kernel
theorem qln_30 : xe_look (xc 212) 30 = some (.iconst 1, 1, 0, 0, 0) := by decide +kernel
theorem qln_31 : xe_look (xc 212) 31 = some (.isub, 1, 0, 0, 0) := by decide +kernel
theorem qln_32 : xe_look (xc 212) 32 = some (.iaload, 1, 0, 0, 0) := by decide +kernel
theorem qln_33 : xe_look (xc 212) 33 = some (.ldc_w 299, 3, 0, 2148532224, 1151) := by decide +kernel
theorem qln_36 : xe_look (xc 212) 36 = some (.irem, 1, 0, 0, 0) := by decide +kernel
theorem qln_37 : xe_look (xc 212) 37 = some (.istore_n 2, 1, 0, 0, 0) := by decide +kernel
theorem qln_38 : xe_look (xc 212) 38 = some (.aload_n 0, 1, 0, 0, 0) := by decide +kernel
theorem qln_39 : xe_look (xc 212) 39 = some (.getfield 68, 3, 12, 36, 1194) := by decide +kernel
theorem qln_42 : xe_look (xc 212) 42 = some (.iload_n 2, 1, 0, 0, 0) := by decide +kernel
theorem qln_43 : xe_look (xc 212) 43 = some (.ldc_w 299, 3, 0, 2148532224, 1151) := by decide +kernel
theorem qln_46 : xe_look (xc 212) 46 = some (.aload_n 0, 1, 0, 0, 0) := by decide +kernel
theorem qln_47 : xe_look (xc 212) 47 = some (.getfield 68, 3, 12, 36, 1194) := by decide +kernel
theorem qln_50 : xe_look (xc 212) 50 = some (.iload_n 2, 1, 0, 0, 0) := by decide +kernel
theorem qln_51 : xe_look (xc 212) 51 = some (.iaload, 1, 0, 0, 0) := by decide +kernel
theorem qln_52 : xe_look (xc 212) 52 = some (.ldc_w 299, 3, 0, 2148532224, 1151) := by decide +kernel
theorem qln_55 : xe_look (xc 212) 55 = some (.idiv, 1, 0, 0, 0) := by decide +kernel
theorem qln_56 : xe_look (xc 212) 56 = some (.imul, 1, 0, 0, 0) := by decide +kernel
theorem qln_57 : xe_look (xc 212) 57 = some (.aload_n 0, 1, 0, 0, 0) := by decide +kernel
theorem qln_58 : xe_look (xc 212) 58 = some (.getfield 296, 3, 12, 32, 1222) := by decide +kernel
theorem qln_61 : xe_look (xc 212) 61 = some (.iadd, 1, 0, 0, 0) := by decide +kernel
theorem qln_62 : xe_look (xc 212) 62 = some (.iastore, 1, 0, 0, 0) := by decide +kernel
theorem qln_63 : xe_look (xc 212) 63 = some (.aload_n 0, 1, 0, 0, 0) := by decide +kernel
theorem qln_64 : xe_look (xc 212) 64 = some (.aload_n 0, 1, 0, 0, 0) := by decide +kernel
theorem qln_65 : xe_look (xc 212) 65 = some (.getfield 303, 3, 12, 33, 1146) := by decide +kernel
theorem qln_68 : xe_look (xc 212) 68 = some (.iconst 1, 1, 0, 0, 0) := by decide +kernel
theorem qln_69 : xe_look (xc 212) 69 = some (.isub, 1, 0, 0, 0) := by decide +kernel
theorem qln_70 : xe_look (xc 212) 70 = some (.putfield 303, 3, 12, 33, 1146) := by decide +kernel
theorem qln_73 : xe_look (xc 212) 73 = some (.goto (-73), 3, 0, 0, 0) := by decide +kernel
theorem qln_76 : xe_look (xc 212) 76 = some (.return_, 1, 0, 0, 0) := by decide +kernel
theorem qrc_0 : xe_look (xc 234) 0 = some (.aload_n 0, 1, 0, 0, 0) := by decide +kernel
theorem qrc_1 : xe_look (xc 234) 1 = some (.invokevirtual 335, 3, 0, 241, 1255) := by decide +kernel
theorem qrc_4 : xe_look (xc 234) 4 = some (.ifCond .ne 5, 3, 0, 0, 0) := by decide +kernel
theorem qrc_7 : xe_look (xc 234) 7 = some (.iconst 0, 1, 0, 0, 0) := by decide +kernel
theorem qrc_8 : xe_look (xc 234) 8 = some (.ireturn, 1, 0, 0, 0) := by decide +kernel
theorem qrc_9 : xe_look (xc 234) 9 = some (.aload_n 0, 1, 0, 0, 0) := by decide +kernel
theorem qrc_10 : xe_look (xc 234) 10 = some (.invokevirtual 252, 3, 0, 198, 1137) := by decide +kernel
theorem qrc_13 : xe_look (xc 234) 13 = some (.bipush 60, 2, 0, 0, 0) := by decide +kernel
theorem qrc_15 : xe_look (xc 234) 15 = some (.if_icmp .ne 8, 3, 0, 0, 0) := by decide +kernel
theorem qrc_18 : xe_look (xc 234) 18 = some (.bipush 7, 2, 0, 0, 0) := by decide +kernel
theorem qrc_20 : xe_look (xc 234) 20 = some (.goto 32, 3, 0, 0, 0) := by decide +kernel
theorem qrc_23 : xe_look (xc 234) 23 = some (.aload_n 0, 1, 0, 0, 0) := by decide +kernel
theorem qrc_24 : xe_look (xc 234) 24 = some (.invokevirtual 252, 3, 0, 198, 1137) := by decide +kernel
theorem qrc_27 : xe_look (xc 234) 27 = some (.bipush 62, 2, 0, 0, 0) := by decide +kernel
theorem qrc_29 : xe_look (xc 234) 29 = some (.if_icmp .ne 8, 3, 0, 0, 0) := by decide +kernel
theorem qrc_32 : xe_look (xc 234) 32 = some (.bipush 8, 2, 0, 0, 0) := by decide +kernel
theorem qrc_34 : xe_look (xc 234) 34 = some (.goto 18, 3, 0, 0, 0) := by decide +kernel
theorem qrc_37 : xe_look (xc 234) 37 = some (.aload_n 0, 1, 0, 0, 0) := by decide +kernel
theorem qrc_38 : xe_look (xc 234) 38 = some (.invokevirtual 252, 3, 0, 198, 1137) := by decide +kernel
theorem qrc_41 : xe_look (xc 234) 41 = some (.bipush 61, 2, 0, 0, 0) := by decide +kernel
theorem qrc_43 : xe_look (xc 234) 43 = some (.if_icmp .ne 8, 3, 0, 0, 0) := by decide +kernel
theorem qrc_46 : xe_look (xc 234) 46 = some (.bipush 9, 2, 0, 0, 0) := by decide +kernel
theorem qrc_48 : xe_look (xc 234) 48 = some (.goto 4, 3, 0, 0, 0) := by decide +kernel
theorem qrc_51 : xe_look (xc 234) 51 = some (.iconst (-1), 1, 0, 0, 0) := by decide +kernel
theorem qrc_52 : xe_look (xc 234) 52 = some (.istore_n 1, 1, 0, 0, 0) := by decide +kernel
theorem qrc_53 : xe_look (xc 234) 53 = some (.iload_n 1, 1, 0, 0, 0) := by decide +kernel
theorem qrc_54 : xe_look (xc 234) 54 = some (.iconst (-1), 1, 0, 0, 0) := by decide +kernel
theorem qrc_55 : xe_look (xc 234) 55 = some (.if_icmp .ne 13, 3, 0, 0, 0) := by decide +kernel
theorem qrc_58 : xe_look (xc 234) 58 = some (.aload_n 0, 1, 0, 0, 0) := by decide +kernel
theorem qrc_59 : xe_look (xc 234) 59 = some (.iconst 1, 1, 0, 0, 0) := by decide +kernel
theorem qrc_60 : xe_look (xc 234) 60 = some (.aload_n 0, 1, 0, 0, 0) := by decide +kernel
theorem qrc_61 : xe_look (xc 234) 61 = some (.getfield 242, 3, 12, 18, 1135) := by decide +kernel
theorem qrc_64 : xe_look (xc 234) 64 = some (.invokevirtual 256, 3, 0, 274, 1138) := by decide +kernel
theorem qrc_67 : xe_look (xc 234) 67 = some (.ireturn, 1, 0, 0, 0) := by decide +kernel
theorem qrc_68 : xe_look (xc 234) 68 = some (.aload_n 0, 1, 0, 0, 0) := by decide +kernel
theorem qrc_69 : xe_look (xc 234) 69 = some (.aload_n 0, 1, 0, 0, 0) := by decide +kernel
theorem qrc_70 : xe_look (xc 234) 70 = some (.getfield 242, 3, 12, 18, 1135) := by decide +kernel
theorem qrc_73 : xe_look (xc 234) 73 = some (.iconst 1, 1, 0, 0, 0) := by decide +kernel
theorem qrc_74 : xe_look (xc 234) 74 = some (.iadd, 1, 0, 0, 0) := by decide +kernel
theorem qrc_75 : xe_look (xc 234) 75 = some (.putfield 242, 3, 12, 18, 1135) := by decide +kernel
theorem qrc_78 : xe_look (xc 234) 78 = some (.aload_n 0, 1, 0, 0, 0) := by decide +kernel
theorem qrc_79 : xe_look (xc 234) 79 = some (.invokevirtual 335, 3, 0, 241, 1255) := by decide +kernel
theorem qrc_82 : xe_look (xc 234) 82 = some (.ifCond .ne 5, 3, 0, 0, 0) := by decide +kernel
theorem qrc_85 : xe_look (xc 234) 85 = some (.iconst 0, 1, 0, 0, 0) := by decide +kernel
theorem qrc_86 : xe_look (xc 234) 86 = some (.ireturn, 1, 0, 0, 0) := by decide +kernel
theorem qrc_87 : xe_look (xc 234) 87 = some (.aload_n 0, 1, 0, 0, 0) := by decide +kernel
theorem qrc_88 : xe_look (xc 234) 88 = some (.iload_n 1, 1, 0, 0, 0) := by decide +kernel
theorem qrc_89 : xe_look (xc 234) 89 = some (.iconst 0, 1, 0, 0, 0) := by decide +kernel
theorem qrc_90 : xe_look (xc 234) 90 = some (.invokevirtual 309, 3, 0, 223, 1145) := by decide +kernel
theorem qrc_93 : xe_look (xc 234) 93 = some (.aload_n 0, 1, 0, 0, 0) := by decide +kernel
theorem qrc_94 : xe_look (xc 234) 94 = some (.invokevirtual 338, 3, 0, 186, 1257) := by decide +kernel
theorem qrc_97 : xe_look (xc 234) 97 = some (.iconst 1, 1, 0, 0, 0) := by decide +kernel
theorem qrc_98 : xe_look (xc 234) 98 = some (.ireturn, 1, 0, 0, 0) := by decide +kernel

def cG (a : Nat) (f0 : Nat → Int) (z : Int) (g : pH) (δ : Int) : Prop := cJ a f0 z (fF g 18) (fF g 32) (fF g 33) (fA g 216) (fA g 217) δ
theorem cG_c {a : Nat} {f0 : Nat → Int} {z : Int} {g : pH} {δ : Int} (h : cG a f0 z g δ) (hz : 0 ≤ z) : 0 ≤ fF g 32 ∧ fF g 32 + z ≤ fF g 18 ∧ 1 ≤ fF g 33 ∧ fF g 33 ≤ fF g 18 ∧ fF g 18 ≤ 240 ∧ (a : Int) ≤ fF g 32 ∧ fF g 32 + kW (fA g 217) (fF g 33).toNat + z ≤ fF g 18 := by
  have h1 := h.1
  have h2 := kW_0 (fA g 217) (fF g 33).toNat
  omega
set_option maxHeartbeats 4000000 in
theorem ep_loop {d : Nat} (hd : 1 ≤ d) {h0 gs : pH} {a : Nat} {f0 : Nat → Int} {P : Option pv × pH → Prop} (hP : ∀ g1 : pH, J_ Wu h0 g1 → cG a f0 0 g1 1 → fF g1 18 = fF gs 18 → fF g1 19 = fF gs 19 → P (none, g1)) : ∀ (m : Nat) (g : pH) (lv : List (Nat × pv)), fF g 33 ≤ m → J_ Wu h0 g → cG a f0 0 g 1 → (fF g 18 = fF gs 18 ∧ fF g 19 = fF gs 19) → px_lg lv 0 = some (pvR 196) → t_X d 186 0 lv [] g P := by
  obtain ⟨w_18, w_20, w_21, w_31, w_32, w_33, w_a216, w_a217, z_19⟩ := Wu_f
  intro m
  induction m with
  | zero =>
    intro g lv hm hJ hs hp l0
    have hsc := cG_c hs (by decide)
    omega
  | succ m ih =>
    intro g lv hm hJ hs hp l0
    have hsc := cG_c hs (by decide)
    refine t_0 qep_0 rfl (ld_a l0) ?_
    refine t_3 qep_1 rfl (ar := ([pvR 196], [])) (pcal_v0 rfl rfl el_196) ⟨by omega, Nat.le_of_ble_eq_true rfl, Nat.le_of_ble_eq_true rfl, rfl⟩ ?_
    refine wt_run hJ ⟨by omega, by omega⟩ (fun _ => (hs.2.2.1 _ (by omega)).1) (fun z1 hz1 => ?_) rfl
    show t_X d 186 4 lv [oI (z1)] g P
    have b1 : -1 ≤ z1 ∧ z1 ≤ 2147483647 := by
      have := fA_b g 217 (fF g 33 - 1).toNat
      have hn : 1 ≤ fF g 33 → 0 ≤ fA g 217 (fF g 33 - 1).toNat := fun _ => (hs.2.2.1 _ (by omega)).1
      omega
    refine t_0 qep_4 rfl (pq_b (by decide)) ?_
    refine tb_ne qep_6 (by decide) ⟨by omega, by omega⟩ ⟨by omega, by omega⟩ (fun c2 => ?_) (fun c2 => ?_)
    · show t_X d 186 39 lv [] g P
      refine t_5 qep_39 rfl rfl ?_
      exact hP _ hJ hs (by omega) (by omega)
    · show t_X d 186 9 lv [] g P
      refine t_0 qep_9 rfl (ld_a l0) ?_
      refine t_0 qep_10 rfl (pq_b (by decide)) ?_
      refine t_0 qep_12 rfl rfl ?_
      refine t_3 qep_13 rfl (ar := ([pvR 196, oI (10), oI (0)], [])) (pcal_v2 rfl rfl el_196) ⟨by omega, Nat.le_of_ble_eq_true rfl, Nat.le_of_ble_eq_true rfl, rfl⟩ ?_
      refine nt_run hJ ⟨by omega, by omega⟩ ⟨by omega, by omega⟩ ⟨by omega, by omega⟩ (fun g3 hJ3 n3 f3 x3 y3 a3 => ?_) rfl rfl rfl
      have q3_18 := f3 18 (by decide)
      have q3_19 := f3 19 (by decide)
      have q3_33 := f3 33 (by decide)
      show t_X d 186 16 lv [] g3 P
      refine t_0 qep_16 rfl (ld_a l0) ?_
      refine t_0 qep_17 rfl (ld_a l0) ?_
      have r4 := fF_b g3 33
      refine t_0 qep_18 rfl (pq_gf (y := 33) rfl) ?_
      refine t_0 qep_21 rfl rfl ?_
      refine t_0 qep_22 rfl pq_sub ?_
      refine tw_f qep_23 rfl hJ3 w_33 gf_33 (by decide) ⟨by omega, by omega⟩ (fun g5 hJ5 v5 f5 a5 => ?_)
      replace a5 := fA_2 a5
      have q5_18 := f5 18 (by decide)
      have q5_19 := f5 19 (by decide)
      have q5_32 := f5 32 (by decide)
      show t_X d 186 26 lv [] g5 P
      refine t_0 qep_26 rfl (ld_a l0) ?_
      refine t_0 qep_27 rfl (ld_a l0) ?_
      have r6 := fF_b g5 31
      refine t_0 qep_28 rfl (pq_gf (y := 31) rfl) ?_
      refine t_0 qep_31 rfl rfl ?_
      refine t_0 qep_32 rfl pq_sub ?_
      refine tw_fx qep_33 rfl hJ5 w_31 gf_31 (fun g7 hJ7 f7 a7 => ?_)
      replace a7 := fA_2 a7
      have q7_18 := f7 18 (by decide)
      have q7_19 := f7 19 (by decide)
      have q7_32 := f7 32 (by decide)
      have q7_33 := f7 33 (by decide)
      show t_X d 186 36 lv [] g7 P
      refine t_1 qep_36 rfl (pb_goto (pc := 36) (by decide)) ?_
      show t_X d 186 0 lv [] g7 P
      have e18 : fF g7 18 = fF g 18 := by omega
      have e32 : fF g7 32 = fF g 32 + 1 := by omega
      have e33 : fF g7 33 = fF g 33 - 1 := by omega
      have e217 : fA g7 217 = fA g 217 := by rw [a7, a5, a3 217 (by decide)]
      refine ih _ _ (by omega) hJ7 ?_ (by omega) l0
      unfold cG
      rw [e18, e32, e33, e217]
      exact cJ_note hs (w2 := fF g 33 - 1) (x := 1048576 * 10 + 0) (Or.inr ⟨rfl, by omega, by omega, rfl, rfl⟩) (by omega) (by rw [a7, a5]; exact x3) (fun u hu => by rw [a7, a5]; exact y3 u hu)
set_option maxHeartbeats 8000000 in
theorem ln_loop {d : Nat} (hd : 1 ≤ d) {h0 gs : pH} {a : Nat} {f0 : Nat → Int} {al : Int} (hal : al = 0 ∨ al = 1) {P : Option pv × pH → Prop} (hP : ∀ g1 : pH, J_ Wu h0 g1 → cG a f0 0 g1 1 → fF g1 18 = fF gs 18 → fF g1 19 = fF gs 19 → fF g1 32 = fF gs 32 → (fA g1 217 (fF g1 33 - 1).toNat / 1048576 ≠ 11 ∧ (al = 1 → fA g1 217 (fF g1 33 - 1).toNat / 1048576 ≠ 12)) → P (none, g1)) : ∀ (m : Nat) (g : pH) (lv : List (Nat × pv)), fF g 33 ≤ m → J_ Wu h0 g → cG a f0 0 g 1 → (fF g 18 = fF gs 18 ∧ fF g 19 = fF gs 19 ∧ fF g 32 = fF gs 32) → px_lg lv 0 = some (pvR 196) → px_lg lv 1 = some (oI al) → t_X d 212 0 lv [] g P := by
  obtain ⟨w_18, w_20, w_21, w_31, w_32, w_33, w_a216, w_a217, z_19⟩ := Wu_f
  intro m
  induction m with
  | zero =>
    intro g lv hm hJ hs hp l0 l1
    have hsc := cG_c hs (by decide)
    omega
  | succ m ih =>
    intro g lv hm hJ hs hp l0 l1
    have hsc := cG_c hs (by decide)
    refine t_0 qln_0 rfl (ld_a l0) ?_
    refine t_3 qln_1 rfl (ar := ([pvR 196], [])) (pcal_v0 rfl rfl el_196) ⟨by omega, Nat.le_of_ble_eq_true rfl, Nat.le_of_ble_eq_true rfl, rfl⟩ ?_
    refine wt_run hJ ⟨by omega, by omega⟩ (fun _ => (hs.2.2.1 _ (by omega)).1) (fun z1 hz1 => ?_) rfl
    show t_X d 212 4 lv [oI (z1)] g P
    have b1 : -1 ≤ z1 ∧ z1 ≤ 2147483647 := by
      have := fA_b g 217 (fF g 33 - 1).toNat
      have hn : 1 ≤ fF g 33 → 0 ≤ fA g 217 (fF g 33 - 1).toNat := fun _ => (hs.2.2.1 _ (by omega)).1
      omega
    refine t_0 qln_4 rfl (pq_b (by decide)) ?_
    refine tb_eq qln_6 (by decide) ⟨by omega, by omega⟩ ⟨by omega, by omega⟩ (fun c2 => ?_) (fun c2 => ?_)
    · show t_X d 212 22 lv [] g P
      obtain ⟨r1, r2, r3, r4⟩ := (hs.2.2.1 (fF g 33 - 1).toNat (by omega)).2.2 (by omega)
      have n1 := (hs.2.2.1 (fF g 33 - 1).toNat (by omega)).1
      have w1 := (hs.2.2.2.2.1 (fA g 217 (fF g 33 - 1).toNat % 1048576).toNat (by omega) (by omega)).1
      have w2 := w1.1
      have w3 := w1.2.1
      refine t_0 qln_22 rfl (ld_a l0) ?_
      refine t_0 qln_23 rfl (ar_37 hJ.1) ?_
      refine t_0 qln_26 rfl (ld_a l0) ?_
      have r3 := fF_b g 33
      refine t_0 qln_27 rfl (pq_gf (y := 33) rfl) ?_
      refine t_0 qln_30 rfl rfl ?_
      refine t_0 qln_31 rfl pq_sub ?_
      refine t_0 qln_32 rfl (pq_ia el_217 rfl ⟨by omega, by omega⟩) ?_
      have r4 := fA_b g 217 ((fF g 33) - 1).toNat
      refine t_0 qln_33 rfl (pq_cw (n := 1048576) (by decide +kernel)) ?_
      refine t_0 qln_36 rfl (pq_rem ⟨by omega, by omega⟩ ⟨by omega, by omega⟩) ?_
      refine t_2 qln_37 rfl (w := (px_s1 lv 2 (oI ((fA g 217 ((fF g 33) - 1).toNat) % 1048576)), [])) rfl ?_
      replace l0 : px_lg (px_s1 lv 2 (oI ((fA g 217 ((fF g 33) - 1).toNat) % 1048576))) 0 = some (pvR 196) := s1_ne (by decide) (fun _ => rfl) l0
      replace l1 : px_lg (px_s1 lv 2 (oI ((fA g 217 ((fF g 33) - 1).toNat) % 1048576))) 1 = some (oI (al)) := s1_ne (by decide) (fun _ => rfl) l1
      have l2 : px_lg (px_s1 lv 2 (oI ((fA g 217 ((fF g 33) - 1).toNat) % 1048576))) 2 = some (oI ((fA g 217 ((fF g 33) - 1).toNat) % 1048576)) := s1_eq
      generalize px_s1 lv 2 (oI ((fA g 217 ((fF g 33) - 1).toNat) % 1048576)) = lv5 at l0 l1 l2 ⊢
      show t_X d 212 38 lv5 [] g P
      refine t_0 qln_38 rfl (ld_a l0) ?_
      refine t_0 qln_39 rfl (ar_36 hJ.1) ?_
      refine t_0 qln_42 rfl (ld_i l2) ?_
      refine t_0 qln_43 rfl (pq_cw (n := 1048576) (by decide +kernel)) ?_
      refine t_0 qln_46 rfl (ld_a l0) ?_
      refine t_0 qln_47 rfl (ar_36 hJ.1) ?_
      refine t_0 qln_50 rfl (ld_i l2) ?_
      refine t_0 qln_51 rfl (pq_ia el_216 rfl ⟨by omega, by omega⟩) ?_
      have r6 := fA_b g 216 ((fA g 217 ((fF g 33) - 1).toNat) % 1048576).toNat
      refine t_0 qln_52 rfl (pq_cw (n := 1048576) (by decide +kernel)) ?_
      refine t_0 qln_55 rfl (pq_div ⟨by omega, by omega⟩ ⟨by omega, by omega⟩) ?_
      refine t_0 qln_56 rfl pq_mul ?_
      refine t_0 qln_57 rfl (ld_a l0) ?_
      have r7 := fF_b g 32
      refine t_0 qln_58 rfl (pq_gf (y := 32) rfl) ?_
      refine t_0 qln_61 rfl pq_add ?_
      refine tw_a qln_62 hJ el_216 rfl w_a216 ga_216 (by decide) ⟨by omega, by omega⟩ ⟨by omega, by omega⟩ (fun g8 hJ8 a8 v8 b8 f8 => ?_)
      replace f8 := fF_1 f8
      have q8_18 := congrFun f8 18
      have q8_19 := congrFun f8 19
      have q8_32 := congrFun f8 32
      have q8_33 := congrFun f8 33
      show t_X d 212 63 lv5 [] g8 P
      refine t_0 qln_63 rfl (ld_a l0) ?_
      refine t_0 qln_64 rfl (ld_a l0) ?_
      have r9 := fF_b g8 33
      refine t_0 qln_65 rfl (pq_gf (y := 33) rfl) ?_
      refine t_0 qln_68 rfl rfl ?_
      refine t_0 qln_69 rfl pq_sub ?_
      refine tw_f qln_70 rfl hJ8 w_33 gf_33 (by decide) ⟨by omega, by omega⟩ (fun g10 hJ10 v10 f10 a10 => ?_)
      replace a10 := fA_2 a10
      have q10_18 := f10 18 (by decide)
      have q10_19 := f10 19 (by decide)
      have q10_32 := f10 32 (by decide)
      show t_X d 212 73 lv5 [] g10 P
      refine t_1 qln_73 rfl (pb_goto (pc := 73) (by decide)) ?_
      show t_X d 212 0 lv5 [] g10 P
      have e18 : fF g10 18 = fF g 18 := by omega
      have e32 : fF g10 32 = fF g 32 := by omega
      have e33 : fF g10 33 = fF g 33 - 1 := by omega
      have e217 : fA g10 217 = fA g 217 := by rw [a10, a8 217 (by decide)]
      refine ih _ _ (by omega) hJ10 ?_ (by omega) l0 l1
      unfold cG
      rw [e18, e32, e33, e217]
      exact cJ_land hs (by omega) (by rw [a10]; exact v8) (fun u hu => by rw [a10]; exact b8 u hu)
    · show t_X d 212 9 lv [] g P
      refine t_0 qln_9 rfl (ld_i l1) ?_
      refine tz_eq qln_10 (by decide) ⟨by omega, by omega⟩ (fun c11 => ?_) (fun c11 => ?_)
      · show t_X d 212 76 lv [] g P
        refine t_5 qln_76 rfl rfl ?_
        exact hP _ hJ hs (by omega) (by omega) (by omega) ⟨by omega, by omega⟩
      · show t_X d 212 13 lv [] g P
        refine t_0 qln_13 rfl (ld_a l0) ?_
        refine t_3 qln_14 rfl (ar := ([pvR 196], [])) (pcal_v0 rfl rfl el_196) ⟨by omega, Nat.le_of_ble_eq_true rfl, Nat.le_of_ble_eq_true rfl, rfl⟩ ?_
        refine wt_run hJ ⟨by omega, by omega⟩ (fun _ => (hs.2.2.1 _ (by omega)).1) (fun z12 hz12 => ?_) rfl
        show t_X d 212 17 lv [oI (z12)] g P
        have b12 : -1 ≤ z12 ∧ z12 ≤ 2147483647 := by
          have := fA_b g 217 (fF g 33 - 1).toNat
          have hn : 1 ≤ fF g 33 → 0 ≤ fA g 217 (fF g 33 - 1).toNat := fun _ => (hs.2.2.1 _ (by omega)).1
          omega
        refine t_0 qln_17 rfl (pq_b (by decide)) ?_
        refine tb_ne qln_19 (by decide) ⟨by omega, by omega⟩ ⟨by omega, by omega⟩ (fun c13 => ?_) (fun c13 => ?_)
        · show t_X d 212 76 lv [] g P
          refine t_5 qln_76 rfl rfl ?_
          exact hP _ hJ hs (by omega) (by omega) (by omega) ⟨by omega, by omega⟩
        · show t_X d 212 22 lv [] g P
          obtain ⟨r1, r2, r3, r4⟩ := (hs.2.2.1 (fF g 33 - 1).toNat (by omega)).2.2 (by omega)
          have n1 := (hs.2.2.1 (fF g 33 - 1).toNat (by omega)).1
          have w1 := (hs.2.2.2.2.1 (fA g 217 (fF g 33 - 1).toNat % 1048576).toNat (by omega) (by omega)).1
          have w2 := w1.1
          have w3 := w1.2.1
          refine t_0 qln_22 rfl (ld_a l0) ?_
          refine t_0 qln_23 rfl (ar_37 hJ.1) ?_
          refine t_0 qln_26 rfl (ld_a l0) ?_
          have r14 := fF_b g 33
          refine t_0 qln_27 rfl (pq_gf (y := 33) rfl) ?_
          refine t_0 qln_30 rfl rfl ?_
          refine t_0 qln_31 rfl pq_sub ?_
          refine t_0 qln_32 rfl (pq_ia el_217 rfl ⟨by omega, by omega⟩) ?_
          have r15 := fA_b g 217 ((fF g 33) - 1).toNat
          refine t_0 qln_33 rfl (pq_cw (n := 1048576) (by decide +kernel)) ?_
          refine t_0 qln_36 rfl (pq_rem ⟨by omega, by omega⟩ ⟨by omega, by omega⟩) ?_
          refine t_2 qln_37 rfl (w := (px_s1 lv 2 (oI ((fA g 217 ((fF g 33) - 1).toNat) % 1048576)), [])) rfl ?_
          replace l0 : px_lg (px_s1 lv 2 (oI ((fA g 217 ((fF g 33) - 1).toNat) % 1048576))) 0 = some (pvR 196) := s1_ne (by decide) (fun _ => rfl) l0
          replace l1 : px_lg (px_s1 lv 2 (oI ((fA g 217 ((fF g 33) - 1).toNat) % 1048576))) 1 = some (oI (al)) := s1_ne (by decide) (fun _ => rfl) l1
          have l2 : px_lg (px_s1 lv 2 (oI ((fA g 217 ((fF g 33) - 1).toNat) % 1048576))) 2 = some (oI ((fA g 217 ((fF g 33) - 1).toNat) % 1048576)) := s1_eq
          generalize px_s1 lv 2 (oI ((fA g 217 ((fF g 33) - 1).toNat) % 1048576)) = lv16 at l0 l1 l2 ⊢
          show t_X d 212 38 lv16 [] g P
          refine t_0 qln_38 rfl (ld_a l0) ?_
          refine t_0 qln_39 rfl (ar_36 hJ.1) ?_
          refine t_0 qln_42 rfl (ld_i l2) ?_
          refine t_0 qln_43 rfl (pq_cw (n := 1048576) (by decide +kernel)) ?_
          refine t_0 qln_46 rfl (ld_a l0) ?_
          refine t_0 qln_47 rfl (ar_36 hJ.1) ?_
          refine t_0 qln_50 rfl (ld_i l2) ?_
          refine t_0 qln_51 rfl (pq_ia el_216 rfl ⟨by omega, by omega⟩) ?_
          have r17 := fA_b g 216 ((fA g 217 ((fF g 33) - 1).toNat) % 1048576).toNat
          refine t_0 qln_52 rfl (pq_cw (n := 1048576) (by decide +kernel)) ?_
          refine t_0 qln_55 rfl (pq_div ⟨by omega, by omega⟩ ⟨by omega, by omega⟩) ?_
          refine t_0 qln_56 rfl pq_mul ?_
          refine t_0 qln_57 rfl (ld_a l0) ?_
          have r18 := fF_b g 32
          refine t_0 qln_58 rfl (pq_gf (y := 32) rfl) ?_
          refine t_0 qln_61 rfl pq_add ?_
          refine tw_a qln_62 hJ el_216 rfl w_a216 ga_216 (by decide) ⟨by omega, by omega⟩ ⟨by omega, by omega⟩ (fun g19 hJ19 a19 v19 b19 f19 => ?_)
          replace f19 := fF_1 f19
          have q19_18 := congrFun f19 18
          have q19_19 := congrFun f19 19
          have q19_32 := congrFun f19 32
          have q19_33 := congrFun f19 33
          show t_X d 212 63 lv16 [] g19 P
          refine t_0 qln_63 rfl (ld_a l0) ?_
          refine t_0 qln_64 rfl (ld_a l0) ?_
          have r20 := fF_b g19 33
          refine t_0 qln_65 rfl (pq_gf (y := 33) rfl) ?_
          refine t_0 qln_68 rfl rfl ?_
          refine t_0 qln_69 rfl pq_sub ?_
          refine tw_f qln_70 rfl hJ19 w_33 gf_33 (by decide) ⟨by omega, by omega⟩ (fun g21 hJ21 v21 f21 a21 => ?_)
          replace a21 := fA_2 a21
          have q21_18 := f21 18 (by decide)
          have q21_19 := f21 19 (by decide)
          have q21_32 := f21 32 (by decide)
          show t_X d 212 73 lv16 [] g21 P
          refine t_1 qln_73 rfl (pb_goto (pc := 73) (by decide)) ?_
          show t_X d 212 0 lv16 [] g21 P
          have e18 : fF g21 18 = fF g 18 := by omega
          have e32 : fF g21 32 = fF g 32 := by omega
          have e33 : fF g21 33 = fF g 33 - 1 := by omega
          have e217 : fA g21 217 = fA g 217 := by rw [a21, a19 217 (by decide)]
          refine ih _ _ (by omega) hJ21 ?_ (by omega) l0 l1
          unfold cG
          rw [e18, e32, e33, e217]
          exact cJ_land hs (by omega) (by rw [a21]; exact v19) (fun u hu => by rw [a21]; exact b19 u hu)
set_option maxHeartbeats 4000000 in
theorem jm_run {d : Nat} (hd : 1 ≤ d) {h0 g : pH} {a : Nat} {f0 : Nat → Int} {o : Int} (ho : o = 11 ∨ o = 12) (hJ : J_ Wu h0 g) (hs : cG a f0 0 g 1) (hp : fF g 18 < fF g 19 ∧ fF g 19 ≤ 240) {P : Option pv × pH → Prop} (hP : ∀ g1 : pH, J_ Wu h0 g1 → cG a f0 0 g1 0 → fF g1 18 = fF g 18 + 1 → fF g1 19 = fF g 19 → P (none, g1)) {lv : List (Nat × pv)} (l0 : px_lg lv 0 = some (pvR 196)) (l1 : px_lg lv 1 = some (oI o)) : t_X d 208 0 lv [] g P := by
  obtain ⟨w_18, w_20, w_21, w_31, w_32, w_33, w_a216, w_a217, z_19⟩ := Wu_f
  have hsc := cG_c hs (by decide)
  refine t_0 qjm_0 rfl (ld_a l0) ?_
  refine t_0 qjm_1 rfl (ar_37 hJ.1) ?_
  refine t_0 qjm_4 rfl (ld_a l0) ?_
  have r1 := fF_b g 33
  refine t_0 qjm_5 rfl (pq_gf (y := 33) rfl) ?_
  refine t_0 qjm_8 rfl (pq_cw (n := 1048576) (by decide +kernel)) ?_
  refine t_0 qjm_11 rfl (ld_i l1) ?_
  refine t_0 qjm_12 rfl pq_mul ?_
  refine t_0 qjm_13 rfl (ld_a l0) ?_
  have r2 := fF_b g 32
  refine t_0 qjm_14 rfl (pq_gf (y := 32) rfl) ?_
  refine t_0 qjm_17 rfl pq_add ?_
  refine tw_a qjm_18 hJ el_217 rfl w_a217 ga_217 (by decide) ⟨by omega, by omega⟩ ⟨by omega, by omega⟩ (fun g3 hJ3 a3 v3 b3 f3 => ?_)
  replace f3 := fF_1 f3
  have q3_18 := congrFun f3 18
  have q3_19 := congrFun f3 19
  have q3_32 := congrFun f3 32
  have q3_33 := congrFun f3 33
  show t_X d 208 19 lv [] g3 P
  refine t_0 qjm_19 rfl (ld_a l0) ?_
  refine t_0 qjm_20 rfl (ld_a l0) ?_
  have r4 := fF_b g3 33
  refine t_0 qjm_21 rfl (pq_gf (y := 33) rfl) ?_
  refine t_0 qjm_24 rfl rfl ?_
  refine t_0 qjm_25 rfl pq_add ?_
  refine tw_f qjm_26 rfl hJ3 w_33 gf_33 (by decide) ⟨by omega, by omega⟩ (fun g5 hJ5 v5 f5 a5 => ?_)
  replace a5 := fA_2 a5
  have q5_18 := f5 18 (by decide)
  have q5_19 := f5 19 (by decide)
  have q5_32 := f5 32 (by decide)
  show t_X d 208 29 lv [] g5 P
  refine t_0 qjm_29 rfl (ld_a l0) ?_
  refine t_0 qjm_30 rfl (ld_i l1) ?_
  refine t_0 qjm_31 rfl rfl ?_
  refine t_3 qjm_32 rfl (ar := ([pvR 196, oI (o), oI (0)], [])) (pcal_v2 rfl rfl el_196) ⟨by omega, Nat.le_of_ble_eq_true rfl, Nat.le_of_ble_eq_true rfl, rfl⟩ ?_
  refine nt_run hJ5 ⟨by omega, by omega⟩ ⟨by omega, by omega⟩ ⟨by omega, by omega⟩ (fun g6 hJ6 n6 f6 x6 y6 a6 => ?_) rfl rfl rfl
  have q6_18 := f6 18 (by decide)
  have q6_19 := f6 19 (by decide)
  have q6_33 := f6 33 (by decide)
  show t_X d 208 35 lv [] g6 P
  refine t_0 qjm_35 rfl (ld_a l0) ?_
  refine t_0 qjm_36 rfl (ld_a l0) ?_
  have r7 := fF_b g6 18
  refine t_0 qjm_37 rfl (pq_gf (y := 18) rfl) ?_
  refine t_0 qjm_40 rfl rfl ?_
  refine t_0 qjm_41 rfl pq_add ?_
  refine tw_f qjm_42 rfl hJ6 w_18 gf_18 (by decide) ⟨by omega, by omega⟩ (fun g8 hJ8 v8 f8 a8 => ?_)
  replace a8 := fA_2 a8
  have q8_19 := f8 19 (by decide)
  have q8_32 := f8 32 (by decide)
  have q8_33 := f8 33 (by decide)
  show t_X d 208 45 lv [] g8 P
  refine t_5 qjm_45 rfl rfl ?_
  refine hP _ hJ8 ?_ (by omega) (by omega)
  have e18 : fF g8 18 = fF g 18 + 1 := by omega
  have e32 : fF g8 32 = fF g 32 + 1 := by omega
  have e33 : fF g8 33 = fF g 33 + 1 := by omega
  have c32 : fF g5 32 = fF g 32 := by omega
  unfold cG
  rw [e18, e32, e33]
  refine cJ_jump hs (by omega) ho ?_ (fun u hu => ?_) ?_ (fun u hu => ?_)
  · rw [a8, ← c32]
    exact x6
  · rw [a8, y6 u (by rw [c32]; exact hu), a5, a3 216 (by decide)]
  · rw [a8, a6 217 (by decide), a5]
    exact v3
  · rw [a8, a6 217 (by decide), a5]
    exact b3 u hu
set_option maxHeartbeats 16000000 in
theorem rc_run {d : Nat} (hd : 6 ≤ d) {h0 g : pH} {a : Nat} {f0 : Nat → Int} (hJ : J_ Wu h0 g) (hs : cG a f0 0 g 0) (hp : fF g 18 ≤ fF g 19 ∧ fF g 19 ≤ 240) {P : Option pv × pH → Prop} (h1 : ∀ g1 : pH, J_ Wu h0 g1 → cG a f0 0 g1 1 → fF g 18 < fF g1 18 → fF g1 18 ≤ fF g1 19 → fF g1 19 = fF g 19 → P (some (oI 1), g1)) (h2 : ∀ g1 : pH, J_ Wu h0 g1 → P (some (oI 0), g1)) {lv : List (Nat × pv)} (l0 : px_lg lv 0 = some (pvR 196)) : t_X d 234 0 lv [] g P := by
  obtain ⟨w_18, w_20, w_21, w_31, w_32, w_33, w_a216, w_a217, z_19⟩ := Wu_f
  have hsc := cG_c hs (by decide)
  refine t_0 qrc_0 rfl (ld_a l0) ?_
  refine t_3 qrc_1 rfl (ar := ([pvR 196], [])) (pcal_v0 rfl rfl el_196) ⟨by omega, Nat.le_of_ble_eq_true rfl, Nat.le_of_ble_eq_true rfl, rfl⟩ ?_
  refine sm_run (by omega) hJ (c0 := (fF g 32).toNat) (b := (fF g 33).toNat) (by omega) (by omega) ⟨by omega, by omega, by omega⟩ (by omega) (fun j hj => ?_) (fun g1 hJ1 G1 w1 p1 u1 x1 => ?_) (fun g50001 hJ50001 => ?_) rfl
  · have hy := hs.2.2.1 j (by omega)
    exact ⟨hy.1, hy.2.1⟩
  · have S1 : cG a f0 0 g1 (0 + 1) := by
      have hw9 : fF g1 33 = fF g 33 := by omega
      unfold sG at G1
      rw [hw9] at G1
      unfold cG
      rw [hw9]
      exact cJ_sum hs (by omega) (by omega) G1
    have sc1 := cG_c S1 (by omega)
    show t_X d 234 4 lv [oI (1)] g1 P
    refine tz_ne qrc_4 (by decide) ⟨by omega, by omega⟩ (fun c2 => ?_) (fun c2 => absurd c2 (by omega))
    show t_X d 234 9 lv [] g1 P
    refine t_0 qrc_9 rfl (ld_a l0) ?_
    refine t_3 qrc_10 rfl (ar := ([pvR 196], [])) (pcal_v0 rfl rfl el_196) ⟨by omega, Nat.le_of_ble_eq_true rfl, Nat.le_of_ble_eq_true rfl, rfl⟩ ?_
    refine he_run hJ1.1 (by omega) (by omega) ?_ rfl
    have hv3 := hV_b g1
    have hn3 := hV_n g1
    show t_X d 234 13 lv [oI (hV g1)] g1 P
    refine t_0 qrc_13 rfl (pq_b (by decide)) ?_
    refine tb_ne qrc_15 (by decide) ⟨by omega, by omega⟩ ⟨by omega, by omega⟩ (fun c4 => ?_) (fun c4 => ?_)
    · show t_X d 234 23 lv [] g1 P
      refine t_0 qrc_23 rfl (ld_a l0) ?_
      refine t_3 qrc_24 rfl (ar := ([pvR 196], [])) (pcal_v0 rfl rfl el_196) ⟨by omega, Nat.le_of_ble_eq_true rfl, Nat.le_of_ble_eq_true rfl, rfl⟩ ?_
      refine he_run hJ1.1 (by omega) (by omega) ?_ rfl
      have hv5 := hV_b g1
      have hn5 := hV_n g1
      show t_X d 234 27 lv [oI (hV g1)] g1 P
      refine t_0 qrc_27 rfl (pq_b (by decide)) ?_
      refine tb_ne qrc_29 (by decide) ⟨by omega, by omega⟩ ⟨by omega, by omega⟩ (fun c6 => ?_) (fun c6 => ?_)
      · show t_X d 234 37 lv [] g1 P
        refine t_0 qrc_37 rfl (ld_a l0) ?_
        refine t_3 qrc_38 rfl (ar := ([pvR 196], [])) (pcal_v0 rfl rfl el_196) ⟨by omega, Nat.le_of_ble_eq_true rfl, Nat.le_of_ble_eq_true rfl, rfl⟩ ?_
        refine he_run hJ1.1 (by omega) (by omega) ?_ rfl
        have hv7 := hV_b g1
        have hn7 := hV_n g1
        show t_X d 234 41 lv [oI (hV g1)] g1 P
        refine t_0 qrc_41 rfl (pq_b (by decide)) ?_
        refine tb_ne qrc_43 (by decide) ⟨by omega, by omega⟩ ⟨by omega, by omega⟩ (fun c8 => ?_) (fun c8 => ?_)
        · show t_X d 234 51 lv [] g1 P
          refine t_0 qrc_51 rfl rfl ?_
          refine t_2 qrc_52 rfl (w := (px_s1 lv 1 (oI ((-1))), [])) rfl ?_
          replace l0 : px_lg (px_s1 lv 1 (oI ((-1)))) 0 = some (pvR 196) := s1_ne (by decide) (fun _ => rfl) l0
          have l1 : px_lg (px_s1 lv 1 (oI ((-1)))) 1 = some (oI ((-1))) := s1_eq
          generalize px_s1 lv 1 (oI ((-1))) = lv9 at l0 l1 ⊢
          show t_X d 234 53 lv9 [] g1 P
          refine t_0 qrc_53 rfl (ld_i l1) ?_
          refine t_0 qrc_54 rfl rfl ?_
          refine tb_ne qrc_55 (by decide) ⟨by omega, by omega⟩ ⟨by omega, by omega⟩ (fun c10 => ?_) (fun c10 => ?_)
          · show t_X d 234 68 lv9 [] g1 P
            refine t_0 qrc_68 rfl (ld_a l0) ?_
            refine t_0 qrc_69 rfl (ld_a l0) ?_
            have r11 := fF_b g1 18
            refine t_0 qrc_70 rfl (pq_gf (y := 18) rfl) ?_
            refine t_0 qrc_73 rfl rfl ?_
            refine t_0 qrc_74 rfl pq_add ?_
            refine tw_f qrc_75 rfl hJ1 w_18 gf_18 (by decide) ⟨by omega, by omega⟩ (fun g12 hJ12 v12 f12 a12 => ?_)
            replace a12 := fA_2 a12
            have q12_19 := f12 19 (by decide)
            have q12_32 := f12 32 (by decide)
            have q12_33 := f12 33 (by decide)
            show t_X d 234 78 lv9 [] g12 P
            have e18 : fF g12 18 = fF g1 18 + 1 := by omega
            have SZ : cG a f0 1 g12 1 := by
              unfold cG
              rw [e18, show fF g12 32 = fF g1 32 by omega, show fF g12 33 = fF g1 33 by omega, a12]
              exact cJ_p S1 ⟨by omega, by omega⟩ (by omega)
            have scz := cG_c SZ (by decide)
            refine t_0 qrc_78 rfl (ld_a l0) ?_
            refine t_3 qrc_79 rfl (ar := ([pvR 196], [])) (pcal_v0 rfl rfl el_196) ⟨by omega, Nat.le_of_ble_eq_true rfl, Nat.le_of_ble_eq_true rfl, rfl⟩ ?_
            refine sm_run (by omega) hJ12 (c0 := (fF g12 32).toNat) (b := (fF g12 33).toNat) (by omega) (by omega) ⟨by omega, by omega, by omega⟩ (by omega) (fun j hj => ?_) (fun g13 hJ13 G13 w13 p13 u13 x13 => ?_) (fun g50013 hJ50013 => ?_) rfl
            · have hy := SZ.2.2.1 j (by omega)
              exact ⟨hy.1, hy.2.1⟩
            · have S13 : cG a f0 1 g13 (1 + 1) := by
                have hw9 : fF g13 33 = fF g12 33 := by omega
                unfold sG at G13
                rw [hw9] at G13
                unfold cG
                rw [hw9]
                exact cJ_sum SZ (by omega) (by omega) G13
              have sc13 := cG_c S13 (by omega)
              show t_X d 234 82 lv9 [oI (1)] g13 P
              refine tz_ne qrc_82 (by decide) ⟨by omega, by omega⟩ (fun c14 => ?_) (fun c14 => absurd c14 (by omega))
              show t_X d 234 87 lv9 [] g13 P
              refine t_0 qrc_87 rfl (ld_a l0) ?_
              refine t_0 qrc_88 rfl (ld_i l1) ?_
              refine t_0 qrc_89 rfl rfl ?_
              refine t_3 qrc_90 rfl (ar := ([pvR 196, oI ((-1)), oI (0)], [])) (pcal_v2 rfl rfl el_196) ⟨by omega, Nat.le_of_ble_eq_true rfl, Nat.le_of_ble_eq_true rfl, rfl⟩ ?_
              refine nt_run hJ13 ⟨by omega, by omega⟩ ⟨by omega, by omega⟩ ⟨by omega, by omega⟩ (fun g15 hJ15 n15 f15 x15 y15 a15 => ?_) rfl rfl rfl
              have q15_18 := f15 18 (by decide)
              have q15_19 := f15 19 (by decide)
              have q15_33 := f15 33 (by decide)
              show t_X d 234 93 lv9 [] g15 P
              have SN : cG a f0 0 g15 1 := by
                unfold cG
                rw [show fF g15 18 = fF g13 18 by omega, n15, show fF g15 33 = fF g13 33 by omega, a15 217 (by decide)]
                exact cJ_note S13 (w2 := fF g13 33) (x := 1048576 * (-1) + 0) (Or.inl ⟨rfl, by omega, by omega, rfl, rfl⟩) (by omega) x15 y15
              have scn := cG_c SN (by decide)
              refine t_0 qrc_93 rfl (ld_a l0) ?_
              refine t_3 qrc_94 rfl (ar := ([pvR 196], [])) (pcal_v0 rfl rfl el_196) ⟨by omega, Nat.le_of_ble_eq_true rfl, Nat.le_of_ble_eq_true rfl, rfl⟩ ?_
              refine ep_loop (by omega) (gs := g15) (a := a) (f0 := f0) (fun g16 hJ16 S16 p16 u16 => ?_) 260 _ _ (by omega) hJ15 SN ⟨rfl, rfl⟩ rfl
              have sc16 := cG_c S16 (by decide)
              show t_X d 234 97 lv9 [] g16 P
              refine t_0 qrc_97 rfl rfl ?_
              refine t_5 qrc_98 rfl rfl ?_
              exact h1 _ hJ16 S16 (by omega) (by omega) (by omega)
            · show t_X d 234 82 lv9 [oI (0)] g50013 P
              refine tz_ne qrc_82 (by decide) ⟨by omega, by omega⟩ (fun c17 => absurd c17 (by omega)) (fun c17 => ?_)
              show t_X d 234 85 lv9 [] g50013 P
              refine t_0 qrc_85 rfl rfl ?_
              refine t_5 qrc_86 rfl rfl ?_
              exact h2 _ hJ50013
          · show t_X d 234 58 lv9 [] g1 P
            refine t_0 qrc_58 rfl (ld_a l0) ?_
            refine t_0 qrc_59 rfl rfl ?_
            refine t_0 qrc_60 rfl (ld_a l0) ?_
            have r18 := fF_b g1 18
            refine t_0 qrc_61 rfl (pq_gf (y := 18) rfl) ?_
            refine t_3 qrc_64 rfl (ar := ([pvR 196, oI (1), oI (fF g1 18)], [])) (pcal_v2 rfl rfl el_196) ⟨by omega, Nat.le_of_ble_eq_true rfl, Nat.le_of_ble_eq_true rfl, rfl⟩ ?_
            refine wr_run hJ1 w_20 (fun g19 hJ19 f19 a19 => ?_) rfl rfl rfl
            have q19_18 := f19 18 (by decide)
            have q19_19 := f19 19 (by decide)
            have q19_32 := f19 32 (by decide)
            have q19_33 := f19 33 (by decide)
            show t_X d 234 67 lv9 [oI (0)] g19 P
            refine t_5 qrc_67 rfl rfl ?_
            exact h2 _ hJ19
        · show t_X d 234 46 lv [] g1 P
          refine t_0 qrc_46 rfl (pq_b (by decide)) ?_
          refine t_1 qrc_48 rfl (pb_goto (pc := 48) (by decide)) ?_
          show t_X d 234 52 lv [oI (9)] g1 P
          refine t_2 qrc_52 rfl (w := (px_s1 lv 1 (oI (9)), [])) rfl ?_
          replace l0 : px_lg (px_s1 lv 1 (oI (9))) 0 = some (pvR 196) := s1_ne (by decide) (fun _ => rfl) l0
          have l1 : px_lg (px_s1 lv 1 (oI (9))) 1 = some (oI (9)) := s1_eq
          generalize px_s1 lv 1 (oI (9)) = lv20 at l0 l1 ⊢
          show t_X d 234 53 lv20 [] g1 P
          refine t_0 qrc_53 rfl (ld_i l1) ?_
          refine t_0 qrc_54 rfl rfl ?_
          refine tb_ne qrc_55 (by decide) ⟨by omega, by omega⟩ ⟨by omega, by omega⟩ (fun c21 => ?_) (fun c21 => ?_)
          · show t_X d 234 68 lv20 [] g1 P
            refine t_0 qrc_68 rfl (ld_a l0) ?_
            refine t_0 qrc_69 rfl (ld_a l0) ?_
            have r22 := fF_b g1 18
            refine t_0 qrc_70 rfl (pq_gf (y := 18) rfl) ?_
            refine t_0 qrc_73 rfl rfl ?_
            refine t_0 qrc_74 rfl pq_add ?_
            refine tw_f qrc_75 rfl hJ1 w_18 gf_18 (by decide) ⟨by omega, by omega⟩ (fun g23 hJ23 v23 f23 a23 => ?_)
            replace a23 := fA_2 a23
            have q23_19 := f23 19 (by decide)
            have q23_32 := f23 32 (by decide)
            have q23_33 := f23 33 (by decide)
            show t_X d 234 78 lv20 [] g23 P
            have e18 : fF g23 18 = fF g1 18 + 1 := by omega
            have SZ : cG a f0 1 g23 1 := by
              unfold cG
              rw [e18, show fF g23 32 = fF g1 32 by omega, show fF g23 33 = fF g1 33 by omega, a23]
              exact cJ_p S1 ⟨by omega, by omega⟩ (by omega)
            have scz := cG_c SZ (by decide)
            refine t_0 qrc_78 rfl (ld_a l0) ?_
            refine t_3 qrc_79 rfl (ar := ([pvR 196], [])) (pcal_v0 rfl rfl el_196) ⟨by omega, Nat.le_of_ble_eq_true rfl, Nat.le_of_ble_eq_true rfl, rfl⟩ ?_
            refine sm_run (by omega) hJ23 (c0 := (fF g23 32).toNat) (b := (fF g23 33).toNat) (by omega) (by omega) ⟨by omega, by omega, by omega⟩ (by omega) (fun j hj => ?_) (fun g24 hJ24 G24 w24 p24 u24 x24 => ?_) (fun g50024 hJ50024 => ?_) rfl
            · have hy := SZ.2.2.1 j (by omega)
              exact ⟨hy.1, hy.2.1⟩
            · have S24 : cG a f0 1 g24 (1 + 1) := by
                have hw9 : fF g24 33 = fF g23 33 := by omega
                unfold sG at G24
                rw [hw9] at G24
                unfold cG
                rw [hw9]
                exact cJ_sum SZ (by omega) (by omega) G24
              have sc24 := cG_c S24 (by omega)
              show t_X d 234 82 lv20 [oI (1)] g24 P
              refine tz_ne qrc_82 (by decide) ⟨by omega, by omega⟩ (fun c25 => ?_) (fun c25 => absurd c25 (by omega))
              show t_X d 234 87 lv20 [] g24 P
              refine t_0 qrc_87 rfl (ld_a l0) ?_
              refine t_0 qrc_88 rfl (ld_i l1) ?_
              refine t_0 qrc_89 rfl rfl ?_
              refine t_3 qrc_90 rfl (ar := ([pvR 196, oI (9), oI (0)], [])) (pcal_v2 rfl rfl el_196) ⟨by omega, Nat.le_of_ble_eq_true rfl, Nat.le_of_ble_eq_true rfl, rfl⟩ ?_
              refine nt_run hJ24 ⟨by omega, by omega⟩ ⟨by omega, by omega⟩ ⟨by omega, by omega⟩ (fun g26 hJ26 n26 f26 x26 y26 a26 => ?_) rfl rfl rfl
              have q26_18 := f26 18 (by decide)
              have q26_19 := f26 19 (by decide)
              have q26_33 := f26 33 (by decide)
              show t_X d 234 93 lv20 [] g26 P
              have SN : cG a f0 0 g26 1 := by
                unfold cG
                rw [show fF g26 18 = fF g24 18 by omega, n26, show fF g26 33 = fF g24 33 by omega, a26 217 (by decide)]
                exact cJ_note S24 (w2 := fF g24 33) (x := 1048576 * 9 + 0) (Or.inl ⟨rfl, by omega, by omega, rfl, rfl⟩) (by omega) x26 y26
              have scn := cG_c SN (by decide)
              refine t_0 qrc_93 rfl (ld_a l0) ?_
              refine t_3 qrc_94 rfl (ar := ([pvR 196], [])) (pcal_v0 rfl rfl el_196) ⟨by omega, Nat.le_of_ble_eq_true rfl, Nat.le_of_ble_eq_true rfl, rfl⟩ ?_
              refine ep_loop (by omega) (gs := g26) (a := a) (f0 := f0) (fun g27 hJ27 S27 p27 u27 => ?_) 260 _ _ (by omega) hJ26 SN ⟨rfl, rfl⟩ rfl
              have sc27 := cG_c S27 (by decide)
              show t_X d 234 97 lv20 [] g27 P
              refine t_0 qrc_97 rfl rfl ?_
              refine t_5 qrc_98 rfl rfl ?_
              exact h1 _ hJ27 S27 (by omega) (by omega) (by omega)
            · show t_X d 234 82 lv20 [oI (0)] g50024 P
              refine tz_ne qrc_82 (by decide) ⟨by omega, by omega⟩ (fun c28 => absurd c28 (by omega)) (fun c28 => ?_)
              show t_X d 234 85 lv20 [] g50024 P
              refine t_0 qrc_85 rfl rfl ?_
              refine t_5 qrc_86 rfl rfl ?_
              exact h2 _ hJ50024
          · show t_X d 234 58 lv20 [] g1 P
            refine t_0 qrc_58 rfl (ld_a l0) ?_
            refine t_0 qrc_59 rfl rfl ?_
            refine t_0 qrc_60 rfl (ld_a l0) ?_
            have r29 := fF_b g1 18
            refine t_0 qrc_61 rfl (pq_gf (y := 18) rfl) ?_
            refine t_3 qrc_64 rfl (ar := ([pvR 196, oI (1), oI (fF g1 18)], [])) (pcal_v2 rfl rfl el_196) ⟨by omega, Nat.le_of_ble_eq_true rfl, Nat.le_of_ble_eq_true rfl, rfl⟩ ?_
            refine wr_run hJ1 w_20 (fun g30 hJ30 f30 a30 => ?_) rfl rfl rfl
            have q30_18 := f30 18 (by decide)
            have q30_19 := f30 19 (by decide)
            have q30_32 := f30 32 (by decide)
            have q30_33 := f30 33 (by decide)
            show t_X d 234 67 lv20 [oI (0)] g30 P
            refine t_5 qrc_67 rfl rfl ?_
            exact h2 _ hJ30
      · show t_X d 234 32 lv [] g1 P
        refine t_0 qrc_32 rfl (pq_b (by decide)) ?_
        refine t_1 qrc_34 rfl (pb_goto (pc := 34) (by decide)) ?_
        show t_X d 234 52 lv [oI (8)] g1 P
        refine t_2 qrc_52 rfl (w := (px_s1 lv 1 (oI (8)), [])) rfl ?_
        replace l0 : px_lg (px_s1 lv 1 (oI (8))) 0 = some (pvR 196) := s1_ne (by decide) (fun _ => rfl) l0
        have l1 : px_lg (px_s1 lv 1 (oI (8))) 1 = some (oI (8)) := s1_eq
        generalize px_s1 lv 1 (oI (8)) = lv31 at l0 l1 ⊢
        show t_X d 234 53 lv31 [] g1 P
        refine t_0 qrc_53 rfl (ld_i l1) ?_
        refine t_0 qrc_54 rfl rfl ?_
        refine tb_ne qrc_55 (by decide) ⟨by omega, by omega⟩ ⟨by omega, by omega⟩ (fun c32 => ?_) (fun c32 => ?_)
        · show t_X d 234 68 lv31 [] g1 P
          refine t_0 qrc_68 rfl (ld_a l0) ?_
          refine t_0 qrc_69 rfl (ld_a l0) ?_
          have r33 := fF_b g1 18
          refine t_0 qrc_70 rfl (pq_gf (y := 18) rfl) ?_
          refine t_0 qrc_73 rfl rfl ?_
          refine t_0 qrc_74 rfl pq_add ?_
          refine tw_f qrc_75 rfl hJ1 w_18 gf_18 (by decide) ⟨by omega, by omega⟩ (fun g34 hJ34 v34 f34 a34 => ?_)
          replace a34 := fA_2 a34
          have q34_19 := f34 19 (by decide)
          have q34_32 := f34 32 (by decide)
          have q34_33 := f34 33 (by decide)
          show t_X d 234 78 lv31 [] g34 P
          have e18 : fF g34 18 = fF g1 18 + 1 := by omega
          have SZ : cG a f0 1 g34 1 := by
            unfold cG
            rw [e18, show fF g34 32 = fF g1 32 by omega, show fF g34 33 = fF g1 33 by omega, a34]
            exact cJ_p S1 ⟨by omega, by omega⟩ (by omega)
          have scz := cG_c SZ (by decide)
          refine t_0 qrc_78 rfl (ld_a l0) ?_
          refine t_3 qrc_79 rfl (ar := ([pvR 196], [])) (pcal_v0 rfl rfl el_196) ⟨by omega, Nat.le_of_ble_eq_true rfl, Nat.le_of_ble_eq_true rfl, rfl⟩ ?_
          refine sm_run (by omega) hJ34 (c0 := (fF g34 32).toNat) (b := (fF g34 33).toNat) (by omega) (by omega) ⟨by omega, by omega, by omega⟩ (by omega) (fun j hj => ?_) (fun g35 hJ35 G35 w35 p35 u35 x35 => ?_) (fun g50035 hJ50035 => ?_) rfl
          · have hy := SZ.2.2.1 j (by omega)
            exact ⟨hy.1, hy.2.1⟩
          · have S35 : cG a f0 1 g35 (1 + 1) := by
              have hw9 : fF g35 33 = fF g34 33 := by omega
              unfold sG at G35
              rw [hw9] at G35
              unfold cG
              rw [hw9]
              exact cJ_sum SZ (by omega) (by omega) G35
            have sc35 := cG_c S35 (by omega)
            show t_X d 234 82 lv31 [oI (1)] g35 P
            refine tz_ne qrc_82 (by decide) ⟨by omega, by omega⟩ (fun c36 => ?_) (fun c36 => absurd c36 (by omega))
            show t_X d 234 87 lv31 [] g35 P
            refine t_0 qrc_87 rfl (ld_a l0) ?_
            refine t_0 qrc_88 rfl (ld_i l1) ?_
            refine t_0 qrc_89 rfl rfl ?_
            refine t_3 qrc_90 rfl (ar := ([pvR 196, oI (8), oI (0)], [])) (pcal_v2 rfl rfl el_196) ⟨by omega, Nat.le_of_ble_eq_true rfl, Nat.le_of_ble_eq_true rfl, rfl⟩ ?_
            refine nt_run hJ35 ⟨by omega, by omega⟩ ⟨by omega, by omega⟩ ⟨by omega, by omega⟩ (fun g37 hJ37 n37 f37 x37 y37 a37 => ?_) rfl rfl rfl
            have q37_18 := f37 18 (by decide)
            have q37_19 := f37 19 (by decide)
            have q37_33 := f37 33 (by decide)
            show t_X d 234 93 lv31 [] g37 P
            have SN : cG a f0 0 g37 1 := by
              unfold cG
              rw [show fF g37 18 = fF g35 18 by omega, n37, show fF g37 33 = fF g35 33 by omega, a37 217 (by decide)]
              exact cJ_note S35 (w2 := fF g35 33) (x := 1048576 * 8 + 0) (Or.inl ⟨rfl, by omega, by omega, rfl, rfl⟩) (by omega) x37 y37
            have scn := cG_c SN (by decide)
            refine t_0 qrc_93 rfl (ld_a l0) ?_
            refine t_3 qrc_94 rfl (ar := ([pvR 196], [])) (pcal_v0 rfl rfl el_196) ⟨by omega, Nat.le_of_ble_eq_true rfl, Nat.le_of_ble_eq_true rfl, rfl⟩ ?_
            refine ep_loop (by omega) (gs := g37) (a := a) (f0 := f0) (fun g38 hJ38 S38 p38 u38 => ?_) 260 _ _ (by omega) hJ37 SN ⟨rfl, rfl⟩ rfl
            have sc38 := cG_c S38 (by decide)
            show t_X d 234 97 lv31 [] g38 P
            refine t_0 qrc_97 rfl rfl ?_
            refine t_5 qrc_98 rfl rfl ?_
            exact h1 _ hJ38 S38 (by omega) (by omega) (by omega)
          · show t_X d 234 82 lv31 [oI (0)] g50035 P
            refine tz_ne qrc_82 (by decide) ⟨by omega, by omega⟩ (fun c39 => absurd c39 (by omega)) (fun c39 => ?_)
            show t_X d 234 85 lv31 [] g50035 P
            refine t_0 qrc_85 rfl rfl ?_
            refine t_5 qrc_86 rfl rfl ?_
            exact h2 _ hJ50035
        · show t_X d 234 58 lv31 [] g1 P
          refine t_0 qrc_58 rfl (ld_a l0) ?_
          refine t_0 qrc_59 rfl rfl ?_
          refine t_0 qrc_60 rfl (ld_a l0) ?_
          have r40 := fF_b g1 18
          refine t_0 qrc_61 rfl (pq_gf (y := 18) rfl) ?_
          refine t_3 qrc_64 rfl (ar := ([pvR 196, oI (1), oI (fF g1 18)], [])) (pcal_v2 rfl rfl el_196) ⟨by omega, Nat.le_of_ble_eq_true rfl, Nat.le_of_ble_eq_true rfl, rfl⟩ ?_
          refine wr_run hJ1 w_20 (fun g41 hJ41 f41 a41 => ?_) rfl rfl rfl
          have q41_18 := f41 18 (by decide)
          have q41_19 := f41 19 (by decide)
          have q41_32 := f41 32 (by decide)
          have q41_33 := f41 33 (by decide)
          show t_X d 234 67 lv31 [oI (0)] g41 P
          refine t_5 qrc_67 rfl rfl ?_
          exact h2 _ hJ41
    · show t_X d 234 18 lv [] g1 P
      refine t_0 qrc_18 rfl (pq_b (by decide)) ?_
      refine t_1 qrc_20 rfl (pb_goto (pc := 20) (by decide)) ?_
      show t_X d 234 52 lv [oI (7)] g1 P
      refine t_2 qrc_52 rfl (w := (px_s1 lv 1 (oI (7)), [])) rfl ?_
      replace l0 : px_lg (px_s1 lv 1 (oI (7))) 0 = some (pvR 196) := s1_ne (by decide) (fun _ => rfl) l0
      have l1 : px_lg (px_s1 lv 1 (oI (7))) 1 = some (oI (7)) := s1_eq
      generalize px_s1 lv 1 (oI (7)) = lv42 at l0 l1 ⊢
      show t_X d 234 53 lv42 [] g1 P
      refine t_0 qrc_53 rfl (ld_i l1) ?_
      refine t_0 qrc_54 rfl rfl ?_
      refine tb_ne qrc_55 (by decide) ⟨by omega, by omega⟩ ⟨by omega, by omega⟩ (fun c43 => ?_) (fun c43 => ?_)
      · show t_X d 234 68 lv42 [] g1 P
        refine t_0 qrc_68 rfl (ld_a l0) ?_
        refine t_0 qrc_69 rfl (ld_a l0) ?_
        have r44 := fF_b g1 18
        refine t_0 qrc_70 rfl (pq_gf (y := 18) rfl) ?_
        refine t_0 qrc_73 rfl rfl ?_
        refine t_0 qrc_74 rfl pq_add ?_
        refine tw_f qrc_75 rfl hJ1 w_18 gf_18 (by decide) ⟨by omega, by omega⟩ (fun g45 hJ45 v45 f45 a45 => ?_)
        replace a45 := fA_2 a45
        have q45_19 := f45 19 (by decide)
        have q45_32 := f45 32 (by decide)
        have q45_33 := f45 33 (by decide)
        show t_X d 234 78 lv42 [] g45 P
        have e18 : fF g45 18 = fF g1 18 + 1 := by omega
        have SZ : cG a f0 1 g45 1 := by
          unfold cG
          rw [e18, show fF g45 32 = fF g1 32 by omega, show fF g45 33 = fF g1 33 by omega, a45]
          exact cJ_p S1 ⟨by omega, by omega⟩ (by omega)
        have scz := cG_c SZ (by decide)
        refine t_0 qrc_78 rfl (ld_a l0) ?_
        refine t_3 qrc_79 rfl (ar := ([pvR 196], [])) (pcal_v0 rfl rfl el_196) ⟨by omega, Nat.le_of_ble_eq_true rfl, Nat.le_of_ble_eq_true rfl, rfl⟩ ?_
        refine sm_run (by omega) hJ45 (c0 := (fF g45 32).toNat) (b := (fF g45 33).toNat) (by omega) (by omega) ⟨by omega, by omega, by omega⟩ (by omega) (fun j hj => ?_) (fun g46 hJ46 G46 w46 p46 u46 x46 => ?_) (fun g50046 hJ50046 => ?_) rfl
        · have hy := SZ.2.2.1 j (by omega)
          exact ⟨hy.1, hy.2.1⟩
        · have S46 : cG a f0 1 g46 (1 + 1) := by
            have hw9 : fF g46 33 = fF g45 33 := by omega
            unfold sG at G46
            rw [hw9] at G46
            unfold cG
            rw [hw9]
            exact cJ_sum SZ (by omega) (by omega) G46
          have sc46 := cG_c S46 (by omega)
          show t_X d 234 82 lv42 [oI (1)] g46 P
          refine tz_ne qrc_82 (by decide) ⟨by omega, by omega⟩ (fun c47 => ?_) (fun c47 => absurd c47 (by omega))
          show t_X d 234 87 lv42 [] g46 P
          refine t_0 qrc_87 rfl (ld_a l0) ?_
          refine t_0 qrc_88 rfl (ld_i l1) ?_
          refine t_0 qrc_89 rfl rfl ?_
          refine t_3 qrc_90 rfl (ar := ([pvR 196, oI (7), oI (0)], [])) (pcal_v2 rfl rfl el_196) ⟨by omega, Nat.le_of_ble_eq_true rfl, Nat.le_of_ble_eq_true rfl, rfl⟩ ?_
          refine nt_run hJ46 ⟨by omega, by omega⟩ ⟨by omega, by omega⟩ ⟨by omega, by omega⟩ (fun g48 hJ48 n48 f48 x48 y48 a48 => ?_) rfl rfl rfl
          have q48_18 := f48 18 (by decide)
          have q48_19 := f48 19 (by decide)
          have q48_33 := f48 33 (by decide)
          show t_X d 234 93 lv42 [] g48 P
          have SN : cG a f0 0 g48 1 := by
            unfold cG
            rw [show fF g48 18 = fF g46 18 by omega, n48, show fF g48 33 = fF g46 33 by omega, a48 217 (by decide)]
            exact cJ_note S46 (w2 := fF g46 33) (x := 1048576 * 7 + 0) (Or.inl ⟨rfl, by omega, by omega, rfl, rfl⟩) (by omega) x48 y48
          have scn := cG_c SN (by decide)
          refine t_0 qrc_93 rfl (ld_a l0) ?_
          refine t_3 qrc_94 rfl (ar := ([pvR 196], [])) (pcal_v0 rfl rfl el_196) ⟨by omega, Nat.le_of_ble_eq_true rfl, Nat.le_of_ble_eq_true rfl, rfl⟩ ?_
          refine ep_loop (by omega) (gs := g48) (a := a) (f0 := f0) (fun g49 hJ49 S49 p49 u49 => ?_) 260 _ _ (by omega) hJ48 SN ⟨rfl, rfl⟩ rfl
          have sc49 := cG_c S49 (by decide)
          show t_X d 234 97 lv42 [] g49 P
          refine t_0 qrc_97 rfl rfl ?_
          refine t_5 qrc_98 rfl rfl ?_
          exact h1 _ hJ49 S49 (by omega) (by omega) (by omega)
        · show t_X d 234 82 lv42 [oI (0)] g50046 P
          refine tz_ne qrc_82 (by decide) ⟨by omega, by omega⟩ (fun c50 => absurd c50 (by omega)) (fun c50 => ?_)
          show t_X d 234 85 lv42 [] g50046 P
          refine t_0 qrc_85 rfl rfl ?_
          refine t_5 qrc_86 rfl rfl ?_
          exact h2 _ hJ50046
      · show t_X d 234 58 lv42 [] g1 P
        refine t_0 qrc_58 rfl (ld_a l0) ?_
        refine t_0 qrc_59 rfl rfl ?_
        refine t_0 qrc_60 rfl (ld_a l0) ?_
        have r51 := fF_b g1 18
        refine t_0 qrc_61 rfl (pq_gf (y := 18) rfl) ?_
        refine t_3 qrc_64 rfl (ar := ([pvR 196, oI (1), oI (fF g1 18)], [])) (pcal_v2 rfl rfl el_196) ⟨by omega, Nat.le_of_ble_eq_true rfl, Nat.le_of_ble_eq_true rfl, rfl⟩ ?_
        refine wr_run hJ1 w_20 (fun g52 hJ52 f52 a52 => ?_) rfl rfl rfl
        have q52_18 := f52 18 (by decide)
        have q52_19 := f52 19 (by decide)
        have q52_32 := f52 32 (by decide)
        have q52_33 := f52 33 (by decide)
        show t_X d 234 67 lv42 [oI (0)] g52 P
        refine t_5 qrc_67 rfl rfl ?_
        exact h2 _ hJ52
  · show t_X d 234 4 lv [oI (0)] g50001 P
    refine tz_ne qrc_4 (by decide) ⟨by omega, by omega⟩ (fun c53 => absurd c53 (by omega)) (fun c53 => ?_)
    show t_X d 234 7 lv [] g50001 P
    refine t_0 qrc_7 rfl rfl ?_
    refine t_5 qrc_8 rfl rfl ?_
    exact h2 _ hJ50001
set_option maxHeartbeats 16000000 in
theorem cn_b {d : Nat} (hd : 7 ≤ d) {h0 gs : pH} (hgs : 0 ≤ fF gs 18 ∧ fF gs 19 ≤ 240) {a : Nat} {f0 : Nat → Int} {P : Option pv × pH → Prop} (h1 : ∀ g1 : pH, J_ Wu h0 g1 → (∃ D, cOK (fA g1 216) D a (fF g1 32)) → (∀ k, k < a → fA g1 216 k = f0 k) → (a : Int) ≤ fF g1 32 ∧ fF g1 32 ≤ fF g1 18 → fF gs 18 < fF g1 18 → fF g1 18 ≤ fF g1 19 → fF g1 19 = fF gs 19 → P (some (oI 1), g1)) (h2 : ∀ g1 : pH, J_ Wu h0 g1 → P (some (oI 0), g1)) {M : Nat} (hC : ∀ (g : pH) (lv : List (Nat × pv)), J_ Wu h0 g → cG a f0 0 g 0 → (fF gs 19 - fF g 18 ≤ M ∧ fF gs 18 < fF g 18 ∧ fF g 18 ≤ fF g 19 ∧ fF g 19 = fF gs 19) → px_lg lv 0 = some (pvR 196) → t_X d 235 40 lv [] g P) : ∀ (m : Nat) (g : pH) (lv : List (Nat × pv)), fF gs 19 + 1 - fF g 18 ≤ m → J_ Wu h0 g → cG a f0 0 g 1 → (fF gs 19 - fF g 18 ≤ M ∧ fF gs 18 < fF g 18 ∧ fF g 18 ≤ fF g 19 ∧ fF g 19 = fF gs 19) → px_lg lv 0 = some (pvR 196) → t_X d 235 92 lv [] g P := by
  obtain ⟨w_18, w_20, w_21, w_31, w_32, w_33, w_a216, w_a217, z_19⟩ := Wu_f
  intro m
  induction m with
  | zero =>
    intro g lv hm hJ hs hp l0
    omega
  | succ m ih =>
    intro g lv hm hJ hs hp l0
    have hsc := cG_c hs (by decide)
    refine t_0 qcn_92 rfl (ld_a l0) ?_
    refine t_3 qcn_93 rfl (ar := ([pvR 196], [])) (pcal_v0 rfl rfl el_196) ⟨by omega, Nat.le_of_ble_eq_true rfl, Nat.le_of_ble_eq_true rfl, rfl⟩ ?_
    refine he_run hJ.1 (by omega) (by omega) ?_ rfl
    have hv1 := hV_b g
    have hn1 := hV_n g
    show t_X d 235 96 lv [oI (hV g)] g P
    refine t_0 qcn_96 rfl (pq_b (by decide)) ?_
    refine tb_ne qcn_98 (by decide) ⟨by omega, by omega⟩ ⟨by omega, by omega⟩ (fun c2 => ?_) (fun c2 => ?_)
    · show t_X d 235 152 lv [] g P
      refine t_0 qcn_152 rfl (ld_a l0) ?_
      refine t_3 qcn_153 rfl (ar := ([pvR 196], [])) (pcal_v0 rfl rfl el_196) ⟨by omega, Nat.le_of_ble_eq_true rfl, Nat.le_of_ble_eq_true rfl, rfl⟩ ?_
      refine he_run hJ.1 (by omega) (by omega) ?_ rfl
      have hv3 := hV_b g
      have hn3 := hV_n g
      show t_X d 235 156 lv [oI (hV g)] g P
      refine t_0 qcn_156 rfl (pq_b (by decide)) ?_
      refine tb_eq qcn_158 (by decide) ⟨by omega, by omega⟩ ⟨by omega, by omega⟩ (fun c4 => ?_) (fun c4 => ?_)
      · show t_X d 235 180 lv [] g P
        refine t_0 qcn_180 rfl (ld_a l0) ?_
        refine t_0 qcn_181 rfl (ld_a l0) ?_
        refine t_3 qcn_182 rfl (ar := ([pvR 196], [pvR 196])) (pcal_v0 rfl rfl el_196) ⟨by omega, Nat.le_of_ble_eq_true rfl, Nat.le_of_ble_eq_true rfl, rfl⟩ ?_
        refine he_run hJ.1 (by omega) (by omega) ?_ rfl
        have hv5 := hV_b g
        have hn5 := hV_n g
        show t_X d 235 185 lv [oI (hV g), pvR 196] g P
        refine t_0 qcn_185 rfl (pq_b (by decide)) ?_
        refine tb_ne qcn_187 (by decide) ⟨by omega, by omega⟩ ⟨by omega, by omega⟩ (fun c6 => ?_) (fun c6 => ?_)
        · show t_X d 235 194 lv [pvR 196] g P
          refine t_0 qcn_194 rfl rfl ?_
          refine t_3 qcn_195 rfl (ar := ([pvR 196, oI (0)], [])) (pcal_v1 rfl rfl el_196) ⟨by omega, Nat.le_of_ble_eq_true rfl, Nat.le_of_ble_eq_true rfl, rfl⟩ ?_
          refine ln_loop (by omega) (gs := g) (a := a) (f0 := f0) (al := 0) (by omega) (fun g7 hJ7 S7 p7 u7 c7 t7 => ?_) 260 _ _ (by omega) hJ hs ⟨rfl, rfl, rfl⟩ rfl rfl
          have sc7 := cG_c S7 (by decide)
          show t_X d 235 198 lv [] g7 P
          refine t_0 qcn_198 rfl (ld_a l0) ?_
          refine t_0 qcn_199 rfl (ld_a l0) ?_
          refine t_3 qcn_200 rfl (ar := ([pvR 196], [pvR 196])) (pcal_v0 rfl rfl el_196) ⟨by omega, Nat.le_of_ble_eq_true rfl, Nat.le_of_ble_eq_true rfl, rfl⟩ ?_
          refine he_run hJ7.1 (by omega) (by omega) ?_ rfl
          have hv8 := hV_b g7
          have hn8 := hV_n g7
          show t_X d 235 203 lv [oI (hV g7), pvR 196] g7 P
          refine t_0 qcn_203 rfl (pq_b (by decide)) ?_
          refine tb_ne qcn_205 (by decide) ⟨by omega, by omega⟩ ⟨by omega, by omega⟩ (fun c9 => ?_) (fun c9 => ?_)
          · show t_X d 235 213 lv [pvR 196] g7 P
            refine t_0 qcn_213 rfl (pq_b (by decide)) ?_
            refine t_3 qcn_215 rfl (ar := ([pvR 196, oI (12)], [])) (pcal_v1 rfl rfl el_196) ⟨by omega, Nat.le_of_ble_eq_true rfl, Nat.le_of_ble_eq_true rfl, rfl⟩ ?_
            refine jm_run (by omega) (a := a) (f0 := f0) (by omega) hJ7 S7 ⟨by omega, by omega⟩ (fun g10 hJ10 S10 p10 u10 => ?_) rfl rfl
            have sc10 := cG_c S10 (by decide)
            show t_X d 235 218 lv [] g10 P
            refine t_1 qcn_218 rfl (pb_goto (pc := 218) (by decide)) ?_
            show t_X d 235 40 lv [] g10 P
            exact hC _ _ hJ10 S10 ⟨by omega, by omega, by omega, by omega⟩ l0
          · show t_X d 235 208 lv [pvR 196] g7 P
            refine t_0 qcn_208 rfl (pq_b (by decide)) ?_
            refine t_1 qcn_210 rfl (pb_goto (pc := 210) (by decide)) ?_
            show t_X d 235 215 lv [oI (11), pvR 196] g7 P
            refine t_3 qcn_215 rfl (ar := ([pvR 196, oI (11)], [])) (pcal_v1 rfl rfl el_196) ⟨by omega, Nat.le_of_ble_eq_true rfl, Nat.le_of_ble_eq_true rfl, rfl⟩ ?_
            refine jm_run (by omega) (a := a) (f0 := f0) (by omega) hJ7 S7 ⟨by omega, by omega⟩ (fun g11 hJ11 S11 p11 u11 => ?_) rfl rfl
            have sc11 := cG_c S11 (by decide)
            show t_X d 235 218 lv [] g11 P
            refine t_1 qcn_218 rfl (pb_goto (pc := 218) (by decide)) ?_
            show t_X d 235 40 lv [] g11 P
            exact hC _ _ hJ11 S11 ⟨by omega, by omega, by omega, by omega⟩ l0
        · show t_X d 235 190 lv [pvR 196] g P
          refine t_0 qcn_190 rfl rfl ?_
          refine t_1 qcn_191 rfl (pb_goto (pc := 191) (by decide)) ?_
          show t_X d 235 195 lv [oI (1), pvR 196] g P
          refine t_3 qcn_195 rfl (ar := ([pvR 196, oI (1)], [])) (pcal_v1 rfl rfl el_196) ⟨by omega, Nat.le_of_ble_eq_true rfl, Nat.le_of_ble_eq_true rfl, rfl⟩ ?_
          refine ln_loop (by omega) (gs := g) (a := a) (f0 := f0) (al := 1) (by omega) (fun g12 hJ12 S12 p12 u12 c12 t12 => ?_) 260 _ _ (by omega) hJ hs ⟨rfl, rfl, rfl⟩ rfl rfl
          have sc12 := cG_c S12 (by decide)
          show t_X d 235 198 lv [] g12 P
          refine t_0 qcn_198 rfl (ld_a l0) ?_
          refine t_0 qcn_199 rfl (ld_a l0) ?_
          refine t_3 qcn_200 rfl (ar := ([pvR 196], [pvR 196])) (pcal_v0 rfl rfl el_196) ⟨by omega, Nat.le_of_ble_eq_true rfl, Nat.le_of_ble_eq_true rfl, rfl⟩ ?_
          refine he_run hJ12.1 (by omega) (by omega) ?_ rfl
          have hv13 := hV_b g12
          have hn13 := hV_n g12
          show t_X d 235 203 lv [oI (hV g12), pvR 196] g12 P
          refine t_0 qcn_203 rfl (pq_b (by decide)) ?_
          refine tb_ne qcn_205 (by decide) ⟨by omega, by omega⟩ ⟨by omega, by omega⟩ (fun c14 => ?_) (fun c14 => ?_)
          · show t_X d 235 213 lv [pvR 196] g12 P
            refine t_0 qcn_213 rfl (pq_b (by decide)) ?_
            refine t_3 qcn_215 rfl (ar := ([pvR 196, oI (12)], [])) (pcal_v1 rfl rfl el_196) ⟨by omega, Nat.le_of_ble_eq_true rfl, Nat.le_of_ble_eq_true rfl, rfl⟩ ?_
            refine jm_run (by omega) (a := a) (f0 := f0) (by omega) hJ12 S12 ⟨by omega, by omega⟩ (fun g15 hJ15 S15 p15 u15 => ?_) rfl rfl
            have sc15 := cG_c S15 (by decide)
            show t_X d 235 218 lv [] g15 P
            refine t_1 qcn_218 rfl (pb_goto (pc := 218) (by decide)) ?_
            show t_X d 235 40 lv [] g15 P
            exact hC _ _ hJ15 S15 ⟨by omega, by omega, by omega, by omega⟩ l0
          · show t_X d 235 208 lv [pvR 196] g12 P
            refine t_0 qcn_208 rfl (pq_b (by decide)) ?_
            refine t_1 qcn_210 rfl (pb_goto (pc := 210) (by decide)) ?_
            show t_X d 235 215 lv [oI (11), pvR 196] g12 P
            refine t_3 qcn_215 rfl (ar := ([pvR 196, oI (11)], [])) (pcal_v1 rfl rfl el_196) ⟨by omega, Nat.le_of_ble_eq_true rfl, Nat.le_of_ble_eq_true rfl, rfl⟩ ?_
            refine jm_run (by omega) (a := a) (f0 := f0) (by omega) hJ12 S12 ⟨by omega, by omega⟩ (fun g16 hJ16 S16 p16 u16 => ?_) rfl rfl
            have sc16 := cG_c S16 (by decide)
            show t_X d 235 218 lv [] g16 P
            refine t_1 qcn_218 rfl (pb_goto (pc := 218) (by decide)) ?_
            show t_X d 235 40 lv [] g16 P
            exact hC _ _ hJ16 S16 ⟨by omega, by omega, by omega, by omega⟩ l0
      · show t_X d 235 161 lv [] g P
        refine t_0 qcn_161 rfl (ld_a l0) ?_
        refine t_3 qcn_162 rfl (ar := ([pvR 196], [])) (pcal_v0 rfl rfl el_196) ⟨by omega, Nat.le_of_ble_eq_true rfl, Nat.le_of_ble_eq_true rfl, rfl⟩ ?_
        refine he_run hJ.1 (by omega) (by omega) ?_ rfl
        have hv17 := hV_b g
        have hn17 := hV_n g
        show t_X d 235 165 lv [oI (hV g)] g P
        refine t_0 qcn_165 rfl (pq_b (by decide)) ?_
        refine tb_eq qcn_167 (by decide) ⟨by omega, by omega⟩ ⟨by omega, by omega⟩ (fun c18 => ?_) (fun c18 => ?_)
        · show t_X d 235 180 lv [] g P
          refine t_0 qcn_180 rfl (ld_a l0) ?_
          refine t_0 qcn_181 rfl (ld_a l0) ?_
          refine t_3 qcn_182 rfl (ar := ([pvR 196], [pvR 196])) (pcal_v0 rfl rfl el_196) ⟨by omega, Nat.le_of_ble_eq_true rfl, Nat.le_of_ble_eq_true rfl, rfl⟩ ?_
          refine he_run hJ.1 (by omega) (by omega) ?_ rfl
          have hv19 := hV_b g
          have hn19 := hV_n g
          show t_X d 235 185 lv [oI (hV g), pvR 196] g P
          refine t_0 qcn_185 rfl (pq_b (by decide)) ?_
          refine tb_ne qcn_187 (by decide) ⟨by omega, by omega⟩ ⟨by omega, by omega⟩ (fun c20 => ?_) (fun c20 => ?_)
          · show t_X d 235 194 lv [pvR 196] g P
            refine t_0 qcn_194 rfl rfl ?_
            refine t_3 qcn_195 rfl (ar := ([pvR 196, oI (0)], [])) (pcal_v1 rfl rfl el_196) ⟨by omega, Nat.le_of_ble_eq_true rfl, Nat.le_of_ble_eq_true rfl, rfl⟩ ?_
            refine ln_loop (by omega) (gs := g) (a := a) (f0 := f0) (al := 0) (by omega) (fun g21 hJ21 S21 p21 u21 c21 t21 => ?_) 260 _ _ (by omega) hJ hs ⟨rfl, rfl, rfl⟩ rfl rfl
            have sc21 := cG_c S21 (by decide)
            show t_X d 235 198 lv [] g21 P
            refine t_0 qcn_198 rfl (ld_a l0) ?_
            refine t_0 qcn_199 rfl (ld_a l0) ?_
            refine t_3 qcn_200 rfl (ar := ([pvR 196], [pvR 196])) (pcal_v0 rfl rfl el_196) ⟨by omega, Nat.le_of_ble_eq_true rfl, Nat.le_of_ble_eq_true rfl, rfl⟩ ?_
            refine he_run hJ21.1 (by omega) (by omega) ?_ rfl
            have hv22 := hV_b g21
            have hn22 := hV_n g21
            show t_X d 235 203 lv [oI (hV g21), pvR 196] g21 P
            refine t_0 qcn_203 rfl (pq_b (by decide)) ?_
            refine tb_ne qcn_205 (by decide) ⟨by omega, by omega⟩ ⟨by omega, by omega⟩ (fun c23 => ?_) (fun c23 => ?_)
            · show t_X d 235 213 lv [pvR 196] g21 P
              refine t_0 qcn_213 rfl (pq_b (by decide)) ?_
              refine t_3 qcn_215 rfl (ar := ([pvR 196, oI (12)], [])) (pcal_v1 rfl rfl el_196) ⟨by omega, Nat.le_of_ble_eq_true rfl, Nat.le_of_ble_eq_true rfl, rfl⟩ ?_
              refine jm_run (by omega) (a := a) (f0 := f0) (by omega) hJ21 S21 ⟨by omega, by omega⟩ (fun g24 hJ24 S24 p24 u24 => ?_) rfl rfl
              have sc24 := cG_c S24 (by decide)
              show t_X d 235 218 lv [] g24 P
              refine t_1 qcn_218 rfl (pb_goto (pc := 218) (by decide)) ?_
              show t_X d 235 40 lv [] g24 P
              exact hC _ _ hJ24 S24 ⟨by omega, by omega, by omega, by omega⟩ l0
            · show t_X d 235 208 lv [pvR 196] g21 P
              refine t_0 qcn_208 rfl (pq_b (by decide)) ?_
              refine t_1 qcn_210 rfl (pb_goto (pc := 210) (by decide)) ?_
              show t_X d 235 215 lv [oI (11), pvR 196] g21 P
              refine t_3 qcn_215 rfl (ar := ([pvR 196, oI (11)], [])) (pcal_v1 rfl rfl el_196) ⟨by omega, Nat.le_of_ble_eq_true rfl, Nat.le_of_ble_eq_true rfl, rfl⟩ ?_
              refine jm_run (by omega) (a := a) (f0 := f0) (by omega) hJ21 S21 ⟨by omega, by omega⟩ (fun g25 hJ25 S25 p25 u25 => ?_) rfl rfl
              have sc25 := cG_c S25 (by decide)
              show t_X d 235 218 lv [] g25 P
              refine t_1 qcn_218 rfl (pb_goto (pc := 218) (by decide)) ?_
              show t_X d 235 40 lv [] g25 P
              exact hC _ _ hJ25 S25 ⟨by omega, by omega, by omega, by omega⟩ l0
          · show t_X d 235 190 lv [pvR 196] g P
            refine t_0 qcn_190 rfl rfl ?_
            refine t_1 qcn_191 rfl (pb_goto (pc := 191) (by decide)) ?_
            show t_X d 235 195 lv [oI (1), pvR 196] g P
            refine t_3 qcn_195 rfl (ar := ([pvR 196, oI (1)], [])) (pcal_v1 rfl rfl el_196) ⟨by omega, Nat.le_of_ble_eq_true rfl, Nat.le_of_ble_eq_true rfl, rfl⟩ ?_
            refine ln_loop (by omega) (gs := g) (a := a) (f0 := f0) (al := 1) (by omega) (fun g26 hJ26 S26 p26 u26 c26 t26 => ?_) 260 _ _ (by omega) hJ hs ⟨rfl, rfl, rfl⟩ rfl rfl
            have sc26 := cG_c S26 (by decide)
            show t_X d 235 198 lv [] g26 P
            refine t_0 qcn_198 rfl (ld_a l0) ?_
            refine t_0 qcn_199 rfl (ld_a l0) ?_
            refine t_3 qcn_200 rfl (ar := ([pvR 196], [pvR 196])) (pcal_v0 rfl rfl el_196) ⟨by omega, Nat.le_of_ble_eq_true rfl, Nat.le_of_ble_eq_true rfl, rfl⟩ ?_
            refine he_run hJ26.1 (by omega) (by omega) ?_ rfl
            have hv27 := hV_b g26
            have hn27 := hV_n g26
            show t_X d 235 203 lv [oI (hV g26), pvR 196] g26 P
            refine t_0 qcn_203 rfl (pq_b (by decide)) ?_
            refine tb_ne qcn_205 (by decide) ⟨by omega, by omega⟩ ⟨by omega, by omega⟩ (fun c28 => ?_) (fun c28 => ?_)
            · show t_X d 235 213 lv [pvR 196] g26 P
              refine t_0 qcn_213 rfl (pq_b (by decide)) ?_
              refine t_3 qcn_215 rfl (ar := ([pvR 196, oI (12)], [])) (pcal_v1 rfl rfl el_196) ⟨by omega, Nat.le_of_ble_eq_true rfl, Nat.le_of_ble_eq_true rfl, rfl⟩ ?_
              refine jm_run (by omega) (a := a) (f0 := f0) (by omega) hJ26 S26 ⟨by omega, by omega⟩ (fun g29 hJ29 S29 p29 u29 => ?_) rfl rfl
              have sc29 := cG_c S29 (by decide)
              show t_X d 235 218 lv [] g29 P
              refine t_1 qcn_218 rfl (pb_goto (pc := 218) (by decide)) ?_
              show t_X d 235 40 lv [] g29 P
              exact hC _ _ hJ29 S29 ⟨by omega, by omega, by omega, by omega⟩ l0
            · show t_X d 235 208 lv [pvR 196] g26 P
              refine t_0 qcn_208 rfl (pq_b (by decide)) ?_
              refine t_1 qcn_210 rfl (pb_goto (pc := 210) (by decide)) ?_
              show t_X d 235 215 lv [oI (11), pvR 196] g26 P
              refine t_3 qcn_215 rfl (ar := ([pvR 196, oI (11)], [])) (pcal_v1 rfl rfl el_196) ⟨by omega, Nat.le_of_ble_eq_true rfl, Nat.le_of_ble_eq_true rfl, rfl⟩ ?_
              refine jm_run (by omega) (a := a) (f0 := f0) (by omega) hJ26 S26 ⟨by omega, by omega⟩ (fun g30 hJ30 S30 p30 u30 => ?_) rfl rfl
              have sc30 := cG_c S30 (by decide)
              show t_X d 235 218 lv [] g30 P
              refine t_1 qcn_218 rfl (pb_goto (pc := 218) (by decide)) ?_
              show t_X d 235 40 lv [] g30 P
              exact hC _ _ hJ30 S30 ⟨by omega, by omega, by omega, by omega⟩ l0
        · show t_X d 235 170 lv [] g P
          refine t_0 qcn_170 rfl (ld_a l0) ?_
          refine t_0 qcn_171 rfl rfl ?_
          refine t_0 qcn_172 rfl (ld_a l0) ?_
          have r31 := fF_b g 18
          refine t_0 qcn_173 rfl (pq_gf (y := 18) rfl) ?_
          refine t_3 qcn_176 rfl (ar := ([pvR 196, oI (1), oI (fF g 18)], [])) (pcal_v2 rfl rfl el_196) ⟨by omega, Nat.le_of_ble_eq_true rfl, Nat.le_of_ble_eq_true rfl, rfl⟩ ?_
          refine wr_run hJ w_20 (fun g32 hJ32 f32 a32 => ?_) rfl rfl rfl
          have q32_18 := f32 18 (by decide)
          have q32_19 := f32 19 (by decide)
          have q32_32 := f32 32 (by decide)
          have q32_33 := f32 33 (by decide)
          show t_X d 235 179 lv [oI (0)] g32 P
          refine t_5 qcn_179 rfl rfl ?_
          exact h2 _ hJ32
    · show t_X d 235 101 lv [] g P
      refine t_0 qcn_101 rfl (ld_a l0) ?_
      refine t_0 qcn_102 rfl rfl ?_
      refine t_3 qcn_103 rfl (ar := ([pvR 196, oI (1)], [])) (pcal_v1 rfl rfl el_196) ⟨by omega, Nat.le_of_ble_eq_true rfl, Nat.le_of_ble_eq_true rfl, rfl⟩ ?_
      refine ln_loop (by omega) (gs := g) (a := a) (f0 := f0) (al := 1) (by omega) (fun g33 hJ33 S33 p33 u33 c33 t33 => ?_) 260 _ _ (by omega) hJ hs ⟨rfl, rfl, rfl⟩ rfl rfl
      have sc33 := cG_c S33 (by decide)
      show t_X d 235 106 lv [] g33 P
      refine t_0 qcn_106 rfl (ld_a l0) ?_
      refine t_0 qcn_107 rfl (ld_a l0) ?_
      have r34 := fF_b g33 33
      refine t_0 qcn_108 rfl (pq_gf (y := 33) rfl) ?_
      refine t_0 qcn_111 rfl rfl ?_
      refine t_0 qcn_112 rfl pq_sub ?_
      refine tw_f qcn_113 rfl hJ33 w_33 gf_33 (by decide) ⟨by omega, by omega⟩ (fun g35 hJ35 v35 f35 a35 => ?_)
      replace a35 := fA_2 a35
      have q35_18 := f35 18 (by decide)
      have q35_19 := f35 19 (by decide)
      have q35_32 := f35 32 (by decide)
      show t_X d 235 116 lv [] g35 P
      refine t_0 qcn_116 rfl (ld_a l0) ?_
      refine t_0 qcn_117 rfl (ld_a l0) ?_
      have r36 := fF_b g35 31
      refine t_0 qcn_118 rfl (pq_gf (y := 31) rfl) ?_
      refine t_0 qcn_121 rfl rfl ?_
      refine t_0 qcn_122 rfl pq_sub ?_
      refine tw_fx qcn_123 rfl hJ35 w_31 gf_31 (fun g37 hJ37 f37 a37 => ?_)
      replace a37 := fA_2 a37
      have q37_18 := f37 18 (by decide)
      have q37_19 := f37 19 (by decide)
      have q37_32 := f37 32 (by decide)
      have q37_33 := f37 33 (by decide)
      show t_X d 235 126 lv [] g37 P
      refine t_0 qcn_126 rfl (ld_a l0) ?_
      refine t_0 qcn_127 rfl (ld_a l0) ?_
      have r38 := fF_b g37 18
      refine t_0 qcn_128 rfl (pq_gf (y := 18) rfl) ?_
      refine t_0 qcn_131 rfl rfl ?_
      refine t_0 qcn_132 rfl pq_add ?_
      refine tw_f qcn_133 rfl hJ37 w_18 gf_18 (by decide) ⟨by omega, by omega⟩ (fun g39 hJ39 v39 f39 a39 => ?_)
      replace a39 := fA_2 a39
      have q39_19 := f39 19 (by decide)
      have q39_32 := f39 32 (by decide)
      have q39_33 := f39 33 (by decide)
      show t_X d 235 136 lv [] g39 P
      refine t_0 qcn_136 rfl (ld_a l0) ?_
      have r40 := fF_b g39 33
      refine t_0 qcn_137 rfl (pq_gf (y := 33) rfl) ?_
      refine tz_ne qcn_140 (by decide) ⟨by omega, by omega⟩ (fun c41 => ?_) (fun c41 => ?_)
      · show t_X d 235 145 lv [] g39 P
        have ea : fA g39 = fA g33 := by rw [a39, a37, a35]
        have SW : cG a f0 0 g39 1 := by
          unfold cG
          rw [ea, show fF g39 32 = fF g33 32 by omega, show fF g39 33 = fF g33 33 - 1 by omega]
          exact cJ_p (cJ_pop S33 (by omega) (by omega)) ⟨by omega, by omega⟩ (by omega)
        have scw := cG_c SW (by decide)
        refine t_0 qcn_145 rfl (ld_a l0) ?_
        refine t_3 qcn_146 rfl (ar := ([pvR 196], [])) (pcal_v0 rfl rfl el_196) ⟨by omega, Nat.le_of_ble_eq_true rfl, Nat.le_of_ble_eq_true rfl, rfl⟩ ?_
        refine ep_loop (by omega) (gs := g39) (a := a) (f0 := f0) (fun g42 hJ42 S42 p42 u42 => ?_) 260 _ _ (by omega) hJ39 SW ⟨rfl, rfl⟩ rfl
        have sc42 := cG_c S42 (by decide)
        show t_X d 235 149 lv [] g42 P
        refine t_1 qcn_149 rfl (pb_goto (pc := 149) (by decide)) ?_
        show t_X d 235 92 lv [] g42 P
        exact ih _ _ (by omega) hJ42 S42 ⟨by omega, by omega, by omega, by omega⟩ l0
      · show t_X d 235 143 lv [] g39 P
        refine t_0 qcn_143 rfl rfl ?_
        refine t_5 qcn_144 rfl rfl ?_
        have ea : fA g39 = fA g33 := by rw [a39, a37, a35]
        have w1 : fF g33 33 = 1 := by omega
        have e32 : fF g39 32 = fF g33 32 := by omega
        have hc := S33
        unfold cG at hc
        rw [w1] at hc
        refine h1 _ hJ39 ?_ (fun k hk => ?_) ⟨by omega, by omega⟩ (by omega) (by omega) (by omega)
        · rw [ea, e32]
          exact cJ_fin hc (by decide)
        · rw [ea]
          exact hc.2.1 k hk
set_option maxHeartbeats 16000000 in
theorem cn_a {d : Nat} (hd : 7 ≤ d) {h0 gs : pH} (hgs : 0 ≤ fF gs 18 ∧ fF gs 19 ≤ 240) {a : Nat} {f0 : Nat → Int} {P : Option pv × pH → Prop} (h1 : ∀ g1 : pH, J_ Wu h0 g1 → (∃ D, cOK (fA g1 216) D a (fF g1 32)) → (∀ k, k < a → fA g1 216 k = f0 k) → (a : Int) ≤ fF g1 32 ∧ fF g1 32 ≤ fF g1 18 → fF gs 18 < fF g1 18 → fF g1 18 ≤ fF g1 19 → fF g1 19 = fF gs 19 → P (some (oI 1), g1)) (h2 : ∀ g1 : pH, J_ Wu h0 g1 → P (some (oI 0), g1)) : ∀ (m : Nat) (g : pH) (lv : List (Nat × pv)), J_ Wu h0 g → cG a f0 0 g 0 → (fF gs 19 - fF g 18 ≤ m ∧ fF gs 18 < fF g 18 ∧ fF g 18 ≤ fF g 19 ∧ fF g 19 = fF gs 19) → px_lg lv 0 = some (pvR 196) → t_X d 235 40 lv [] g P := by
  obtain ⟨w_18, w_20, w_21, w_31, w_32, w_33, w_a216, w_a217, z_19⟩ := Wu_f
  intro m
  induction m with
  | zero =>
    intro g lv hJ hs hp l0
    have hsc := cG_c hs (by decide)
    refine t_0 qcn_40 rfl (ld_a l0) ?_
    refine t_3 qcn_41 rfl (ar := ([pvR 196], [])) (pcal_v0 rfl rfl el_196) ⟨by omega, Nat.le_of_ble_eq_true rfl, Nat.le_of_ble_eq_true rfl, rfl⟩ ?_
    refine he_run hJ.1 (by omega) (by omega) ?_ rfl
    have hv1 := hV_b g
    have hn1 := hV_n g
    show t_X d 235 44 lv [oI (hV g)] g P
    refine t_0 qcn_44 rfl (pq_b (by decide)) ?_
    refine tb_eq qcn_46 (by decide) ⟨by omega, by omega⟩ ⟨by omega, by omega⟩ (fun c2 => ?_) (fun c2 => ?_)
    · show t_X d 235 58 lv [] g P
      exact False.elim (by omega)
    · show t_X d 235 49 lv [] g P
      refine t_0 qcn_49 rfl (ld_a l0) ?_
      refine t_3 qcn_50 rfl (ar := ([pvR 196], [])) (pcal_v0 rfl rfl el_196) ⟨by omega, Nat.le_of_ble_eq_true rfl, Nat.le_of_ble_eq_true rfl, rfl⟩ ?_
      refine he_run hJ.1 (by omega) (by omega) ?_ rfl
      have hv3 := hV_b g
      have hn3 := hV_n g
      show t_X d 235 53 lv [oI (hV g)] g P
      refine t_0 qcn_53 rfl (pq_b (by decide)) ?_
      refine tb_ne qcn_55 (by decide) ⟨by omega, by omega⟩ ⟨by omega, by omega⟩ (fun c4 => ?_) (fun c4 => ?_)
      · show t_X d 235 83 lv [] g P
        refine t_0 qcn_83 rfl (ld_a l0) ?_
        refine t_3 qcn_84 rfl (ar := ([pvR 196], [])) (pcal_v0 rfl rfl el_196) ⟨by omega, Nat.le_of_ble_eq_true rfl, Nat.le_of_ble_eq_true rfl, rfl⟩ ?_
        refine rc_run (by omega) (a := a) (f0 := f0) hJ hs ⟨by omega, by omega⟩ (fun g5 hJ5 S5 p5 u5 x5 => ?_) (fun g50005 hJ50005 => ?_) rfl
        · show t_X d 235 87 lv [oI (1)] g5 P
          refine tz_ne qcn_87 (by decide) ⟨by omega, by omega⟩ (fun c6 => ?_) (fun c6 => absurd c6 (by omega))
          show t_X d 235 92 lv [] g5 P
          exact False.elim (by omega)
        · show t_X d 235 87 lv [oI (0)] g50005 P
          refine tz_ne qcn_87 (by decide) ⟨by omega, by omega⟩ (fun c7 => absurd c7 (by omega)) (fun c7 => ?_)
          show t_X d 235 90 lv [] g50005 P
          refine t_0 qcn_90 rfl rfl ?_
          refine t_5 qcn_91 rfl rfl ?_
          exact h2 _ hJ50005
      · show t_X d 235 58 lv [] g P
        exact False.elim (by omega)
  | succ m ih =>
    intro g lv hJ hs hp l0
    have hsc := cG_c hs (by decide)
    refine t_0 qcn_40 rfl (ld_a l0) ?_
    refine t_3 qcn_41 rfl (ar := ([pvR 196], [])) (pcal_v0 rfl rfl el_196) ⟨by omega, Nat.le_of_ble_eq_true rfl, Nat.le_of_ble_eq_true rfl, rfl⟩ ?_
    refine he_run hJ.1 (by omega) (by omega) ?_ rfl
    have hv1 := hV_b g
    have hn1 := hV_n g
    show t_X d 235 44 lv [oI (hV g)] g P
    refine t_0 qcn_44 rfl (pq_b (by decide)) ?_
    refine tb_eq qcn_46 (by decide) ⟨by omega, by omega⟩ ⟨by omega, by omega⟩ (fun c2 => ?_) (fun c2 => ?_)
    · show t_X d 235 58 lv [] g P
      refine t_0 qcn_58 rfl (ld_a l0) ?_
      refine t_0 qcn_59 rfl (ld_a l0) ?_
      refine t_3 qcn_60 rfl (ar := ([pvR 196], [pvR 196])) (pcal_v0 rfl rfl el_196) ⟨by omega, Nat.le_of_ble_eq_true rfl, Nat.le_of_ble_eq_true rfl, rfl⟩ ?_
      refine he_run hJ.1 (by omega) (by omega) ?_ rfl
      have hv3 := hV_b g
      have hn3 := hV_n g
      show t_X d 235 63 lv [oI (hV g), pvR 196] g P
      refine t_0 qcn_63 rfl (pq_b (by decide)) ?_
      refine tb_ne qcn_65 (by decide) ⟨by omega, by omega⟩ ⟨by omega, by omega⟩ (fun c4 => ?_) (fun c4 => ?_)
      · show t_X d 235 73 lv [pvR 196] g P
        refine t_0 qcn_73 rfl (pq_b (by decide)) ?_
        refine t_3 qcn_75 rfl (ar := ([pvR 196, oI (13)], [])) (pcal_v1 rfl rfl el_196) ⟨by omega, Nat.le_of_ble_eq_true rfl, Nat.le_of_ble_eq_true rfl, rfl⟩ ?_
        refine op_run (by omega) hJ ⟨by omega, by omega⟩ ⟨by omega, by omega⟩ (by omega) (fun g5 p5 u5 c5 w5 v5 b5 a5 hJ5 => ?_) (fun g50005 hJ50005 => ?_) rfl rfl
        · show t_X d 235 78 lv [oI (1)] g5 P
          refine tz_ne qcn_78 (by decide) ⟨by omega, by omega⟩ (fun c6 => ?_) (fun c6 => absurd c6 (by omega))
          show t_X d 235 40 lv [] g5 P
          have SO : cG a f0 0 g5 0 := by
            unfold cG
            rw [p5, c5, w5, a5]
            exact cJ_open hs (by omega) (x := 1048576 * 13) (by omega) v5 b5
          exact ih _ _ hJ5 SO ⟨by omega, by omega, by omega, by omega⟩ l0
        · show t_X d 235 78 lv [oI (0)] g50005 P
          refine tz_ne qcn_78 (by decide) ⟨by omega, by omega⟩ (fun c7 => absurd c7 (by omega)) (fun c7 => ?_)
          show t_X d 235 81 lv [] g50005 P
          refine t_0 qcn_81 rfl rfl ?_
          refine t_5 qcn_82 rfl rfl ?_
          exact h2 _ hJ50005
      · show t_X d 235 68 lv [pvR 196] g P
        refine t_0 qcn_68 rfl (pq_b (by decide)) ?_
        refine t_1 qcn_70 rfl (pb_goto (pc := 70) (by decide)) ?_
        show t_X d 235 75 lv [oI (10), pvR 196] g P
        refine t_3 qcn_75 rfl (ar := ([pvR 196, oI (10)], [])) (pcal_v1 rfl rfl el_196) ⟨by omega, Nat.le_of_ble_eq_true rfl, Nat.le_of_ble_eq_true rfl, rfl⟩ ?_
        refine op_run (by omega) hJ ⟨by omega, by omega⟩ ⟨by omega, by omega⟩ (by omega) (fun g8 p8 u8 c8 w8 v8 b8 a8 hJ8 => ?_) (fun g50008 hJ50008 => ?_) rfl rfl
        · show t_X d 235 78 lv [oI (1)] g8 P
          refine tz_ne qcn_78 (by decide) ⟨by omega, by omega⟩ (fun c9 => ?_) (fun c9 => absurd c9 (by omega))
          show t_X d 235 40 lv [] g8 P
          have SO : cG a f0 0 g8 0 := by
            unfold cG
            rw [p8, c8, w8, a8]
            exact cJ_open hs (by omega) (x := 1048576 * 10) (by omega) v8 b8
          exact ih _ _ hJ8 SO ⟨by omega, by omega, by omega, by omega⟩ l0
        · show t_X d 235 78 lv [oI (0)] g50008 P
          refine tz_ne qcn_78 (by decide) ⟨by omega, by omega⟩ (fun c10 => absurd c10 (by omega)) (fun c10 => ?_)
          show t_X d 235 81 lv [] g50008 P
          refine t_0 qcn_81 rfl rfl ?_
          refine t_5 qcn_82 rfl rfl ?_
          exact h2 _ hJ50008
    · show t_X d 235 49 lv [] g P
      refine t_0 qcn_49 rfl (ld_a l0) ?_
      refine t_3 qcn_50 rfl (ar := ([pvR 196], [])) (pcal_v0 rfl rfl el_196) ⟨by omega, Nat.le_of_ble_eq_true rfl, Nat.le_of_ble_eq_true rfl, rfl⟩ ?_
      refine he_run hJ.1 (by omega) (by omega) ?_ rfl
      have hv11 := hV_b g
      have hn11 := hV_n g
      show t_X d 235 53 lv [oI (hV g)] g P
      refine t_0 qcn_53 rfl (pq_b (by decide)) ?_
      refine tb_ne qcn_55 (by decide) ⟨by omega, by omega⟩ ⟨by omega, by omega⟩ (fun c12 => ?_) (fun c12 => ?_)
      · show t_X d 235 83 lv [] g P
        refine t_0 qcn_83 rfl (ld_a l0) ?_
        refine t_3 qcn_84 rfl (ar := ([pvR 196], [])) (pcal_v0 rfl rfl el_196) ⟨by omega, Nat.le_of_ble_eq_true rfl, Nat.le_of_ble_eq_true rfl, rfl⟩ ?_
        refine rc_run (by omega) (a := a) (f0 := f0) hJ hs ⟨by omega, by omega⟩ (fun g13 hJ13 S13 p13 u13 x13 => ?_) (fun g50013 hJ50013 => ?_) rfl
        · have sc13 := cG_c S13 (by decide)
          show t_X d 235 87 lv [oI (1)] g13 P
          refine tz_ne qcn_87 (by decide) ⟨by omega, by omega⟩ (fun c14 => ?_) (fun c14 => absurd c14 (by omega))
          show t_X d 235 92 lv [] g13 P
          exact cn_b hd hgs h1 h2 (M := m) (fun g9 lv9 hJ9 S9 q9 u9 => ih g9 lv9 hJ9 S9 ⟨by omega, by omega, by omega, by omega⟩ u9) 241 _ _ (by omega) hJ13 S13 ⟨by omega, by omega, by omega, by omega⟩ l0
        · show t_X d 235 87 lv [oI (0)] g50013 P
          refine tz_ne qcn_87 (by decide) ⟨by omega, by omega⟩ (fun c15 => absurd c15 (by omega)) (fun c15 => ?_)
          show t_X d 235 90 lv [] g50013 P
          refine t_0 qcn_90 rfl rfl ?_
          refine t_5 qcn_91 rfl rfl ?_
          exact h2 _ hJ50013
      · show t_X d 235 58 lv [] g P
        refine t_0 qcn_58 rfl (ld_a l0) ?_
        refine t_0 qcn_59 rfl (ld_a l0) ?_
        refine t_3 qcn_60 rfl (ar := ([pvR 196], [pvR 196])) (pcal_v0 rfl rfl el_196) ⟨by omega, Nat.le_of_ble_eq_true rfl, Nat.le_of_ble_eq_true rfl, rfl⟩ ?_
        refine he_run hJ.1 (by omega) (by omega) ?_ rfl
        have hv16 := hV_b g
        have hn16 := hV_n g
        show t_X d 235 63 lv [oI (hV g), pvR 196] g P
        refine t_0 qcn_63 rfl (pq_b (by decide)) ?_
        refine tb_ne qcn_65 (by decide) ⟨by omega, by omega⟩ ⟨by omega, by omega⟩ (fun c17 => ?_) (fun c17 => ?_)
        · show t_X d 235 73 lv [pvR 196] g P
          refine t_0 qcn_73 rfl (pq_b (by decide)) ?_
          refine t_3 qcn_75 rfl (ar := ([pvR 196, oI (13)], [])) (pcal_v1 rfl rfl el_196) ⟨by omega, Nat.le_of_ble_eq_true rfl, Nat.le_of_ble_eq_true rfl, rfl⟩ ?_
          refine op_run (by omega) hJ ⟨by omega, by omega⟩ ⟨by omega, by omega⟩ (by omega) (fun g18 p18 u18 c18 w18 v18 b18 a18 hJ18 => ?_) (fun g50018 hJ50018 => ?_) rfl rfl
          · show t_X d 235 78 lv [oI (1)] g18 P
            refine tz_ne qcn_78 (by decide) ⟨by omega, by omega⟩ (fun c19 => ?_) (fun c19 => absurd c19 (by omega))
            show t_X d 235 40 lv [] g18 P
            have SO : cG a f0 0 g18 0 := by
              unfold cG
              rw [p18, c18, w18, a18]
              exact cJ_open hs (by omega) (x := 1048576 * 13) (by omega) v18 b18
            exact ih _ _ hJ18 SO ⟨by omega, by omega, by omega, by omega⟩ l0
          · show t_X d 235 78 lv [oI (0)] g50018 P
            refine tz_ne qcn_78 (by decide) ⟨by omega, by omega⟩ (fun c20 => absurd c20 (by omega)) (fun c20 => ?_)
            show t_X d 235 81 lv [] g50018 P
            refine t_0 qcn_81 rfl rfl ?_
            refine t_5 qcn_82 rfl rfl ?_
            exact h2 _ hJ50018
        · show t_X d 235 68 lv [pvR 196] g P
          refine t_0 qcn_68 rfl (pq_b (by decide)) ?_
          refine t_1 qcn_70 rfl (pb_goto (pc := 70) (by decide)) ?_
          show t_X d 235 75 lv [oI (10), pvR 196] g P
          refine t_3 qcn_75 rfl (ar := ([pvR 196, oI (10)], [])) (pcal_v1 rfl rfl el_196) ⟨by omega, Nat.le_of_ble_eq_true rfl, Nat.le_of_ble_eq_true rfl, rfl⟩ ?_
          refine op_run (by omega) hJ ⟨by omega, by omega⟩ ⟨by omega, by omega⟩ (by omega) (fun g21 p21 u21 c21 w21 v21 b21 a21 hJ21 => ?_) (fun g50021 hJ50021 => ?_) rfl rfl
          · show t_X d 235 78 lv [oI (1)] g21 P
            refine tz_ne qcn_78 (by decide) ⟨by omega, by omega⟩ (fun c22 => ?_) (fun c22 => absurd c22 (by omega))
            show t_X d 235 40 lv [] g21 P
            have SO : cG a f0 0 g21 0 := by
              unfold cG
              rw [p21, c21, w21, a21]
              exact cJ_open hs (by omega) (x := 1048576 * 10) (by omega) v21 b21
            exact ih _ _ hJ21 SO ⟨by omega, by omega, by omega, by omega⟩ l0
          · show t_X d 235 78 lv [oI (0)] g50021 P
            refine tz_ne qcn_78 (by decide) ⟨by omega, by omega⟩ (fun c23 => absurd c23 (by omega)) (fun c23 => ?_)
            show t_X d 235 81 lv [] g50021 P
            refine t_0 qcn_81 rfl rfl ?_
            refine t_5 qcn_82 rfl rfl ?_
            exact h2 _ hJ50021
set_option maxHeartbeats 8000000 in
theorem cn_run {d : Nat} (hd : 7 ≤ d) {h0 g : pH} (hJ : J_ Wu h0 g) {a : Nat} (ha : fF g 32 = (a : Int)) (hp : (a : Int) ≤ fF g 18 ∧ fF g 18 ≤ fF g 19 ∧ fF g 19 ≤ 240) {P : Option pv × pH → Prop} (h1 : ∀ g1 : pH, J_ Wu h0 g1 → (∃ D, cOK (fA g1 216) D a (fF g1 32)) → (∀ k, k < a → fA g1 216 k = fA g 216 k) → (a : Int) ≤ fF g1 32 ∧ fF g1 32 ≤ fF g1 18 → fF g 18 < fF g1 18 → fF g1 18 ≤ fF g1 19 → fF g1 19 = fF g 19 → P (some (oI 1), g1)) (h2 : ∀ g1 : pH, J_ Wu h0 g1 → P (some (oI 0), g1)) {lv : List (Nat × pv)} (l0 : px_lg lv 0 = some (pvR 196)) : t_X d 235 0 lv [] g P := by
  obtain ⟨w_18, w_20, w_21, w_31, w_32, w_33, w_a216, w_a217, z_19⟩ := Wu_f
  refine t_0 qcn_0 rfl (ld_a l0) ?_
  refine t_3 qcn_1 rfl (ar := ([pvR 196], [])) (pcal_v0 rfl rfl el_196) ⟨by omega, Nat.le_of_ble_eq_true rfl, Nat.le_of_ble_eq_true rfl, rfl⟩ ?_
  refine he_run hJ.1 (by omega) (by omega) ?_ rfl
  have hv1 := hV_b g
  have hn1 := hV_n g
  show t_X d 235 4 lv [oI (hV g)] g P
  refine t_0 qcn_4 rfl (pq_b (by decide)) ?_
  refine tb_eq qcn_6 (by decide) ⟨by omega, by omega⟩ ⟨by omega, by omega⟩ (fun c2 => ?_) (fun c2 => ?_)
  · show t_X d 235 19 lv [] g P
    refine t_0 qcn_19 rfl (ld_a l0) ?_
    refine t_0 qcn_20 rfl rfl ?_
    refine tw_f qcn_21 rfl hJ w_31 gf_31 (by decide) ⟨by omega, by omega⟩ (fun g3 hJ3 v3 f3 a3 => ?_)
    replace a3 := fA_2 a3
    have q3_18 := f3 18 (by decide)
    have q3_19 := f3 19 (by decide)
    have q3_32 := f3 32 (by decide)
    have q3_33 := f3 33 (by decide)
    show t_X d 235 24 lv [] g3 P
    refine t_0 qcn_24 rfl (ld_a l0) ?_
    refine t_0 qcn_25 rfl rfl ?_
    refine tw_f qcn_26 rfl hJ3 w_33 gf_33 (by decide) ⟨by omega, by omega⟩ (fun g4 hJ4 v4 f4 a4 => ?_)
    replace a4 := fA_2 a4
    have q4_18 := f4 18 (by decide)
    have q4_19 := f4 19 (by decide)
    have q4_32 := f4 32 (by decide)
    show t_X d 235 29 lv [] g4 P
    refine t_0 qcn_29 rfl (ld_a l0) ?_
    refine t_0 qcn_30 rfl (pq_b (by decide)) ?_
    refine t_3 qcn_32 rfl (ar := ([pvR 196, oI (13)], [])) (pcal_v1 rfl rfl el_196) ⟨by omega, Nat.le_of_ble_eq_true rfl, Nat.le_of_ble_eq_true rfl, rfl⟩ ?_
    refine op_run (by omega) hJ4 ⟨by omega, by omega⟩ ⟨by omega, by omega⟩ (by omega) (fun g5 p5 u5 c5 w5 v5 b5 a5 hJ5 => ?_) (fun g50005 hJ50005 => ?_) rfl rfl
    · show t_X d 235 35 lv [oI (1)] g5 P
      refine tz_ne qcn_35 (by decide) ⟨by omega, by omega⟩ (fun c6 => ?_) (fun c6 => absurd c6 (by omega))
      show t_X d 235 40 lv [] g5 P
      have hv0 : 0 ≤ fA g5 217 0 ∧ fA g5 217 0 / 1048576 = 13 := by
        have hh := v5
        rw [show (fF g4 33).toNat = 0 by omega] at hh
        omega
      have SS : cG a (fA g 216) 0 g5 0 := by
        have e216 : fA g 216 = fA g5 216 := by rw [a5, a4, a3]
        unfold cG
        rw [show fF g5 33 = 1 by omega, show fF g5 32 = (a : Int) by omega, e216]
        exact cJ_st ⟨by omega, by omega⟩ (by omega) hv0
      exact cn_a hd (gs := g) ⟨by omega, by omega⟩ h1 h2 240 _ _ hJ5 SS ⟨by omega, by omega, by omega, by omega⟩ l0
    · show t_X d 235 35 lv [oI (0)] g50005 P
      refine tz_ne qcn_35 (by decide) ⟨by omega, by omega⟩ (fun c7 => absurd c7 (by omega)) (fun c7 => ?_)
      show t_X d 235 38 lv [] g50005 P
      refine t_0 qcn_38 rfl rfl ?_
      refine t_5 qcn_39 rfl rfl ?_
      exact h2 _ hJ50005
  · show t_X d 235 9 lv [] g P
    refine t_0 qcn_9 rfl (ld_a l0) ?_
    refine t_0 qcn_10 rfl rfl ?_
    refine t_0 qcn_11 rfl (ld_a l0) ?_
    have r8 := fF_b g 18
    refine t_0 qcn_12 rfl (pq_gf (y := 18) rfl) ?_
    refine t_3 qcn_15 rfl (ar := ([pvR 196, oI (1), oI (fF g 18)], [])) (pcal_v2 rfl rfl el_196) ⟨by omega, Nat.le_of_ble_eq_true rfl, Nat.le_of_ble_eq_true rfl, rfl⟩ ?_
    refine wr_run hJ w_20 (fun g9 hJ9 f9 a9 => ?_) rfl rfl rfl
    have q9_18 := f9 18 (by decide)
    have q9_19 := f9 19 (by decide)
    have q9_32 := f9 32 (by decide)
    have q9_33 := f9 33 (by decide)
    show t_X d 235 18 lv [oI (0)] g9 P
    refine t_5 qcn_18 rfl rfl ?_
    exact h2 _ hJ9
