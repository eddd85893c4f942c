section
/-! by hand: the law's reader, conditions (printed in part by wip/e2/lc.py) -/
theorem qcn_0 : xe_look (xc 235) 0 = some (.aload_n 0, 1, 0, 0, 0) := by decide +kernel
theorem qcn_1 : xe_look (xc 235) 1 = some (.invokevirtual 252, 3, 0, 198, 1137) := by decide +kernel
theorem qcn_4 : xe_look (xc 235) 4 = some (.bipush 40, 2, 0, 0, 0) := by decide +kernel
theorem qcn_6 : xe_look (xc 235) 6 = some (.if_icmp .eq 13, 3, 0, 0, 0) := by decide +kernel
theorem qcn_9 : xe_look (xc 235) 9 = some (.aload_n 0, 1, 0, 0, 0) := by decide +kernel
theorem qcn_10 : xe_look (xc 235) 10 = some (.iconst 1, 1, 0, 0, 0) := by decide +kernel
theorem qcn_11 : xe_look (xc 235) 11 = some (.aload_n 0, 1, 0, 0, 0) := by decide +kernel
theorem qcn_12 : xe_look (xc 235) 12 = some (.getfield 242, 3, 12, 18, 1135) := by decide +kernel
theorem qcn_15 : xe_look (xc 235) 15 = some (.invokevirtual 256, 3, 0, 274, 1138) := by decide +kernel
theorem qcn_18 : xe_look (xc 235) 18 = some (.ireturn, 1, 0, 0, 0) := by decide +kernel
theorem qcn_19 : xe_look (xc 235) 19 = some (.aload_n 0, 1, 0, 0, 0) := by decide +kernel
theorem qcn_20 : xe_look (xc 235) 20 = some (.iconst 0, 1, 0, 0, 0) := by decide +kernel
theorem qcn_21 : xe_look (xc 235) 21 = some (.putfield 300, 3, 12, 31, 1170) := by decide +kernel
theorem qcn_24 : xe_look (xc 235) 24 = some (.aload_n 0, 1, 0, 0, 0) := by decide +kernel
theorem qcn_25 : xe_look (xc 235) 25 = some (.iconst 0, 1, 0, 0, 0) := by decide +kernel
theorem qcn_26 : xe_look (xc 235) 26 = some (.putfield 303, 3, 12, 33, 1146) := by decide +kernel
theorem qcn_29 : xe_look (xc 235) 29 = some (.aload_n 0, 1, 0, 0, 0) := by decide +kernel
theorem qcn_30 : xe_look (xc 235) 30 = some (.bipush 13, 2, 0, 0, 0) := by decide +kernel
theorem qcn_32 : xe_look (xc 235) 32 = some (.invokevirtual 313, 3, 0, 229, 1258) := by decide +kernel
theorem qcn_35 : xe_look (xc 235) 35 = some (.ifCond .ne 5, 3, 0, 0, 0) := by decide +kernel
theorem qcn_38 : xe_look (xc 235) 38 = some (.iconst 0, 1, 0, 0, 0) := by decide +kernel
theorem qcn_39 : xe_look (xc 235) 39 = some (.ireturn, 1, 0, 0, 0) := by decide +kernel
theorem qcn_40 : xe_look (xc 235) 40 = some (.aload_n 0, 1, 0, 0, 0) := by decide +kernel
theorem qcn_41 : xe_look (xc 235) 41 = some (.invokevirtual 252, 3, 0, 198, 1137) := by decide +kernel
theorem qcn_44 : xe_look (xc 235) 44 = some (.bipush 33, 2, 0, 0, 0) := by decide +kernel
theorem qcn_46 : xe_look (xc 235) 46 = some (.if_icmp .eq 12, 3, 0, 0, 0) := by decide +kernel
theorem qcn_49 : xe_look (xc 235) 49 = some (.aload_n 0, 1, 0, 0, 0) := by decide +kernel
theorem qcn_50 : xe_look (xc 235) 50 = some (.invokevirtual 252, 3, 0, 198, 1137) := by decide +kernel
theorem qcn_53 : xe_look (xc 235) 53 = some (.bipush 40, 2, 0, 0, 0) := by decide +kernel
theorem qcn_55 : xe_look (xc 235) 55 = some (.if_icmp .ne 28, 3, 0, 0, 0) := by decide +kernel
theorem qcn_58 : xe_look (xc 235) 58 = some (.aload_n 0, 1, 0, 0, 0) := by decide +kernel
theorem qcn_59 : xe_look (xc 235) 59 = some (.aload_n 0, 1, 0, 0, 0) := by decide +kernel
theorem qcn_60 : xe_look (xc 235) 60 = some (.invokevirtual 252, 3, 0, 198, 1137) := by decide +kernel
theorem qcn_63 : xe_look (xc 235) 63 = some (.bipush 33, 2, 0, 0, 0) := by decide +kernel
theorem qcn_65 : xe_look (xc 235) 65 = some (.if_icmp .ne 8, 3, 0, 0, 0) := by decide +kernel
theorem qcn_68 : xe_look (xc 235) 68 = some (.bipush 10, 2, 0, 0, 0) := by decide +kernel
theorem qcn_70 : xe_look (xc 235) 70 = some (.goto 5, 3, 0, 0, 0) := by decide +kernel
theorem qcn_73 : xe_look (xc 235) 73 = some (.bipush 13, 2, 0, 0, 0) := by decide +kernel
theorem qcn_75 : xe_look (xc 235) 75 = some (.invokevirtual 313, 3, 0, 229, 1258) := by decide +kernel
theorem qcn_78 : xe_look (xc 235) 78 = some (.ifCond .ne (-38), 3, 0, 0, 0) := by decide +kernel
theorem qcn_81 : xe_look (xc 235) 81 = some (.iconst 0, 1, 0, 0, 0) := by decide +kernel
theorem qcn_82 : xe_look (xc 235) 82 = some (.ireturn, 1, 0, 0, 0) := by decide +kernel
theorem qcn_83 : xe_look (xc 235) 83 = some (.aload_n 0, 1, 0, 0, 0) := by decide +kernel
theorem qcn_84 : xe_look (xc 235) 84 = some (.invokevirtual 341, 3, 0, 234, 1259) := by decide +kernel
theorem qcn_87 : xe_look (xc 235) 87 = some (.ifCond .ne 5, 3, 0, 0, 0) := by decide +kernel
theorem qcn_90 : xe_look (xc 235) 90 = some (.iconst 0, 1, 0, 0, 0) := by decide +kernel
theorem qcn_91 : xe_look (xc 235) 91 = some (.ireturn, 1, 0, 0, 0) := by decide +kernel
theorem qcn_92 : xe_look (xc 235) 92 = some (.aload_n 0, 1, 0, 0, 0) := by decide +kernel
theorem qcn_93 : xe_look (xc 235) 93 = some (.invokevirtual 252, 3, 0, 198, 1137) := by decide +kernel
theorem qcn_96 : xe_look (xc 235) 96 = some (.bipush 41, 2, 0, 0, 0) := by decide +kernel
theorem qcn_98 : xe_look (xc 235) 98 = some (.if_icmp .ne 54, 3, 0, 0, 0) := by decide +kernel
theorem qcn_101 : xe_look (xc 235) 101 = some (.aload_n 0, 1, 0, 0, 0) := by decide +kernel
theorem qcn_102 : xe_look (xc 235) 102 = some (.iconst 1, 1, 0, 0, 0) := by decide +kernel
theorem qcn_103 : xe_look (xc 235) 103 = some (.invokevirtual 344, 3, 0, 212, 1260) := by decide +kernel
theorem qcn_106 : xe_look (xc 235) 106 = some (.aload_n 0, 1, 0, 0, 0) := by decide +kernel
theorem qcn_107 : xe_look (xc 235) 107 = some (.aload_n 0, 1, 0, 0, 0) := by decide +kernel
theorem qcn_108 : xe_look (xc 235) 108 = some (.getfield 303, 3, 12, 33, 1146) := by decide +kernel
theorem qcn_111 : xe_look (xc 235) 111 = some (.iconst 1, 1, 0, 0, 0) := by decide +kernel
theorem qcn_112 : xe_look (xc 235) 112 = some (.isub, 1, 0, 0, 0) := by decide +kernel
theorem qcn_113 : xe_look (xc 235) 113 = some (.putfield 303, 3, 12, 33, 1146) := by decide +kernel
theorem qcn_116 : xe_look (xc 235) 116 = some (.aload_n 0, 1, 0, 0, 0) := by decide +kernel
theorem qcn_117 : xe_look (xc 235) 117 = some (.aload_n 0, 1, 0, 0, 0) := by decide +kernel
theorem qcn_118 : xe_look (xc 235) 118 = some (.getfield 300, 3, 12, 31, 1170) := by decide +kernel
theorem qcn_121 : xe_look (xc 235) 121 = some (.iconst 1, 1, 0, 0, 0) := by decide +kernel
theorem qcn_122 : xe_look (xc 235) 122 = some (.isub, 1, 0, 0, 0) := by decide +kernel
theorem qcn_123 : xe_look (xc 235) 123 = some (.putfield 300, 3, 12, 31, 1170) := by decide +kernel
theorem qcn_126 : xe_look (xc 235) 126 = some (.aload_n 0, 1, 0, 0, 0) := by decide +kernel
theorem qcn_127 : xe_look (xc 235) 127 = some (.aload_n 0, 1, 0, 0, 0) := by decide +kernel
theorem qcn_128 : xe_look (xc 235) 128 = some (.getfield 242, 3, 12, 18, 1135) := by decide +kernel
theorem qcn_131 : xe_look (xc 235) 131 = some (.iconst 1, 1, 0, 0, 0) := by decide +kernel
theorem qcn_132 : xe_look (xc 235) 132 = some (.iadd, 1, 0, 0, 0) := by decide +kernel
theorem qcn_133 : xe_look (xc 235) 133 = some (.putfield 242, 3, 12, 18, 1135) := by decide +kernel
theorem qcn_136 : xe_look (xc 235) 136 = some (.aload_n 0, 1, 0, 0, 0) := by decide +kernel
theorem qcn_137 : xe_look (xc 235) 137 = some (.getfield 303, 3, 12, 33, 1146) := by decide +kernel
theorem qcn_140 : xe_look (xc 235) 140 = some (.ifCond .ne 5, 3, 0, 0, 0) := by decide +kernel
theorem qcn_143 : xe_look (xc 235) 143 = some (.iconst 1, 1, 0, 0, 0) := by decide +kernel
theorem qcn_144 : xe_look (xc 235) 144 = some (.ireturn, 1, 0, 0, 0) := by decide +kernel
theorem qcn_145 : xe_look (xc 235) 145 = some (.aload_n 0, 1, 0, 0, 0) := by decide +kernel
theorem qcn_146 : xe_look (xc 235) 146 = some (.invokevirtual 338, 3, 0, 186, 1257) := by decide +kernel
theorem qcn_149 : xe_look (xc 235) 149 = some (.goto (-57), 3, 0, 0, 0) := by decide +kernel
theorem qcn_152 : xe_look (xc 235) 152 = some (.aload_n 0, 1, 0, 0, 0) := by decide +kernel
theorem qcn_153 : xe_look (xc 235) 153 = some (.invokevirtual 252, 3, 0, 198, 1137) := by decide +kernel
theorem qcn_156 : xe_look (xc 235) 156 = some (.bipush 38, 2, 0, 0, 0) := by decide +kernel
theorem qcn_158 : xe_look (xc 235) 158 = some (.if_icmp .eq 22, 3, 0, 0, 0) := by decide +kernel
theorem qcn_161 : xe_look (xc 235) 161 = some (.aload_n 0, 1, 0, 0, 0) := by decide +kernel
theorem qcn_162 : xe_look (xc 235) 162 = some (.invokevirtual 252, 3, 0, 198, 1137) := by decide +kernel
theorem qcn_165 : xe_look (xc 235) 165 = some (.bipush 124, 2, 0, 0, 0) := by decide +kernel
theorem qcn_167 : xe_look (xc 235) 167 = some (.if_icmp .eq 13, 3, 0, 0, 0) := by decide +kernel
theorem qcn_170 : xe_look (xc 235) 170 = some (.aload_n 0, 1, 0, 0, 0) := by decide +kernel
theorem qcn_171 : xe_look (xc 235) 171 = some (.iconst 1, 1, 0, 0, 0) := by decide +kernel
theorem qcn_172 : xe_look (xc 235) 172 = some (.aload_n 0, 1, 0, 0, 0) := by decide +kernel
theorem qcn_173 : xe_look (xc 235) 173 = some (.getfield 242, 3, 12, 18, 1135) := by decide +kernel
theorem qcn_176 : xe_look (xc 235) 176 = some (.invokevirtual 256, 3, 0, 274, 1138) := by decide +kernel
theorem qcn_179 : xe_look (xc 235) 179 = some (.ireturn, 1, 0, 0, 0) := by decide +kernel
theorem qcn_180 : xe_look (xc 235) 180 = some (.aload_n 0, 1, 0, 0, 0) := by decide +kernel
theorem qcn_181 : xe_look (xc 235) 181 = some (.aload_n 0, 1, 0, 0, 0) := by decide +kernel
theorem qcn_182 : xe_look (xc 235) 182 = some (.invokevirtual 252, 3, 0, 198, 1137) := by decide +kernel
theorem qcn_185 : xe_look (xc 235) 185 = some (.bipush 124, 2, 0, 0, 0) := by decide +kernel
theorem qcn_187 : xe_look (xc 235) 187 = some (.if_icmp .ne 7, 3, 0, 0, 0) := by decide +kernel
theorem qcn_190 : xe_look (xc 235) 190 = some (.iconst 1, 1, 0, 0, 0) := by decide +kernel
theorem qcn_191 : xe_look (xc 235) 191 = some (.goto 4, 3, 0, 0, 0) := by decide +kernel
theorem qcn_194 : xe_look (xc 235) 194 = some (.iconst 0, 1, 0, 0, 0) := by decide +kernel
theorem qcn_195 : xe_look (xc 235) 195 = some (.invokevirtual 344, 3, 0, 212, 1260) := by decide +kernel
theorem qcn_198 : xe_look (xc 235) 198 = some (.aload_n 0, 1, 0, 0, 0) := by decide +kernel
theorem qcn_199 : xe_look (xc 235) 199 = some (.aload_n 0, 1, 0, 0, 0) := by decide +kernel
theorem qcn_200 : xe_look (xc 235) 200 = some (.invokevirtual 252, 3, 0, 198, 1137) := by decide +kernel
theorem qcn_203 : xe_look (xc 235) 203 = some (.bipush 38, 2, 0, 0, 0) := by decide +kernel
theorem qcn_205 : xe_look (xc 235) 205 = some (.if_icmp .ne 8, 3, 0, 0, 0) := by decide +kernel
theorem qcn_208 : xe_look (xc 235) 208 = some (.bipush 11, 2, 0, 0, 0) := by decide +kernel
theorem qcn_210 : xe_look (xc 235) 210 = some (.goto 5, 3, 0, 0, 0) := by decide +kernel
theorem qcn_213 : xe_look (xc 235) 213 = some (.bipush 12, 2, 0, 0, 0) := by decide +kernel
theorem qcn_215 : xe_look (xc 235) 215 = some (.invokevirtual 347, 3, 0, 208, 1261) := by decide +kernel
theorem qcn_218 : xe_look (xc 235) 218 = some (.goto (-178), 3, 0, 0, 0) := by decide +kernel
theorem qep_0 : xe_look (xc 186) 0 = some (.aload_n 0, 1, 0, 0, 0) := by decide +kernel
theorem qep_1 : xe_look (xc 186) 1 = some (.invokevirtual 306, 3, 0, 272, 1144) := by decide +kernel
theorem qep_4 : xe_look (xc 186) 4 = some (.bipush 10, 2, 0, 0, 0) := by decide +kernel
theorem qep_6 : xe_look (xc 186) 6 = some (.if_icmp .ne 33, 3, 0, 0, 0) := by decide +kernel
theorem qep_9 : xe_look (xc 186) 9 = some (.aload_n 0, 1, 0, 0, 0) := by decide +kernel
theorem qep_10 : xe_look (xc 186) 10 = some (.bipush 10, 2, 0, 0, 0) := by decide +kernel
theorem qep_12 : xe_look (xc 186) 12 = some (.iconst 0, 1, 0, 0, 0) := by decide +kernel
theorem qep_13 : xe_look (xc 186) 13 = some (.invokevirtual 309, 3, 0, 223, 1145) := by decide +kernel
theorem qep_16 : xe_look (xc 186) 16 = some (.aload_n 0, 1, 0, 0, 0) := by decide +kernel
theorem qep_17 : xe_look (xc 186) 17 = some (.aload_n 0, 1, 0, 0, 0) := by decide +kernel
theorem qep_18 : xe_look (xc 186) 18 = some (.getfield 303, 3, 12, 33, 1146) := by decide +kernel
theorem qep_21 : xe_look (xc 186) 21 = some (.iconst 1, 1, 0, 0, 0) := by decide +kernel
theorem qep_22 : xe_look (xc 186) 22 = some (.isub, 1, 0, 0, 0) := by decide +kernel
theorem qep_23 : xe_look (xc 186) 23 = some (.putfield 303, 3, 12, 33, 1146) := by decide +kernel
theorem qep_26 : xe_look (xc 186) 26 = some (.aload_n 0, 1, 0, 0, 0) := by decide +kernel
theorem qep_27 : xe_look (xc 186) 27 = some (.aload_n 0, 1, 0, 0, 0) := by decide +kernel
theorem qep_28 : xe_look (xc 186) 28 = some (.getfield 300, 3, 12, 31, 1170) := by decide +kernel
theorem qep_31 : xe_look (xc 186) 31 = some (.iconst 1, 1, 0, 0, 0) := by decide +kernel
theorem qep_32 : xe_look (xc 186) 32 = some (.isub, 1, 0, 0, 0) := by decide +kernel
theorem qep_33 : xe_look (xc 186) 33 = some (.putfield 300, 3, 12, 31, 1170) := by decide +kernel
theorem qep_36 : xe_look (xc 186) 36 = some (.goto (-36), 3, 0, 0, 0) := by decide +kernel
theorem qep_39 : xe_look (xc 186) 39 = some (.return_, 1, 0, 0, 0) := by decide +kernel
theorem qjm_0 : xe_look (xc 208) 0 = some (.aload_n 0, 1, 0, 0, 0) := by decide +kernel
theorem qjm_1 : xe_look (xc 208) 1 = some (.getfield 71, 3, 12, 37, 1189) := by decide +kernel
theorem qjm_4 : xe_look (xc 208) 4 = some (.aload_n 0, 1, 0, 0, 0) := by decide +kernel
theorem qjm_5 : xe_look (xc 208) 5 = some (.getfield 303, 3, 12, 33, 1146) := by decide +kernel
theorem qjm_8 : xe_look (xc 208) 8 = some (.ldc_w 299, 3, 0, 2148532224, 1151) := by decide +kernel
theorem qjm_11 : xe_look (xc 208) 11 = some (.iload_n 1, 1, 0, 0, 0) := by decide +kernel
theorem qjm_12 : xe_look (xc 208) 12 = some (.imul, 1, 0, 0, 0) := by decide +kernel
theorem qjm_13 : xe_look (xc 208) 13 = some (.aload_n 0, 1, 0, 0, 0) := by decide +kernel
theorem qjm_14 : xe_look (xc 208) 14 = some (.getfield 296, 3, 12, 32, 1222) := by decide +kernel
theorem qjm_17 : xe_look (xc 208) 17 = some (.iadd, 1, 0, 0, 0) := by decide +kernel
theorem qjm_18 : xe_look (xc 208) 18 = some (.iastore, 1, 0, 0, 0) := by decide +kernel
theorem qjm_19 : xe_look (xc 208) 19 = some (.aload_n 0, 1, 0, 0, 0) := by decide +kernel
theorem qjm_20 : xe_look (xc 208) 20 = some (.aload_n 0, 1, 0, 0, 0) := by decide +kernel
theorem qjm_21 : xe_look (xc 208) 21 = some (.getfield 303, 3, 12, 33, 1146) := by decide +kernel
theorem qjm_24 : xe_look (xc 208) 24 = some (.iconst 1, 1, 0, 0, 0) := by decide +kernel
theorem qjm_25 : xe_look (xc 208) 25 = some (.iadd, 1, 0, 0, 0) := by decide +kernel
theorem qjm_26 : xe_look (xc 208) 26 = some (.putfield 303, 3, 12, 33, 1146) := by decide +kernel
theorem qjm_29 : xe_look (xc 208) 29 = some (.aload_n 0, 1, 0, 0, 0) := by decide +kernel
theorem qjm_30 : xe_look (xc 208) 30 = some (.iload_n 1, 1, 0, 0, 0) := by decide +kernel
theorem qjm_31 : xe_look (xc 208) 31 = some (.iconst 0, 1, 0, 0, 0) := by decide +kernel
theorem qjm_32 : xe_look (xc 208) 32 = some (.invokevirtual 309, 3, 0, 223, 1145) := by decide +kernel
theorem qjm_35 : xe_look (xc 208) 35 = some (.aload_n 0, 1, 0, 0, 0) := by decide +kernel
theorem qjm_36 : xe_look (xc 208) 36 = some (.aload_n 0, 1, 0, 0, 0) := by decide +kernel
theorem qjm_37 : xe_look (xc 208) 37 = some (.getfield 242, 3, 12, 18, 1135) := by decide +kernel
theorem qjm_40 : xe_look (xc 208) 40 = some (.iconst 1, 1, 0, 0, 0) := by decide +kernel
theorem qjm_41 : xe_look (xc 208) 41 = some (.iadd, 1, 0, 0, 0) := by decide +kernel
theorem qjm_42 : xe_look (xc 208) 42 = some (.putfield 242, 3, 12, 18, 1135) := by decide +kernel
theorem qjm_45 : xe_look (xc 208) 45 = some (.return_, 1, 0, 0, 0) := by decide +kernel
theorem qln_0 : xe_look (xc 212) 0 = some (.aload_n 0, 1, 0, 0, 0) := by decide +kernel
theorem qln_1 : xe_look (xc 212) 1 = some (.invokevirtual 306, 3, 0, 272, 1144) := by decide +kernel
theorem qln_4 : xe_look (xc 212) 4 = some (.bipush 11, 2, 0, 0, 0) := by decide +kernel
theorem qln_6 : xe_look (xc 212) 6 = some (.if_icmp .eq 16, 3, 0, 0, 0) := by decide +kernel
theorem qln_9 : xe_look (xc 212) 9 = some (.iload_n 1, 1, 0, 0, 0) := by decide +kernel
theorem qln_10 : xe_look (xc 212) 10 = some (.ifCond .eq 66, 3, 0, 0, 0) := by decide +kernel
theorem qln_13 : xe_look (xc 212) 13 = some (.aload_n 0, 1, 0, 0, 0) := by decide +kernel
theorem qln_14 : xe_look (xc 212) 14 = some (.invokevirtual 306, 3, 0, 272, 1144) := by decide +kernel
theorem qln_17 : xe_look (xc 212) 17 = some (.bipush 12, 2, 0, 0, 0) := by decide +kernel
theorem qln_19 : xe_look (xc 212) 19 = some (.if_icmp .ne 57, 3, 0, 0, 0) := by decide +kernel
theorem qln_22 : xe_look (xc 212) 22 = some (.aload_n 0, 1, 0, 0, 0) := by decide +kernel
theorem qln_23 : xe_look (xc 212) 23 = some (.getfield 71, 3, 12, 37, 1189) := by decide +kernel
theorem qln_26 : xe_look (xc 212) 26 = some (.aload_n 0, 1, 0, 0, 0) := by decide +kernel
theorem qln_27 : xe_look (xc 212) 27 = some (.getfield 303, 3, 12, 33, 1146) := by decide +kernel
theorem qln_30 : xe_look (xc 212) 30 = some (.iconst 1, 1, 0, 0, 0) := by decide +kernel
theorem qln_31 : xe_look (xc 212) 31 = some (.isub, 1, 0, 0, 0) := by decide +kernel
theorem qln_32 : xe_look (xc 212) 32 = some (.iaload, 1, 0, 0, 0) := by decide +kernel
theorem qln_33 : xe_look (xc 212) 33 = some (.ldc_w 299, 3, 0, 2148532224, 1151) := by decide +kernel
theorem qln_36 : xe_look (xc 212) 36 = some (.irem, 1, 0, 0, 0) := by decide +kernel
theorem qln_37 : xe_look (xc 212) 37 = some (.istore_n 2, 1, 0, 0, 0) := by decide +kernel
theorem qln_38 : xe_look (xc 212) 38 = some (.aload_n 0, 1, 0, 0, 0) := by decide +kernel
theorem qln_39 : xe_look (xc 212) 39 = some (.getfield 68, 3, 12, 36, 1194) := by decide +kernel
theorem qln_42 : xe_look (xc 212) 42 = some (.iload_n 2, 1, 0, 0, 0) := by decide +kernel
theorem qln_43 : xe_look (xc 212) 43 = some (.ldc_w 299, 3, 0, 2148532224, 1151) := by decide +kernel
theorem qln_46 : xe_look (xc 212) 46 = some (.aload_n 0, 1, 0, 0, 0) := by decide +kernel
theorem qln_47 : xe_look (xc 212) 47 = some (.getfield 68, 3, 12, 36, 1194) := by decide +kernel
theorem qln_50 : xe_look (xc 212) 50 = some (.iload_n 2, 1, 0, 0, 0) := by decide +kernel
theorem qln_51 : xe_look (xc 212) 51 = some (.iaload, 1, 0, 0, 0) := by decide +kernel
theorem qln_52 : xe_look (xc 212) 52 = some (.ldc_w 299, 3, 0, 2148532224, 1151) := by decide +kernel
theorem qln_55 : xe_look (xc 212) 55 = some (.idiv, 1, 0, 0, 0) := by decide +kernel
theorem qln_56 : xe_look (xc 212) 56 = some (.imul, 1, 0, 0, 0) := by decide +kernel
theorem qln_57 : xe_look (xc 212) 57 = some (.aload_n 0, 1, 0, 0, 0) := by decide +kernel
theorem qln_58 : xe_look (xc 212) 58 = some (.getfield 296, 3, 12, 32, 1222) := by decide +kernel
theorem qln_61 : xe_look (xc 212) 61 = some (.iadd, 1, 0, 0, 0) := by decide +kernel
theorem qln_62 : xe_look (xc 212) 62 = some (.iastore, 1, 0, 0, 0) := by decide +kernel
theorem qln_63 : xe_look (xc 212) 63 = some (.aload_n 0, 1, 0, 0, 0) := by decide +kernel
theorem qln_64 : xe_look (xc 212) 64 = some (.aload_n 0, 1, 0, 0, 0) := by decide +kernel
theorem qln_65 : xe_look (xc 212) 65 = some (.getfield 303, 3, 12, 33, 1146) := by decide +kernel
theorem qln_68 : xe_look (xc 212) 68 = some (.iconst 1, 1, 0, 0, 0) := by decide +kernel
theorem qln_69 : xe_look (xc 212) 69 = some (.isub, 1, 0, 0, 0) := by decide +kernel
theorem qln_70 : xe_look (xc 212) 70 = some (.putfield 303, 3, 12, 33, 1146) := by decide +kernel
theorem qln_73 : xe_look (xc 212) 73 = some (.goto (-73), 3, 0, 0, 0) := by decide +kernel
theorem qln_76 : xe_look (xc 212) 76 = some (.return_, 1, 0, 0, 0) := by decide +kernel
theorem qrc_0 : xe_look (xc 234) 0 = some (.aload_n 0, 1, 0, 0, 0) := by decide +kernel
theorem qrc_1 : xe_look (xc 234) 1 = some (.invokevirtual 335, 3, 0, 241, 1255) := by decide +kernel
theorem qrc_4 : xe_look (xc 234) 4 = some (.ifCond .ne 5, 3, 0, 0, 0) := by decide +kernel
theorem qrc_7 : xe_look (xc 234) 7 = some (.iconst 0, 1, 0, 0, 0) := by decide +kernel
theorem qrc_8 : xe_look (xc 234) 8 = some (.ireturn, 1, 0, 0, 0) := by decide +kernel
theorem qrc_9 : xe_look (xc 234) 9 = some (.aload_n 0, 1, 0, 0, 0) := by decide +kernel
theorem qrc_10 : xe_look (xc 234) 10 = some (.invokevirtual 252, 3, 0, 198, 1137) := by decide +kernel
theorem qrc_13 : xe_look (xc 234) 13 = some (.bipush 60, 2, 0, 0, 0) := by decide +kernel
theorem qrc_15 : xe_look (xc 234) 15 = some (.if_icmp .ne 8, 3, 0, 0, 0) := by decide +kernel
theorem qrc_18 : xe_look (xc 234) 18 = some (.bipush 7, 2, 0, 0, 0) := by decide +kernel
theorem qrc_20 : xe_look (xc 234) 20 = some (.goto 32, 3, 0, 0, 0) := by decide +kernel
theorem qrc_23 : xe_look (xc 234) 23 = some (.aload_n 0, 1, 0, 0, 0) := by decide +kernel
theorem qrc_24 : xe_look (xc 234) 24 = some (.invokevirtual 252, 3, 0, 198, 1137) := by decide +kernel
theorem qrc_27 : xe_look (xc 234) 27 = some (.bipush 62, 2, 0, 0, 0) := by decide +kernel
theorem qrc_29 : xe_look (xc 234) 29 = some (.if_icmp .ne 8, 3, 0, 0, 0) := by decide +kernel
theorem qrc_32 : xe_look (xc 234) 32 = some (.bipush 8, 2, 0, 0, 0) := by decide +kernel
theorem qrc_34 : xe_look (xc 234) 34 = some (.goto 18, 3, 0, 0, 0) := by decide +kernel
theorem qrc_37 : xe_look (xc 234) 37 = some (.aload_n 0, 1, 0, 0, 0) := by decide +kernel
theorem qrc_38 : xe_look (xc 234) 38 = some (.invokevirtual 252, 3, 0, 198, 1137) := by decide +kernel
theorem qrc_41 : xe_look (xc 234) 41 = some (.bipush 61, 2, 0, 0, 0) := by decide +kernel
theorem qrc_43 : xe_look (xc 234) 43 = some (.if_icmp .ne 8, 3, 0, 0, 0) := by decide +kernel
theorem qrc_46 : xe_look (xc 234) 46 = some (.bipush 9, 2, 0, 0, 0) := by decide +kernel
theorem qrc_48 : xe_look (xc 234) 48 = some (.goto 4, 3, 0, 0, 0) := by decide +kernel
theorem qrc_51 : xe_look (xc 234) 51 = some (.iconst (-1), 1, 0, 0, 0) := by decide +kernel
theorem qrc_52 : xe_look (xc 234) 52 = some (.istore_n 1, 1, 0, 0, 0) := by decide +kernel
theorem qrc_53 : xe_look (xc 234) 53 = some (.iload_n 1, 1, 0, 0, 0) := by decide +kernel
theorem qrc_54 : xe_look (xc 234) 54 = some (.iconst (-1), 1, 0, 0, 0) := by decide +kernel
theorem qrc_55 : xe_look (xc 234) 55 = some (.if_icmp .ne 13, 3, 0, 0, 0) := by decide +kernel
theorem qrc_58 : xe_look (xc 234) 58 = some (.aload_n 0, 1, 0, 0, 0) := by decide +kernel
theorem qrc_59 : xe_look (xc 234) 59 = some (.iconst 1, 1, 0, 0, 0) := by decide +kernel
theorem qrc_60 : xe_look (xc 234) 60 = some (.aload_n 0, 1, 0, 0, 0) := by decide +kernel
theorem qrc_61 : xe_look (xc 234) 61 = some (.getfield 242, 3, 12, 18, 1135) := by decide +kernel
theorem qrc_64 : xe_look (xc 234) 64 = some (.invokevirtual 256, 3, 0, 274, 1138) := by decide +kernel
theorem qrc_67 : xe_look (xc 234) 67 = some (.ireturn, 1, 0, 0, 0) := by decide +kernel
theorem qrc_68 : xe_look (xc 234) 68 = some (.aload_n 0, 1, 0, 0, 0) := by decide +kernel
theorem qrc_69 : xe_look (xc 234) 69 = some (.aload_n 0, 1, 0, 0, 0) := by decide +kernel
theorem qrc_70 : xe_look (xc 234) 70 = some (.getfield 242, 3, 12, 18, 1135) := by decide +kernel
theorem qrc_73 : xe_look (xc 234) 73 = some (.iconst 1, 1, 0, 0, 0) := by decide +kernel
theorem qrc_74 : xe_look (xc 234) 74 = some (.iadd, 1, 0, 0, 0) := by decide +kernel
theorem qrc_75 : xe_look (xc 234) 75 = some (.putfield 242, 3, 12, 18, 1135) := by decide +kernel
theorem qrc_78 : xe_look (xc 234) 78 = some (.aload_n 0, 1, 0, 0, 0) := by decide +kernel
theorem qrc_79 : xe_look (xc 234) 79 = some (.invokevirtual 335, 3, 0, 241, 1255) := by decide +kernel
theorem qrc_82 : xe_look (xc 234) 82 = some (.ifCond .ne 5, 3, 0, 0, 0) := by decide +kernel
theorem qrc_85 : xe_look (xc 234) 85 = some (.iconst 0, 1, 0, 0, 0) := by decide +kernel
theorem qrc_86 : xe_look (xc 234) 86 = some (.ireturn, 1, 0, 0, 0) := by decide +kernel
theorem qrc_87 : xe_look (xc 234) 87 = some (.aload_n 0, 1, 0, 0, 0) := by decide +kernel
theorem qrc_88 : xe_look (xc 234) 88 = some (.iload_n 1, 1, 0, 0, 0) := by decide +kernel
theorem qrc_89 : xe_look (xc 234) 89 = some (.iconst 0, 1, 0, 0, 0) := by decide +kernel
theorem qrc_90 : xe_look (xc 234) 90 = some (.invokevirtual 309, 3, 0, 223, 1145) := by decide +kernel
theorem qrc_93 : xe_look (xc 234) 93 = some (.aload_n 0, 1, 0, 0, 0) := by decide +kernel
theorem qrc_94 : xe_look (xc 234) 94 = some (.invokevirtual 338, 3, 0, 186, 1257) := by decide +kernel
theorem qrc_97 : xe_look (xc 234) 97 = some (.iconst 1, 1, 0, 0, 0) := by decide +kernel
theorem qrc_98 : xe_look (xc 234) 98 = some (.ireturn, 1, 0, 0, 0) := by decide +kernel

def cG (a : Nat) (f0 : Nat → Int) (z : Int) (g : pH) (δ : Int) : Prop := cJ a f0 z (fF g 18) (fF g 32) (fF g 33) (fA g 216) (fA g 217) δ
theorem cG_c {a : Nat} {f0 : Nat → Int} {z : Int} {g : pH} {δ : Int} (h : cG a f0 z g δ) (hz : 0 ≤ z) : 0 ≤ fF g 32 ∧ fF g 32 + z ≤ fF g 18 ∧ 1 ≤ fF g 33 ∧ fF g 33 ≤ fF g 18 ∧ fF g 18 ≤ 240 ∧ (a : Int) ≤ fF g 32 ∧ fF g 32 + kW (fA g 217) (fF g 33).toNat + z ≤ fF g 18 := by
  have h1 := h.1
  have h2 := kW_0 (fA g 217) (fF g 33).toNat
  omega
set_option maxHeartbeats 4000000 in
theorem ep_loop {d : Nat} (hd : 1 ≤ d) {h0 gs : pH} {a : Nat} {f0 : Nat → Int} {P : Option pv × pH → Prop} (hP : ∀ g1 : pH, J_ Wu h0 g1 → cG a f0 0 g1 1 → fF g1 18 = fF gs 18 → fF g1 19 = fF gs 19 → P (none, g1)) : ∀ (m : Nat) (g : pH) (lv : List (Nat × pv)), fF g 33 ≤ m → J_ Wu h0 g → cG a f0 0 g 1 → (fF g 18 = fF gs 18 ∧ fF g 19 = fF gs 19) → px_lg lv 0 = some (pvR 196) → t_X d 186 0 lv [] g P := by
  obtain ⟨w_18, w_20, w_21, w_31, w_32, w_33, w_a216, w_a217, z_19⟩ := Wu_f
  intro m
  induction m with
  | zero =>
    intro g lv hm hJ hs hp l0
    have hsc := cG_c hs (by decide)
    omega
  | succ m ih =>
    intro g lv hm hJ hs hp l0
    have hsc := cG_c hs (by decide)
    refine t_0 qep_0 rfl (ld_a l0) ?_
    refine t_3 qep_1 rfl (ar := ([pvR 196], [])) (pcal_v0 rfl rfl el_196) ⟨by omega, Nat.le_of_ble_eq_true rfl, Nat.le_of_ble_eq_true rfl, rfl⟩ ?_
    refine wt_run hJ ⟨by omega, by omega⟩ (fun _ => (hs.2.2.1 _ (by omega)).1) (fun z1 hz1 => ?_) rfl
    show t_X d 186 4 lv [oI (z1)] g P
    have b1 : -1 ≤ z1 ∧ z1 ≤ 2147483647 := by
      have := fA_b g 217 (fF g 33 - 1).toNat
      have hn : 1 ≤ fF g 33 → 0 ≤ fA g 217 (fF g 33 - 1).toNat := fun _ => (hs.2.2.1 _ (by omega)).1
      omega
    refine t_0 qep_4 rfl (pq_b (by decide)) ?_
    refine tb_ne qep_6 (by decide) ⟨by omega, by omega⟩ ⟨by omega, by omega⟩ (fun c2 => ?_) (fun c2 => ?_)
    · show t_X d 186 39 lv [] g P
      refine t_5 qep_39 rfl rfl ?_
      exact hP _ hJ hs (by omega) (by omega)
    · show t_X d 186 9 lv [] g P
      refine t_0 qep_9 rfl (ld_a l0) ?_
      refine t_0 qep_10 rfl (pq_b (by decide)) ?_
      refine t_0 qep_12 rfl rfl ?_
      refine t_3 qep_13 rfl (ar := ([pvR 196, oI (10), oI (0)], [])) (pcal_v2 rfl rfl el_196) ⟨by omega, Nat.le_of_ble_eq_true rfl, Nat.le_of_ble_eq_true rfl, rfl⟩ ?_
      refine nt_run hJ ⟨by omega, by omega⟩ ⟨by omega, by omega⟩ ⟨by omega, by omega⟩ (fun g3 hJ3 n3 f3 x3 y3 a3 => ?_) rfl rfl rfl
      have q3_18 := f3 18 (by decide)
      have q3_19 := f3 19 (by decide)
      have q3_33 := f3 33 (by decide)
      show t_X d 186 16 lv [] g3 P
      refine t_0 qep_16 rfl (ld_a l0) ?_
      refine t_0 qep_17 rfl (ld_a l0) ?_
      have r4 := fF_b g3 33
      refine t_0 qep_18 rfl (pq_gf (y := 33) rfl) ?_
      refine t_0 qep_21 rfl rfl ?_
      refine t_0 qep_22 rfl pq_sub ?_
      refine tw_f qep_23 rfl hJ3 w_33 gf_33 (by decide) ⟨by omega, by omega⟩ (fun g5 hJ5 v5 f5 a5 => ?_)
      replace a5 := fA_2 a5
      have q5_18 := f5 18 (by decide)
      have q5_19 := f5 19 (by decide)
      have q5_32 := f5 32 (by decide)
      show t_X d 186 26 lv [] g5 P
      refine t_0 qep_26 rfl (ld_a l0) ?_
      refine t_0 qep_27 rfl (ld_a l0) ?_
      have r6 := fF_b g5 31
      refine t_0 qep_28 rfl (pq_gf (y := 31) rfl) ?_
      refine t_0 qep_31 rfl rfl ?_
      refine t_0 qep_32 rfl pq_sub ?_
      refine tw_fx qep_33 rfl hJ5 w_31 gf_31 (fun g7 hJ7 f7 a7 => ?_)
      replace a7 := fA_2 a7
      have q7_18 := f7 18 (by decide)
      have q7_19 := f7 19 (by decide)
      have q7_32 := f7 32 (by decide)
      have q7_33 := f7 33 (by decide)
      show t_X d 186 36 lv [] g7 P
      refine t_1 qep_36 rfl (pb_goto (pc := 36) (by decide)) ?_
      show t_X d 186 0 lv [] g7 P
      have e18 : fF g7 18 = fF g 18 := by omega
      have e32 : fF g7 32 = fF g 32 + 1 := by omega
      have e33 : fF g7 33 = fF g 33 - 1 := by omega
      have e217 : fA g7 217 = fA g 217 := by rw [a7, a5, a3 217 (by decide)]
      refine ih _ _ (by omega) hJ7 ?_ (by omega) l0
      unfold cG
      rw [e18, e32, e33, e217]
      exact cJ_note hs (w2 := fF g 33 - 1) (x := 1048576 * 10 + 0) (Or.inr ⟨rfl, by omega, by omega, rfl, rfl⟩) (by omega) (by rw [a7, a5]; exact x3) (fun u hu => by rw [a7, a5]; exact y3 u hu)
set_option maxHeartbeats 8000000 in
theorem ln_loop {d : Nat} (hd : 1 ≤ d) {h0 gs : pH} {a : Nat} {f0 : Nat → Int} {al : Int} (hal : al = 0 ∨ al = 1) {P : Option pv × pH → Prop} (hP : ∀ g1 : pH, J_ Wu h0 g1 → cG a f0 0 g1 1 → fF g1 18 = fF gs 18 → fF g1 19 = fF gs 19 → fF g1 32 = fF gs 32 → (fA g1 217 (fF g1 33 - 1).toNat / 1048576 ≠ 11 ∧ (al = 1 → fA g1 217 (fF g1 33 - 1).toNat / 1048576 ≠ 12)) → P (none, g1)) : ∀ (m : Nat) (g : pH) (lv : List (Nat × pv)), fF g 33 ≤ m → J_ Wu h0 g → cG a f0 0 g 1 → (fF g 18 = fF gs 18 ∧ fF g 19 = fF gs 19 ∧ fF g 32 = fF gs 32) → px_lg lv 0 = some (pvR 196) → px_lg lv 1 = some (oI al) → t_X d 212 0 lv [] g P := by
  obtain ⟨w_18, w_20, w_21, w_31, w_32, w_33, w_a216, w_a217, z_19⟩ := Wu_f
  intro m
  induction m with
  | zero =>
    intro g lv hm hJ hs hp l0 l1
    have hsc := cG_c hs (by decide)
    omega
  | succ m ih =>
    intro g lv hm hJ hs hp l0 l1
    have hsc := cG_c hs (by decide)
    refine t_0 qln_0 rfl (ld_a l0) ?_
    refine t_3 qln_1 rfl (ar := ([pvR 196], [])) (pcal_v0 rfl rfl el_196) ⟨by omega, Nat.le_of_ble_eq_true rfl, Nat.le_of_ble_eq_true rfl, rfl⟩ ?_
    refine wt_run hJ ⟨by omega, by omega⟩ (fun _ => (hs.2.2.1 _ (by omega)).1) (fun z1 hz1 => ?_) rfl
    show t_X d 212 4 lv [oI (z1)] g P
    have b1 : -1 ≤ z1 ∧ z1 ≤ 2147483647 := by
      have := fA_b g 217 (fF g 33 - 1).toNat
      have hn : 1 ≤ fF g 33 → 0 ≤ fA g 217 (fF g 33 - 1).toNat := fun _ => (hs.2.2.1 _ (by omega)).1
      omega
    refine t_0 qln_4 rfl (pq_b (by decide)) ?_
    refine tb_eq qln_6 (by decide) ⟨by omega, by omega⟩ ⟨by omega, by omega⟩ (fun c2 => ?_) (fun c2 => ?_)
    · show t_X d 212 22 lv [] g P
      obtain ⟨r1, r2, r3, r4⟩ := (hs.2.2.1 (fF g 33 - 1).toNat (by omega)).2.2 (by omega)
      have n1 := (hs.2.2.1 (fF g 33 - 1).toNat (by omega)).1
      have w1 := (hs.2.2.2.2.1 (fA g 217 (fF g 33 - 1).toNat % 1048576).toNat (by omega) (by omega)).1
      have w2 := w1.1
      have w3 := w1.2.1
      refine t_0 qln_22 rfl (ld_a l0) ?_
      refine t_0 qln_23 rfl (ar_37 hJ.1) ?_
      refine t_0 qln_26 rfl (ld_a l0) ?_
      have r3 := fF_b g 33
      refine t_0 qln_27 rfl (pq_gf (y := 33) rfl) ?_
      refine t_0 qln_30 rfl rfl ?_
      refine t_0 qln_31 rfl pq_sub ?_
      refine t_0 qln_32 rfl (pq_ia el_217 rfl ⟨by omega, by omega⟩) ?_
      have r4 := fA_b g 217 ((fF g 33) - 1).toNat
      refine t_0 qln_33 rfl (pq_cw (n := 1048576) (by decide +kernel)) ?_
      refine t_0 qln_36 rfl (pq_rem ⟨by omega, by omega⟩ ⟨by omega, by omega⟩) ?_
      refine t_2 qln_37 rfl (w := (px_s1 lv 2 (oI ((fA g 217 ((fF g 33) - 1).toNat) % 1048576)), [])) rfl ?_
      replace l0 : px_lg (px_s1 lv 2 (oI ((fA g 217 ((fF g 33) - 1).toNat) % 1048576))) 0 = some (pvR 196) := s1_ne (by decide) (fun _ => rfl) l0
      replace l1 : px_lg (px_s1 lv 2 (oI ((fA g 217 ((fF g 33) - 1).toNat) % 1048576))) 1 = some (oI (al)) := s1_ne (by decide) (fun _ => rfl) l1
      have l2 : px_lg (px_s1 lv 2 (oI ((fA g 217 ((fF g 33) - 1).toNat) % 1048576))) 2 = some (oI ((fA g 217 ((fF g 33) - 1).toNat) % 1048576)) := s1_eq
      generalize px_s1 lv 2 (oI ((fA g 217 ((fF g 33) - 1).toNat) % 1048576)) = lv5 at l0 l1 l2 ⊢
      show t_X d 212 38 lv5 [] g P
      refine t_0 qln_38 rfl (ld_a l0) ?_
      refine t_0 qln_39 rfl (ar_36 hJ.1) ?_
      refine t_0 qln_42 rfl (ld_i l2) ?_
      refine t_0 qln_43 rfl (pq_cw (n := 1048576) (by decide +kernel)) ?_
      refine t_0 qln_46 rfl (ld_a l0) ?_
      refine t_0 qln_47 rfl (ar_36 hJ.1) ?_
      refine t_0 qln_50 rfl (ld_i l2) ?_
      refine t_0 qln_51 rfl (pq_ia el_216 rfl ⟨by omega, by omega⟩) ?_
      have r6 := fA_b g 216 ((fA g 217 ((fF g 33) - 1).toNat) % 1048576).toNat
      refine t_0 qln_52 rfl (pq_cw (n := 1048576) (by decide +kernel)) ?_
      refine t_0 qln_55 rfl (pq_div ⟨by omega, by omega⟩ ⟨by omega, by omega⟩) ?_
      refine t_0 qln_56 rfl pq_mul ?_
      refine t_0 qln_57 rfl (ld_a l0) ?_
      have r7 := fF_b g 32
      refine t_0 qln_58 rfl (pq_gf (y := 32) rfl) ?_
      refine t_0 qln_61 rfl pq_add ?_
      refine tw_a qln_62 hJ el_216 rfl w_a216 ga_216 (by decide) ⟨by omega, by omega⟩ ⟨by omega, by omega⟩ (fun g8 hJ8 a8 v8 b8 f8 => ?_)
      replace f8 := fF_1 f8
      have q8_18 := congrFun f8 18
      have q8_19 := congrFun f8 19
      have q8_32 := congrFun f8 32
      have q8_33 := congrFun f8 33
      show t_X d 212 63 lv5 [] g8 P
      refine t_0 qln_63 rfl (ld_a l0) ?_
      refine t_0 qln_64 rfl (ld_a l0) ?_
      have r9 := fF_b g8 33
      refine t_0 qln_65 rfl (pq_gf (y := 33) rfl) ?_
      refine t_0 qln_68 rfl rfl ?_
      refine t_0 qln_69 rfl pq_sub ?_
      refine tw_f qln_70 rfl hJ8 w_33 gf_33 (by decide) ⟨by omega, by omega⟩ (fun g10 hJ10 v10 f10 a10 => ?_)
      replace a10 := fA_2 a10
      have q10_18 := f10 18 (by decide)
      have q10_19 := f10 19 (by decide)
      have q10_32 := f10 32 (by decide)
      show t_X d 212 73 lv5 [] g10 P
      refine t_1 qln_73 rfl (pb_goto (pc := 73) (by decide)) ?_
      show t_X d 212 0 lv5 [] g10 P
      have e18 : fF g10 18 = fF g 18 := by omega
      have e32 : fF g10 32 = fF g 32 := by omega
      have e33 : fF g10 33 = fF g 33 - 1 := by omega
      have e217 : fA g10 217 = fA g 217 := by rw [a10, a8 217 (by decide)]
      refine ih _ _ (by omega) hJ10 ?_ (by omega) l0 l1
      unfold cG
      rw [e18, e32, e33, e217]
      exact cJ_land hs (by omega) (by rw [a10]; exact v8) (fun u hu => by rw [a10]; exact b8 u hu)
    · show t_X d 212 9 lv [] g P
      refine t_0 qln_9 rfl (ld_i l1) ?_
      refine tz_eq qln_10 (by decide) ⟨by omega, by omega⟩ (fun c11 => ?_) (fun c11 => ?_)
      · show t_X d 212 76 lv [] g P
        refine t_5 qln_76 rfl rfl ?_
        exact hP _ hJ hs (by omega) (by omega) (by omega) ⟨by omega, by omega⟩
      · show t_X d 212 13 lv [] g P
        refine t_0 qln_13 rfl (ld_a l0) ?_
        refine t_3 qln_14 rfl (ar := ([pvR 196], [])) (pcal_v0 rfl rfl el_196) ⟨by omega, Nat.le_of_ble_eq_true rfl, Nat.le_of_ble_eq_true rfl, rfl⟩ ?_
        refine wt_run hJ ⟨by omega, by omega⟩ (fun _ => (hs.2.2.1 _ (by omega)).1) (fun z12 hz12 => ?_) rfl
        show t_X d 212 17 lv [oI (z12)] g P
        have b12 : -1 ≤ z12 ∧ z12 ≤ 2147483647 := by
          have := fA_b g 217 (fF g 33 - 1).toNat
          have hn : 1 ≤ fF g 33 → 0 ≤ fA g 217 (fF g 33 - 1).toNat := fun _ => (hs.2.2.1 _ (by omega)).1
          omega
        refine t_0 qln_17 rfl (pq_b (by decide)) ?_
        refine tb_ne qln_19 (by decide) ⟨by omega, by omega⟩ ⟨by omega, by omega⟩ (fun c13 => ?_) (fun c13 => ?_)
        · show t_X d 212 76 lv [] g P
          refine t_5 qln_76 rfl rfl ?_
          exact hP _ hJ hs (by omega) (by omega) (by omega) ⟨by omega, by omega⟩
        · show t_X d 212 22 lv [] g P
          obtain ⟨r1, r2, r3, r4⟩ := (hs.2.2.1 (fF g 33 - 1).toNat (by omega)).2.2 (by omega)
          have n1 := (hs.2.2.1 (fF g 33 - 1).toNat (by omega)).1
          have w1 := (hs.2.2.2.2.1 (fA g 217 (fF g 33 - 1).toNat % 1048576).toNat (by omega) (by omega)).1
          have w2 := w1.1
          have w3 := w1.2.1
          refine t_0 qln_22 rfl (ld_a l0) ?_
          refine t_0 qln_23 rfl (ar_37 hJ.1) ?_
          refine t_0 qln_26 rfl (ld_a l0) ?_
          have r14 := fF_b g 33
          refine t_0 qln_27 rfl (pq_gf (y := 33) rfl) ?_
          refine t_0 qln_30 rfl rfl ?_
          refine t_0 qln_31 rfl pq_sub ?_
          refine t_0 qln_32 rfl (pq_ia el_217 rfl ⟨by omega, by omega⟩) ?_
          have r15 := fA_b g 217 ((fF g 33) - 1).toNat
          refine t_0 qln_33 rfl (pq_cw (n := 1048576) (by decide +kernel)) ?_
          refine t_0 qln_36 rfl (pq_rem ⟨by omega, by omega⟩ ⟨by omega, by omega⟩) ?_
          refine t_2 qln_37 rfl (w := (px_s1 lv 2 (oI ((fA g 217 ((fF g 33) - 1).toNat) % 1048576)), [])) rfl ?_
          replace l0 : px_lg (px_s1 lv 2 (oI ((fA g 217 ((fF g 33) - 1).toNat) % 1048576))) 0 = some (pvR 196) := s1_ne (by decide) (fun _ => rfl) l0
          replace l1 : px_lg (px_s1 lv 2 (oI ((fA g 217 ((fF g 33) - 1).toNat) % 1048576))) 1 = some (oI (al)) := s1_ne (by decide) (fun _ => rfl) l1
          have l2 : px_lg (px_s1 lv 2 (oI ((fA g 217 ((fF g 33) - 1).toNat) % 1048576))) 2 = some (oI ((fA g 217 ((fF g 33) - 1).toNat) % 1048576)) := s1_eq
          generalize px_s1 lv 2 (oI ((fA g 217 ((fF g 33) - 1).toNat) % 1048576)) = lv16 at l0 l1 l2 ⊢
          show t_X d 212 38 lv16 [] g P
          refine t_0 qln_38 rfl (ld_a l0) ?_
          refine t_0 qln_39 rfl (ar_36 hJ.1) ?_
          refine t_0 qln_42 rfl (ld_i l2) ?_
          refine t_0 qln_43 rfl (pq_cw (n := 1048576) (by decide +kernel)) ?_
          refine t_0 qln_46 rfl (ld_a l0) ?_
          refine t_0 qln_47 rfl (ar_36 hJ.1) ?_
          refine t_0 qln_50 rfl (ld_i l2) ?_
          refine t_0 qln_51 rfl (pq_ia el_216 rfl ⟨by omega, by omega⟩) ?_
          have r17 := fA_b g 216 ((fA g 217 ((fF g 33) - 1).toNat) % 1048576).toNat
          refine t_0 qln_52 rfl (pq_cw (n := 1048576) (by decide +kernel)) ?_
          refine t_0 qln_55 rfl (pq_div ⟨by omega, by omega⟩ ⟨by omega, by omega⟩) ?_
          refine t_0 qln_56 rfl pq_mul ?_
          refine t_0 qln_57 rfl (ld_a l0) ?_
          have r18 := fF_b g 32
          refine t_0 qln_58 rfl (pq_gf (y := 32) rfl) ?_
          refine t_0 qln_61 rfl pq_add ?_
          refine tw_a qln_62 hJ el_216 rfl w_a216 ga_216 (by decide) ⟨by omega, by omega⟩ ⟨by omega, by omega⟩ (fun g19 hJ19 a19 v19 b19 f19 => ?_)
          replace f19 := fF_1 f19
          have q19_18 := congrFun f19 18
          have q19_19 := congrFun f19 19
          have q19_32 := congrFun f19 32
          have q19_33 := congrFun f19 33
          show t_X d 212 63 lv16 [] g19 P
          refine t_0 qln_63 rfl (ld_a l0) ?_
          refine t_0 qln_64 rfl (ld_a l0) ?_
          have r20 := fF_b g19 33
          refine t_0 qln_65 rfl (pq_gf (y := 33) rfl) ?_
          refine t_0 qln_68 rfl rfl ?_
          refine t_0 qln_69 rfl pq_sub ?_
          refine tw_f qln_70 rfl hJ19 w_33 gf_33 (by decide) ⟨by omega, by omega⟩ (fun g21 hJ21 v21 f21 a21 => ?_)
          replace a21 := fA_2 a21
          have q21_18 := f21 18 (by decide)
          have q21_19 := f21 19 (by decide)
          have q21_32 := f21 32 (by decide)
          show t_X d 212 73 lv16 [] g21 P
          refine t_1 qln_73 rfl (pb_goto (pc := 73) (by decide)) ?_
          show t_X d 212 0 lv16 [] g21 P
          have e18 : fF g21 18 = fF g 18 := by omega
          have e32 : fF g21 32 = fF g 32 := by omega
          have e33 : fF g21 33 = fF g 33 - 1 := by omega
          have e217 : fA g21 217 = fA g 217 := by rw [a21, a19 217 (by decide)]
          refine ih _ _ (by omega) hJ21 ?_ (by omega) l0 l1
          unfold cG
          rw [e18, e32, e33, e217]
          exact cJ_land hs (by omega) (by rw [a21]; exact v19) (fun u hu => by rw [a21]; exact b19 u hu)
set_option maxHeartbeats 4000000 in
theorem jm_run {d : Nat} (hd : 1 ≤ d) {h0 g : pH} {a : Nat} {f0 : Nat → Int} {o : Int} (ho : o = 11 ∨ o = 12) (hJ : J_ Wu h0 g) (hs : cG a f0 0 g 1) (hp : fF g 18 < fF g 19 ∧ fF g 19 ≤ 240) {P : Option pv × pH → Prop} (hP : ∀ g1 : pH, J_ Wu h0 g1 → cG a f0 0 g1 0 → fF g1 18 = fF g 18 + 1 → fF g1 19 = fF g 19 → P (none, g1)) {lv : List (Nat × pv)} (l0 : px_lg lv 0 = some (pvR 196)) (l1 : px_lg lv 1 = some (oI o)) : t_X d 208 0 lv [] g P := by
  obtain ⟨w_18, w_20, w_21, w_31, w_32, w_33, w_a216, w_a217, z_19⟩ := Wu_f
  have hsc := cG_c hs (by decide)
  refine t_0 qjm_0 rfl (ld_a l0) ?_
  refine t_0 qjm_1 rfl (ar_37 hJ.1) ?_
  refine t_0 qjm_4 rfl (ld_a l0) ?_
  have r1 := fF_b g 33
  refine t_0 qjm_5 rfl (pq_gf (y := 33) rfl) ?_
  refine t_0 qjm_8 rfl (pq_cw (n := 1048576) (by decide +kernel)) ?_
  refine t_0 qjm_11 rfl (ld_i l1) ?_
  refine t_0 qjm_12 rfl pq_mul ?_
  refine t_0 qjm_13 rfl (ld_a l0) ?_
  have r2 := fF_b g 32
  refine t_0 qjm_14 rfl (pq_gf (y := 32) rfl) ?_
  refine t_0 qjm_17 rfl pq_add ?_
  refine tw_a qjm_18 hJ el_217 rfl w_a217 ga_217 (by decide) ⟨by omega, by omega⟩ ⟨by omega, by omega⟩ (fun g3 hJ3 a3 v3 b3 f3 => ?_)
  replace f3 := fF_1 f3
  have q3_18 := congrFun f3 18
  have q3_19 := congrFun f3 19
  have q3_32 := congrFun f3 32
  have q3_33 := congrFun f3 33
  show t_X d 208 19 lv [] g3 P
  refine t_0 qjm_19 rfl (ld_a l0) ?_
  refine t_0 qjm_20 rfl (ld_a l0) ?_
  have r4 := fF_b g3 33
  refine t_0 qjm_21 rfl (pq_gf (y := 33) rfl) ?_
  refine t_0 qjm_24 rfl rfl ?_
  refine t_0 qjm_25 rfl pq_add ?_
  refine tw_f qjm_26 rfl hJ3 w_33 gf_33 (by decide) ⟨by omega, by omega⟩ (fun g5 hJ5 v5 f5 a5 => ?_)
  replace a5 := fA_2 a5
  have q5_18 := f5 18 (by decide)
  have q5_19 := f5 19 (by decide)
  have q5_32 := f5 32 (by decide)
  show t_X d 208 29 lv [] g5 P
  refine t_0 qjm_29 rfl (ld_a l0) ?_
  refine t_0 qjm_30 rfl (ld_i l1) ?_
  refine t_0 qjm_31 rfl rfl ?_
  refine t_3 qjm_32 rfl (ar := ([pvR 196, oI (o), oI (0)], [])) (pcal_v2 rfl rfl el_196) ⟨by omega, Nat.le_of_ble_eq_true rfl, Nat.le_of_ble_eq_true rfl, rfl⟩ ?_
  refine nt_run hJ5 ⟨by omega, by omega⟩ ⟨by omega, by omega⟩ ⟨by omega, by omega⟩ (fun g6 hJ6 n6 f6 x6 y6 a6 => ?_) rfl rfl rfl
  have q6_18 := f6 18 (by decide)
  have q6_19 := f6 19 (by decide)
  have q6_33 := f6 33 (by decide)
  show t_X d 208 35 lv [] g6 P
  refine t_0 qjm_35 rfl (ld_a l0) ?_
  refine t_0 qjm_36 rfl (ld_a l0) ?_
  have r7 := fF_b g6 18
  refine t_0 qjm_37 rfl (pq_gf (y := 18) rfl) ?_
  refine t_0 qjm_40 rfl rfl ?_
  refine t_0 qjm_41 rfl pq_add ?_
  refine tw_f qjm_42 rfl hJ6 w_18 gf_18 (by decide) ⟨by omega, by omega⟩ (fun g8 hJ8 v8 f8 a8 => ?_)
  replace a8 := fA_2 a8
  have q8_19 := f8 19 (by decide)
  have q8_32 := f8 32 (by decide)
  have q8_33 := f8 33 (by decide)
  show t_X d 208 45 lv [] g8 P
  refine t_5 qjm_45 rfl rfl ?_
  refine hP _ hJ8 ?_ (by omega) (by omega)
  have e18 : fF g8 18 = fF g 18 + 1 := by omega
  have e32 : fF g8 32 = fF g 32 + 1 := by omega
  have e33 : fF g8 33 = fF g 33 + 1 := by omega
  have c32 : fF g5 32 = fF g 32 := by omega
  unfold cG
  rw [e18, e32, e33]
  refine cJ_jump hs (by omega) ho ?_ (fun u hu => ?_) ?_ (fun u hu => ?_)
  · rw [a8, ← c32]
    exact x6
  · rw [a8, y6 u (by rw [c32]; exact hu), a5, a3 216 (by decide)]
  · rw [a8, a6 217 (by decide), a5]
    exact v3
  · rw [a8, a6 217 (by decide), a5]
    exact b3 u hu
set_option maxHeartbeats 16000000 in
theorem rc_run {d : Nat} (hd : 6 ≤ d) {h0 g : pH} {a : Nat} {f0 : Nat → Int} (hJ : J_ Wu h0 g) (hs : cG a f0 0 g 0) (hp : fF g 18 ≤ fF g 19 ∧ fF g 19 ≤ 240) {P : Option pv × pH → Prop} (h1 : ∀ g1 : pH, J_ Wu h0 g1 → cG a f0 0 g1 1 → fF g 18 < fF g1 18 → fF g1 18 ≤ fF g1 19 → fF g1 19 = fF g 19 → P (some (oI 1), g1)) (h2 : ∀ g1 : pH, J_ Wu h0 g1 → P (some (oI 0), g1)) {lv : List (Nat × pv)} (l0 : px_lg lv 0 = some (pvR 196)) : t_X d 234 0 lv [] g P := by
  obtain ⟨w_18, w_20, w_21, w_31, w_32, w_33, w_a216, w_a217, z_19⟩ := Wu_f
  have hsc := cG_c hs (by decide)
  refine t_0 qrc_0 rfl (ld_a l0) ?_
  refine t_3 qrc_1 rfl (ar := ([pvR 196], [])) (pcal_v0 rfl rfl el_196) ⟨by omega, Nat.le_of_ble_eq_true rfl, Nat.le_of_ble_eq_true rfl, rfl⟩ ?_
  refine sm_run (by omega) hJ (c0 := (fF g 32).toNat) (b := (fF g 33).toNat) (by omega) (by omega) ⟨by omega, by omega, by omega⟩ (by omega) (fun j hj => ?_) (fun g1 hJ1 G1 w1 p1 u1 x1 => ?_) (fun g50001 hJ50001 => ?_) rfl
  · have hy := hs.2.2.1 j (by omega)
    exact ⟨hy.1, hy.2.1⟩
  · have S1 : cG a f0 0 g1 (0 + 1) := by
      have hw9 : fF g1 33 = fF g 33 := by omega
      unfold sG at G1
      rw [hw9] at G1
      unfold cG
      rw [hw9]
      exact cJ_sum hs (by omega) (by omega) G1
    have sc1 := cG_c S1 (by omega)
    show t_X d 234 4 lv [oI (1)] g1 P
    refine tz_ne qrc_4 (by decide) ⟨by omega, by omega⟩ (fun c2 => ?_) (fun c2 => absurd c2 (by omega))
    show t_X d 234 9 lv [] g1 P
    refine t_0 qrc_9 rfl (ld_a l0) ?_
    refine t_3 qrc_10 rfl (ar := ([pvR 196], [])) (pcal_v0 rfl rfl el_196) ⟨by omega, Nat.le_of_ble_eq_true rfl, Nat.le_of_ble_eq_true rfl, rfl⟩ ?_
    refine he_run hJ1.1 (by omega) (by omega) ?_ rfl
    have hv3 := hV_b g1
    have hn3 := hV_n g1
    show t_X d 234 13 lv [oI (hV g1)] g1 P
    refine t_0 qrc_13 rfl (pq_b (by decide)) ?_
    refine tb_ne qrc_15 (by decide) ⟨by omega, by omega⟩ ⟨by omega, by omega⟩ (fun c4 => ?_) (fun c4 => ?_)
    · show t_X d 234 23 lv [] g1 P
      refine t_0 qrc_23 rfl (ld_a l0) ?_
      refine t_3 qrc_24 rfl (ar := ([pvR 196], [])) (pcal_v0 rfl rfl el_196) ⟨by omega, Nat.le_of_ble_eq_true rfl, Nat.le_of_ble_eq_true rfl, rfl⟩ ?_
      refine he_run hJ1.1 (by omega) (by omega) ?_ rfl
      have hv5 := hV_b g1
      have hn5 := hV_n g1
      show t_X d 234 27 lv [oI (hV g1)] g1 P
      refine t_0 qrc_27 rfl (pq_b (by decide)) ?_
      refine tb_ne qrc_29 (by decide) ⟨by omega, by omega⟩ ⟨by omega, by omega⟩ (fun c6 => ?_) (fun c6 => ?_)
      · show t_X d 234 37 lv [] g1 P
        refine t_0 qrc_37 rfl (ld_a l0) ?_
        refine t_3 qrc_38 rfl (ar := ([pvR 196], [])) (pcal_v0 rfl rfl el_196) ⟨by omega, Nat.le_of_ble_eq_true rfl, Nat.le_of_ble_eq_true rfl, rfl⟩ ?_
        refine he_run hJ1.1 (by omega) (by omega) ?_ rfl
        have hv7 := hV_b g1
        have hn7 := hV_n g1
        show t_X d 234 41 lv [oI (hV g1)] g1 P
        refine t_0 qrc_41 rfl (pq_b (by decide)) ?_
        refine tb_ne qrc_43 (by decide) ⟨by omega, by omega⟩ ⟨by omega, by omega⟩ (fun c8 => ?_) (fun c8 => ?_)
        · show t_X d 234 51 lv [] g1 P
          refine t_0 qrc_51 rfl rfl ?_
          refine t_2 qrc_52 rfl (w := (px_s1 lv 1 (oI ((-1))), [])) rfl ?_
          replace l0 : px_lg (px_s1 lv 1 (oI ((-1)))) 0 = some (pvR 196) := s1_ne (by decide) (fun _ => rfl) l0
          have l1 : px_lg (px_s1 lv 1 (oI ((-1)))) 1 = some (oI ((-1))) := s1_eq
          generalize px_s1 lv 1 (oI ((-1))) = lv9 at l0 l1 ⊢
          show t_X d 234 53 lv9 [] g1 P
          refine t_0 qrc_53 rfl (ld_i l1) ?_
          refine t_0 qrc_54 rfl rfl ?_
          refine tb_ne qrc_55 (by decide) ⟨by omega, by omega⟩ ⟨by omega, by omega⟩ (fun c10 => ?_) (fun c10 => ?_)
          · show t_X d 234 68 lv9 [] g1 P
            refine t_0 qrc_68 rfl (ld_a l0) ?_
            refine t_0 qrc_69 rfl (ld_a l0) ?_
            have r11 := fF_b g1 18
            refine t_0 qrc_70 rfl (pq_gf (y := 18) rfl) ?_
            refine t_0 qrc_73 rfl rfl ?_
            refine t_0 qrc_74 rfl pq_add ?_
            refine tw_f qrc_75 rfl hJ1 w_18 gf_18 (by decide) ⟨by omega, by omega⟩ (fun g12 hJ12 v12 f12 a12 => ?_)
            replace a12 := fA_2 a12
            have q12_19 := f12 19 (by decide)
            have q12_32 := f12 32 (by decide)
            have q12_33 := f12 33 (by decide)
            show t_X d 234 78 lv9 [] g12 P
            have e18 : fF g12 18 = fF g1 18 + 1 := by omega
            have SZ : cG a f0 1 g12 1 := by
              unfold cG
              rw [e18, show fF g12 32 = fF g1 32 by omega, show fF g12 33 = fF g1 33 by omega, a12]
              exact cJ_p S1 ⟨by omega, by omega⟩ (by omega)
            have scz := cG_c SZ (by decide)
            refine t_0 qrc_78 rfl (ld_a l0) ?_
            refine t_3 qrc_79 rfl (ar := ([pvR 196], [])) (pcal_v0 rfl rfl el_196) ⟨by omega, Nat.le_of_ble_eq_true rfl, Nat.le_of_ble_eq_true rfl, rfl⟩ ?_
            refine sm_run (by omega) hJ12 (c0 := (fF g12 32).toNat) (b := (fF g12 33).toNat) (by omega) (by omega) ⟨by omega, by omega, by omega⟩ (by omega) (fun j hj => ?_) (fun g13 hJ13 G13 w13 p13 u13 x13 => ?_) (fun g50013 hJ50013 => ?_) rfl
            · have hy := SZ.2.2.1 j (by omega)
              exact ⟨hy.1, hy.2.1⟩
            · have S13 : cG a f0 1 g13 (1 + 1) := by
                have hw9 : fF g13 33 = fF g12 33 := by omega
                unfold sG at G13
                rw [hw9] at G13
                unfold cG
                rw [hw9]
                exact cJ_sum SZ (by omega) (by omega) G13
              have sc13 := cG_c S13 (by omega)
              show t_X d 234 82 lv9 [oI (1)] g13 P
              refine tz_ne qrc_82 (by decide) ⟨by omega, by omega⟩ (fun c14 => ?_) (fun c14 => absurd c14 (by omega))
              show t_X d 234 87 lv9 [] g13 P
              refine t_0 qrc_87 rfl (ld_a l0) ?_
              refine t_0 qrc_88 rfl (ld_i l1) ?_
              refine t_0 qrc_89 rfl rfl ?_
              refine t_3 qrc_90 rfl (ar := ([pvR 196, oI ((-1)), oI (0)], [])) (pcal_v2 rfl rfl el_196) ⟨by omega, Nat.le_of_ble_eq_true rfl, Nat.le_of_ble_eq_true rfl, rfl⟩ ?_
              refine nt_run hJ13 ⟨by omega, by omega⟩ ⟨by omega, by omega⟩ ⟨by omega, by omega⟩ (fun g15 hJ15 n15 f15 x15 y15 a15 => ?_) rfl rfl rfl
              have q15_18 := f15 18 (by decide)
              have q15_19 := f15 19 (by decide)
              have q15_33 := f15 33 (by decide)
              show t_X d 234 93 lv9 [] g15 P
              have SN : cG a f0 0 g15 1 := by
                unfold cG
                rw [show fF g15 18 = fF g13 18 by omega, n15, show fF g15 33 = fF g13 33 by omega, a15 217 (by decide)]
                exact cJ_note S13 (w2 := fF g13 33) (x := 1048576 * (-1) + 0) (Or.inl ⟨rfl, by omega, by omega, rfl, rfl⟩) (by omega) x15 y15
              have scn := cG_c SN (by decide)
              refine t_0 qrc_93 rfl (ld_a l0) ?_
              refine t_3 qrc_94 rfl (ar := ([pvR 196], [])) (pcal_v0 rfl rfl el_196) ⟨by omega, Nat.le_of_ble_eq_true rfl, Nat.le_of_ble_eq_true rfl, rfl⟩ ?_
              refine ep_loop (by omega) (gs := g15) (a := a) (f0 := f0) (fun g16 hJ16 S16 p16 u16 => ?_) 260 _ _ (by omega) hJ15 SN ⟨rfl, rfl⟩ rfl
              have sc16 := cG_c S16 (by decide)
              show t_X d 234 97 lv9 [] g16 P
              refine t_0 qrc_97 rfl rfl ?_
              refine t_5 qrc_98 rfl rfl ?_
              exact h1 _ hJ16 S16 (by omega) (by omega) (by omega)
            · show t_X d 234 82 lv9 [oI (0)] g50013 P
              refine tz_ne qrc_82 (by decide) ⟨by omega, by omega⟩ (fun c17 => absurd c17 (by omega)) (fun c17 => ?_)
              show t_X d 234 85 lv9 [] g50013 P
              refine t_0 qrc_85 rfl rfl ?_
              refine t_5 qrc_86 rfl rfl ?_
              exact h2 _ hJ50013
          · show t_X d 234 58 lv9 [] g1 P
            refine t_0 qrc_58 rfl (ld_a l0) ?_
            refine t_0 qrc_59 rfl rfl ?_
            refine t_0 qrc_60 rfl (ld_a l0) ?_
            have r18 := fF_b g1 18
            refine t_0 qrc_61 rfl (pq_gf (y := 18) rfl) ?_
            refine t_3 qrc_64 rfl (ar := ([pvR 196, oI (1), oI (fF g1 18)], [])) (pcal_v2 rfl rfl el_196) ⟨by omega, Nat.le_of_ble_eq_true rfl, Nat.le_of_ble_eq_true rfl, rfl⟩ ?_
            refine wr_run hJ1 w_20 (fun g19 hJ19 f19 a19 => ?_) rfl rfl rfl
            have q19_18 := f19 18 (by decide)
            have q19_19 := f19 19 (by decide)
            have q19_32 := f19 32 (by decide)
            have q19_33 := f19 33 (by decide)
            show t_X d 234 67 lv9 [oI (0)] g19 P
            refine t_5 qrc_67 rfl rfl ?_
            exact h2 _ hJ19
        · show t_X d 234 46 lv [] g1 P
          refine t_0 qrc_46 rfl (pq_b (by decide)) ?_
          refine t_1 qrc_48 rfl (pb_goto (pc := 48) (by decide)) ?_
          show t_X d 234 52 lv [oI (9)] g1 P
          refine t_2 qrc_52 rfl (w := (px_s1 lv 1 (oI (9)), [])) rfl ?_
          replace l0 : px_lg (px_s1 lv 1 (oI (9))) 0 = some (pvR 196) := s1_ne (by decide) (fun _ => rfl) l0
          have l1 : px_lg (px_s1 lv 1 (oI (9))) 1 = some (oI (9)) := s1_eq
          generalize px_s1 lv 1 (oI (9)) = lv20 at l0 l1 ⊢
          show t_X d 234 53 lv20 [] g1 P
          refine t_0 qrc_53 rfl (ld_i l1) ?_
          refine t_0 qrc_54 rfl rfl ?_
          refine tb_ne qrc_55 (by decide) ⟨by omega, by omega⟩ ⟨by omega, by omega⟩ (fun c21 => ?_) (fun c21 => ?_)
          · show t_X d 234 68 lv20 [] g1 P
            refine t_0 qrc_68 rfl (ld_a l0) ?_
            refine t_0 qrc_69 rfl (ld_a l0) ?_
            have r22 := fF_b g1 18
            refine t_0 qrc_70 rfl (pq_gf (y := 18) rfl) ?_
            refine t_0 qrc_73 rfl rfl ?_
            refine t_0 qrc_74 rfl pq_add ?_
            refine tw_f qrc_75 rfl hJ1 w_18 gf_18 (by decide) ⟨by omega, by omega⟩ (fun g23 hJ23 v23 f23 a23 => ?_)
            replace a23 := fA_2 a23
            have q23_19 := f23 19 (by decide)
            have q23_32 := f23 32 (by decide)
            have q23_33 := f23 33 (by decide)
            show t_X d 234 78 lv20 [] g23 P
            have e18 : fF g23 18 = fF g1 18 + 1 := by omega
            have SZ : cG a f0 1 g23 1 := by
              unfold cG
              rw [e18, show fF g23 32 = fF g1 32 by omega, show fF g23 33 = fF g1 33 by omega, a23]
              exact cJ_p S1 ⟨by omega, by omega⟩ (by omega)
            have scz := cG_c SZ (by decide)
            refine t_0 qrc_78 rfl (ld_a l0) ?_
            refine t_3 qrc_79 rfl (ar := ([pvR 196], [])) (pcal_v0 rfl rfl el_196) ⟨by omega, Nat.le_of_ble_eq_true rfl, Nat.le_of_ble_eq_true rfl, rfl⟩ ?_
            refine sm_run (by omega) hJ23 (c0 := (fF g23 32).toNat) (b := (fF g23 33).toNat) (by omega) (by omega) ⟨by omega, by omega, by omega⟩ (by omega) (fun j hj => ?_) (fun g24 hJ24 G24 w24 p24 u24 x24 => ?_) (fun g50024 hJ50024 => ?_) rfl
            · have hy := SZ.2.2.1 j (by omega)
              exact ⟨hy.1, hy.2.1⟩
            · have S24 : cG a f0 1 g24 (1 + 1) := by
                have hw9 : fF g24 33 = fF g23 33 := by omega
                unfold sG at G24
                rw [hw9] at G24
                unfold cG
                rw [hw9]
                exact cJ_sum SZ (by omega) (by omega) G24
              have sc24 := cG_c S24 (by omega)
              show t_X d 234 82 lv20 [oI (1)] g24 P
              refine tz_ne qrc_82 (by decide) ⟨by omega, by omega⟩ (fun c25 => ?_) (fun c25 => absurd c25 (by omega))
              show t_X d 234 87 lv20 [] g24 P
              refine t_0 qrc_87 rfl (ld_a l0) ?_
              refine t_0 qrc_88 rfl (ld_i l1) ?_
              refine t_0 qrc_89 rfl rfl ?_
              refine t_3 qrc_90 rfl (ar := ([pvR 196, oI (9), oI (0)], [])) (pcal_v2 rfl rfl el_196) ⟨by omega, Nat.le_of_ble_eq_true rfl, Nat.le_of_ble_eq_true rfl, rfl⟩ ?_
              refine nt_run hJ24 ⟨by omega, by omega⟩ ⟨by omega, by omega⟩ ⟨by omega, by omega⟩ (fun g26 hJ26 n26 f26 x26 y26 a26 => ?_) rfl rfl rfl
              have q26_18 := f26 18 (by decide)
              have q26_19 := f26 19 (by decide)
              have q26_33 := f26 33 (by decide)
              show t_X d 234 93 lv20 [] g26 P
              have SN : cG a f0 0 g26 1 := by
                unfold cG
                rw [show fF g26 18 = fF g24 18 by omega, n26, show fF g26 33 = fF g24 33 by omega, a26 217 (by decide)]
                exact cJ_note S24 (w2 := fF g24 33) (x := 1048576 * 9 + 0) (Or.inl ⟨rfl, by omega, by omega, rfl, rfl⟩) (by omega) x26 y26
              have scn := cG_c SN (by decide)
              refine t_0 qrc_93 rfl (ld_a l0) ?_
              refine t_3 qrc_94 rfl (ar := ([pvR 196], [])) (pcal_v0 rfl rfl el_196) ⟨by omega, Nat.le_of_ble_eq_true rfl, Nat.le_of_ble_eq_true rfl, rfl⟩ ?_
              refine ep_loop (by omega) (gs := g26) (a := a) (f0 := f0) (fun g27 hJ27 S27 p27 u27 => ?_) 260 _ _ (by omega) hJ26 SN ⟨rfl, rfl⟩ rfl
              have sc27 := cG_c S27 (by decide)
              show t_X d 234 97 lv20 [] g27 P
              refine t_0 qrc_97 rfl rfl ?_
              refine t_5 qrc_98 rfl rfl ?_
              exact h1 _ hJ27 S27 (by omega) (by omega) (by omega)
            · show t_X d 234 82 lv20 [oI (0)] g50024 P
              refine tz_ne qrc_82 (by decide) ⟨by omega, by omega⟩ (fun c28 => absurd c28 (by omega)) (fun c28 => ?_)
              show t_X d 234 85 lv20 [] g50024 P
              refine t_0 qrc_85 rfl rfl ?_
              refine t_5 qrc_86 rfl rfl ?_
              exact h2 _ hJ50024
          · show t_X d 234 58 lv20 [] g1 P
            refine t_0 qrc_58 rfl (ld_a l0) ?_
            refine t_0 qrc_59 rfl rfl ?_
            refine t_0 qrc_60 rfl (ld_a l0) ?_
            have r29 := fF_b g1 18
            refine t_0 qrc_61 rfl (pq_gf (y := 18) rfl) ?_
            refine t_3 qrc_64 rfl (ar := ([pvR 196, oI (1), oI (fF g1 18)], [])) (pcal_v2 rfl rfl el_196) ⟨by omega, Nat.le_of_ble_eq_true rfl, Nat.le_of_ble_eq_true rfl, rfl⟩ ?_
            refine wr_run hJ1 w_20 (fun g30 hJ30 f30 a30 => ?_) rfl rfl rfl
            have q30_18 := f30 18 (by decide)
            have q30_19 := f30 19 (by decide)
            have q30_32 := f30 32 (by decide)
            have q30_33 := f30 33 (by decide)
            show t_X d 234 67 lv20 [oI (0)] g30 P
            refine t_5 qrc_67 rfl rfl ?_
            exact h2 _ hJ30
      · show t_X d 234 32 lv [] g1 P
        refine t_0 qrc_32 rfl (pq_b (by decide)) ?_
        refine t_1 qrc_34 rfl (pb_goto (pc := 34) (by decide)) ?_
        show t_X d 234 52 lv [oI (8)] g1 P
        refine t_2 qrc_52 rfl (w := (px_s1 lv 1 (oI (8)), [])) rfl ?_
        replace l0 : px_lg (px_s1 lv 1 (oI (8))) 0 = some (pvR 196) := s1_ne (by decide) (fun _ => rfl) l0
        have l1 : px_lg (px_s1 lv 1 (oI (8))) 1 = some (oI (8)) := s1_eq
        generalize px_s1 lv 1 (oI (8)) = lv31 at l0 l1 ⊢
        show t_X d 234 53 lv31 [] g1 P
        refine t_0 qrc_53 rfl (ld_i l1) ?_
        refine t_0 qrc_54 rfl rfl ?_
        refine tb_ne qrc_55 (by decide) ⟨by omega, by omega⟩ ⟨by omega, by omega⟩ (fun c32 => ?_) (fun c32 => ?_)
        · show t_X d 234 68 lv31 [] g1 P
          refine t_0 qrc_68 rfl (ld_a l0) ?_
          refine t_0 qrc_69 rfl (ld_a l0) ?_
          have r33 := fF_b g1 18
          refine t_0 qrc_70 rfl (pq_gf (y := 18) rfl) ?_
          refine t_0 qrc_73 rfl rfl ?_
          refine t_0 qrc_74 rfl pq_add ?_
          refine tw_f qrc_75 rfl hJ1 w_18 gf_18 (by decide) ⟨by omega, by omega⟩ (fun g34 hJ34 v34 f34 a34 => ?_)
          replace a34 := fA_2 a34
          have q34_19 := f34 19 (by decide)
          have q34_32 := f34 32 (by decide)
          have q34_33 := f34 33 (by decide)
          show t_X d 234 78 lv31 [] g34 P
          have e18 : fF g34 18 = fF g1 18 + 1 := by omega
          have SZ : cG a f0 1 g34 1 := by
            unfold cG
            rw [e18, show fF g34 32 = fF g1 32 by omega, show fF g34 33 = fF g1 33 by omega, a34]
            exact cJ_p S1 ⟨by omega, by omega⟩ (by omega)
          have scz := cG_c SZ (by decide)
          refine t_0 qrc_78 rfl (ld_a l0) ?_
          refine t_3 qrc_79 rfl (ar := ([pvR 196], [])) (pcal_v0 rfl rfl el_196) ⟨by omega, Nat.le_of_ble_eq_true rfl, Nat.le_of_ble_eq_true rfl, rfl⟩ ?_
          refine sm_run (by omega) hJ34 (c0 := (fF g34 32).toNat) (b := (fF g34 33).toNat) (by omega) (by omega) ⟨by omega, by omega, by omega⟩ (by omega) (fun j hj => ?_) (fun g35 hJ35 G35 w35 p35 u35 x35 => ?_) (fun g50035 hJ50035 => ?_) rfl
          · have hy := SZ.2.2.1 j (by omega)
            exact ⟨hy.1, hy.2.1⟩
          · have S35 : cG a f0 1 g35 (1 + 1) := by
              have hw9 : fF g35 33 = fF g34 33 := by omega
              unfold sG at G35
              rw [hw9] at G35
              unfold cG
              rw [hw9]
              exact cJ_sum SZ (by omega) (by omega) G35
            have sc35 := cG_c S35 (by omega)
            show t_X d 234 82 lv31 [oI (1)] g35 P
            refine tz_ne qrc_82 (by decide) ⟨by omega, by omega⟩ (fun c36 => ?_) (fun c36 => absurd c36 (by omega))
            show t_X d 234 87 lv31 [] g35 P
            refine t_0 qrc_87 rfl (ld_a l0) ?_
            refine t_0 qrc_88 rfl (ld_i l1) ?_
            refine t_0 qrc_89 rfl rfl ?_
            refine t_3 qrc_90 rfl (ar := ([pvR 196, oI (8), oI (0)], [])) (pcal_v2 rfl rfl el_196) ⟨by omega, Nat.le_of_ble_eq_true rfl, Nat.le_of_ble_eq_true rfl, rfl⟩ ?_
            refine nt_run hJ35 ⟨by omega, by omega⟩ ⟨by omega, by omega⟩ ⟨by omega, by omega⟩ (fun g37 hJ37 n37 f37 x37 y37 a37 => ?_) rfl rfl rfl
            have q37_18 := f37 18 (by decide)
            have q37_19 := f37 19 (by decide)
            have q37_33 := f37 33 (by decide)
            show t_X d 234 93 lv31 [] g37 P
            have SN : cG a f0 0 g37 1 := by
              unfold cG
              rw [show fF g37 18 = fF g35 18 by omega, n37, show fF g37 33 = fF g35 33 by omega, a37 217 (by decide)]
              exact cJ_note S35 (w2 := fF g35 33) (x := 1048576 * 8 + 0) (Or.inl ⟨rfl, by omega, by omega, rfl, rfl⟩) (by omega) x37 y37
            have scn := cG_c SN (by decide)
            refine t_0 qrc_93 rfl (ld_a l0) ?_
            refine t_3 qrc_94 rfl (ar := ([pvR 196], [])) (pcal_v0 rfl rfl el_196) ⟨by omega, Nat.le_of_ble_eq_true rfl, Nat.le_of_ble_eq_true rfl, rfl⟩ ?_
            refine ep_loop (by omega) (gs := g37) (a := a) (f0 := f0) (fun g38 hJ38 S38 p38 u38 => ?_) 260 _ _ (by omega) hJ37 SN ⟨rfl, rfl⟩ rfl
            have sc38 := cG_c S38 (by decide)
            show t_X d 234 97 lv31 [] g38 P
            refine t_0 qrc_97 rfl rfl ?_
            refine t_5 qrc_98 rfl rfl ?_
            exact h1 _ hJ38 S38 (by omega) (by omega) (by omega)
          · show t_X d 234 82 lv31 [oI (0)] g50035 P
            refine tz_ne qrc_82 (by decide) ⟨by omega, by omega⟩ (fun c39 => absurd c39 (by omega)) (fun c39 => ?_)
            show t_X d 234 85 lv31 [] g50035 P
            refine t_0 qrc_85 rfl rfl ?_
            refine t_5 qrc_86 rfl rfl ?_
            exact h2 _ hJ50035
        · show t_X d 234 58 lv31 [] g1 P
          refine t_0 qrc_58 rfl (ld_a l0) ?_
          refine t_0 qrc_59 rfl rfl ?_
          refine t_0 qrc_60 rfl (ld_a l0) ?_
          have r40 := fF_b g1 18
          refine t_0 qrc_61 rfl (pq_gf (y := 18) rfl) ?_
          refine t_3 qrc_64 rfl (ar := ([pvR 196, oI (1), oI (fF g1 18)], [])) (pcal_v2 rfl rfl el_196) ⟨by omega, Nat.le_of_ble_eq_true rfl, Nat.le_of_ble_eq_true rfl, rfl⟩ ?_
          refine wr_run hJ1 w_20 (fun g41 hJ41 f41 a41 => ?_) rfl rfl rfl
          have q41_18 := f41 18 (by decide)
          have q41_19 := f41 19 (by decide)
          have q41_32 := f41 32 (by decide)
          have q41_33 := f41 33 (by decide)
          show t_X d 234 67 lv31 [oI (0)] g41 P
          refine t_5 qrc_67 rfl rfl ?_
          exact h2 _ hJ41
    · show t_X d 234 18 lv [] g1 P
      refine t_0 qrc_18 rfl (pq_b (by decide)) ?_
      refine t_1 qrc_20 rfl (pb_goto (pc := 20) (by decide)) ?_
      show t_X d 234 52 lv [oI (7)] g1 P
      refine t_2 qrc_52 rfl (w := (px_s1 lv 1 (oI (7)), [])) rfl ?_
      replace l0 : px_lg (px_s1 lv 1 (oI (7))) 0 = some (pvR 196) := s1_ne (by decide) (fun _ => rfl) l0
      have l1 : px_lg (px_s1 lv 1 (oI (7))) 1 = some (oI (7)) := s1_eq
      generalize px_s1 lv 1 (oI (7)) = lv42 at l0 l1 ⊢
      show t_X d 234 53 lv42 [] g1 P
      refine t_0 qrc_53 rfl (ld_i l1) ?_
      refine t_0 qrc_54 rfl rfl ?_
      refine tb_ne qrc_55 (by decide) ⟨by omega, by omega⟩ ⟨by omega, by omega⟩ (fun c43 => ?_) (fun c43 => ?_)
      · show t_X d 234 68 lv42 [] g1 P
        refine t_0 qrc_68 rfl (ld_a l0) ?_
        refine t_0 qrc_69 rfl (ld_a l0) ?_
        have r44 := fF_b g1 18
        refine t_0 qrc_70 rfl (pq_gf (y := 18) rfl) ?_
        refine t_0 qrc_73 rfl rfl ?_
        refine t_0 qrc_74 rfl pq_add ?_
        refine tw_f qrc_75 rfl hJ1 w_18 gf_18 (by decide) ⟨by omega, by omega⟩ (fun g45 hJ45 v45 f45 a45 => ?_)
        replace a45 := fA_2 a45
        have q45_19 := f45 19 (by decide)
        have q45_32 := f45 32 (by decide)
        have q45_33 := f45 33 (by decide)
        show t_X d 234 78 lv42 [] g45 P
        have e18 : fF g45 18 = fF g1 18 + 1 := by omega
        have SZ : cG a f0 1 g45 1 := by
          unfold cG
          rw [e18, show fF g45 32 = fF g1 32 by omega, show fF g45 33 = fF g1 33 by omega, a45]
          exact cJ_p S1 ⟨by omega, by omega⟩ (by omega)
        have scz := cG_c SZ (by decide)
        refine t_0 qrc_78 rfl (ld_a l0) ?_
        refine t_3 qrc_79 rfl (ar := ([pvR 196], [])) (pcal_v0 rfl rfl el_196) ⟨by omega, Nat.le_of_ble_eq_true rfl, Nat.le_of_ble_eq_true rfl, rfl⟩ ?_
        refine sm_run (by omega) hJ45 (c0 := (fF g45 32).toNat) (b := (fF g45 33).toNat) (by omega) (by omega) ⟨by omega, by omega, by omega⟩ (by omega) (fun j hj => ?_) (fun g46 hJ46 G46 w46 p46 u46 x46 => ?_) (fun g50046 hJ50046 => ?_) rfl
        · have hy := SZ.2.2.1 j (by omega)
          exact ⟨hy.1, hy.2.1⟩
        · have S46 : cG a f0 1 g46 (1 + 1) := by
            have hw9 : fF g46 33 = fF g45 33 := by omega
            unfold sG at G46
            rw [hw9] at G46
            unfold cG
            rw [hw9]
            exact cJ_sum SZ (by omega) (by omega) G46
          have sc46 := cG_c S46 (by omega)
          show t_X d 234 82 lv42 [oI (1)] g46 P
          refine tz_ne qrc_82 (by decide) ⟨by omega, by omega⟩ (fun c47 => ?_) (fun c47 => absurd c47 (by omega))
          show t_X d 234 87 lv42 [] g46 P
          refine t_0 qrc_87 rfl (ld_a l0) ?_
          refine t_0 qrc_88 rfl (ld_i l1) ?_
          refine t_0 qrc_89 rfl rfl ?_
          refine t_3 qrc_90 rfl (ar := ([pvR 196, oI (7), oI (0)], [])) (pcal_v2 rfl rfl el_196) ⟨by omega, Nat.le_of_ble_eq_true rfl, Nat.le_of_ble_eq_true rfl, rfl⟩ ?_
          refine nt_run hJ46 ⟨by omega, by omega⟩ ⟨by omega, by omega⟩ ⟨by omega, by omega⟩ (fun g48 hJ48 n48 f48 x48 y48 a48 => ?_) rfl rfl rfl
          have q48_18 := f48 18 (by decide)
          have q48_19 := f48 19 (by decide)
          have q48_33 := f48 33 (by decide)
          show t_X d 234 93 lv42 [] g48 P
          have SN : cG a f0 0 g48 1 := by
            unfold cG
            rw [show fF g48 18 = fF g46 18 by omega, n48, show fF g48 33 = fF g46 33 by omega, a48 217 (by decide)]
            exact cJ_note S46 (w2 := fF g46 33) (x := 1048576 * 7 + 0) (Or.inl ⟨rfl, by omega, by omega, rfl, rfl⟩) (by omega) x48 y48
          have scn := cG_c SN (by decide)
          refine t_0 qrc_93 rfl (ld_a l0) ?_
          refine t_3 qrc_94 rfl (ar := ([pvR 196], [])) (pcal_v0 rfl rfl el_196) ⟨by omega, Nat.le_of_ble_eq_true rfl, Nat.le_of_ble_eq_true rfl, rfl⟩ ?_
          refine ep_loop (by omega) (gs := g48) (a := a) (f0 := f0) (fun g49 hJ49 S49 p49 u49 => ?_) 260 _ _ (by omega) hJ48 SN ⟨rfl, rfl⟩ rfl
          have sc49 := cG_c S49 (by decide)
          show t_X d 234 97 lv42 [] g49 P
          refine t_0 qrc_97 rfl rfl ?_
          refine t_5 qrc_98 rfl rfl ?_
          exact h1 _ hJ49 S49 (by omega) (by omega) (by omega)
        · show t_X d 234 82 lv42 [oI (0)] g50046 P
          refine tz_ne qrc_82 (by decide) ⟨by omega, by omega⟩ (fun c50 => absurd c50 (by omega)) (fun c50 => ?_)
          show t_X d 234 85 lv42 [] g50046 P
          refine t_0 qrc_85 rfl rfl ?_
          refine t_5 qrc_86 rfl rfl ?_
          exact h2 _ hJ50046
      · show t_X d 234 58 lv42 [] g1 P
        refine t_0 qrc_58 rfl (ld_a l0) ?_
        refine t_0 qrc_59 rfl rfl ?_
        refine t_0 qrc_60 rfl (ld_a l0) ?_
        have r51 := fF_b g1 18
        refine t_0 qrc_61 rfl (pq_gf (y := 18) rfl) ?_
        refine t_3 qrc_64 rfl (ar := ([pvR 196, oI (1), oI (fF g1 18)], [])) (pcal_v2 rfl rfl el_196) ⟨by omega, Nat.le_of_ble_eq_true rfl, Nat.le_of_ble_eq_true rfl, rfl⟩ ?_
        refine wr_run hJ1 w_20 (fun g52 hJ52 f52 a52 => ?_) rfl rfl rfl
        have q52_18 := f52 18 (by decide)
        have q52_19 := f52 19 (by decide)
        have q52_32 := f52 32 (by decide)
        have q52_33 := f52 33 (by decide)
        show t_X d 234 67 lv42 [oI (0)] g52 P
        refine t_5 qrc_67 rfl rfl ?_
        exact h2 _ hJ52
  · show t_X d 234 4 lv [oI (0)] g50001 P
    refine tz_ne qrc_4 (by decide) ⟨by omega, by omega⟩ (fun c53 => absurd c53 (by omega)) (fun c53 => ?_)
    show t_X d 234 7 lv [] g50001 P
    refine t_0 qrc_7 rfl rfl ?_
    refine t_5 qrc_8 rfl rfl ?_
    exact h2 _ hJ50001
set_option maxHeartbeats 16000000 in
theorem cn_b {d : Nat} (hd : 7 ≤ d) {h0 gs : pH} (hgs : 0 ≤ fF gs 18 ∧ fF gs 19 ≤ 240) {a : Nat} {f0 : Nat → Int} {P : Option pv × pH → Prop} (h1 : ∀ g1 : pH, J_ Wu h0 g1 → (∃ D, cOK (fA g1 216) D a (fF g1 32)) → (∀ k, k < a → fA g1 216 k = f0 k) → (a : Int) ≤ fF g1 32 ∧ fF g1 32 ≤ fF g1 18 → fF gs 18 < fF g1 18 → fF g1 18 ≤ fF g1 19 → fF g1 19 = fF gs 19 → P (some (oI 1), g1)) (h2 : ∀ g1 : pH, J_ Wu h0 g1 → P (some (oI 0), g1)) {M : Nat} (hC : ∀ (g : pH) (lv : List (Nat × pv)), J_ Wu h0 g → cG a f0 0 g 0 → (fF gs 19 - fF g 18 ≤ M ∧ fF gs 18 < fF g 18 ∧ fF g 18 ≤ fF g 19 ∧ fF g 19 = fF gs 19) → px_lg lv 0 = some (pvR 196) → t_X d 235 40 lv [] g P) : ∀ (m : Nat) (g : pH) (lv : List (Nat × pv)), fF gs 19 + 1 - fF g 18 ≤ m → J_ Wu h0 g → cG a f0 0 g 1 → (fF gs 19 - fF g 18 ≤ M ∧ fF gs 18 < fF g 18 ∧ fF g 18 ≤ fF g 19 ∧ fF g 19 = fF gs 19) → px_lg lv 0 = some (pvR 196) → t_X d 235 92 lv [] g P := by
  obtain ⟨w_18, w_20, w_21, w_31, w_32, w_33, w_a216, w_a217, z_19⟩ := Wu_f
  intro m
  induction m with
  | zero =>
    intro g lv hm hJ hs hp l0
    omega
  | succ m ih =>
    intro g lv hm hJ hs hp l0
    have hsc := cG_c hs (by decide)
    refine t_0 qcn_92 rfl (ld_a l0) ?_
    refine t_3 qcn_93 rfl (ar := ([pvR 196], [])) (pcal_v0 rfl rfl el_196) ⟨by omega, Nat.le_of_ble_eq_true rfl, Nat.le_of_ble_eq_true rfl, rfl⟩ ?_
    refine he_run hJ.1 (by omega) (by omega) ?_ rfl
    have hv1 := hV_b g
    have hn1 := hV_n g
    show t_X d 235 96 lv [oI (hV g)] g P
    refine t_0 qcn_96 rfl (pq_b (by decide)) ?_
    refine tb_ne qcn_98 (by decide) ⟨by omega, by omega⟩ ⟨by omega, by omega⟩ (fun c2 => ?_) (fun c2 => ?_)
    · show t_X d 235 152 lv [] g P
      refine t_0 qcn_152 rfl (ld_a l0) ?_
      refine t_3 qcn_153 rfl (ar := ([pvR 196], [])) (pcal_v0 rfl rfl el_196) ⟨by omega, Nat.le_of_ble_eq_true rfl, Nat.le_of_ble_eq_true rfl, rfl⟩ ?_
      refine he_run hJ.1 (by omega) (by omega) ?_ rfl
      have hv3 := hV_b g
      have hn3 := hV_n g
      show t_X d 235 156 lv [oI (hV g)] g P
      refine t_0 qcn_156 rfl (pq_b (by decide)) ?_
      refine tb_eq qcn_158 (by decide) ⟨by omega, by omega⟩ ⟨by omega, by omega⟩ (fun c4 => ?_) (fun c4 => ?_)
      · show t_X d 235 180 lv [] g P
        refine t_0 qcn_180 rfl (ld_a l0) ?_
        refine t_0 qcn_181 rfl (ld_a l0) ?_
        refine t_3 qcn_182 rfl (ar := ([pvR 196], [pvR 196])) (pcal_v0 rfl rfl el_196) ⟨by omega, Nat.le_of_ble_eq_true rfl, Nat.le_of_ble_eq_true rfl, rfl⟩ ?_
        refine he_run hJ.1 (by omega) (by omega) ?_ rfl
        have hv5 := hV_b g
        have hn5 := hV_n g
        show t_X d 235 185 lv [oI (hV g), pvR 196] g P
        refine t_0 qcn_185 rfl (pq_b (by decide)) ?_
        refine tb_ne qcn_187 (by decide) ⟨by omega, by omega⟩ ⟨by omega, by omega⟩ (fun c6 => ?_) (fun c6 => ?_)
        · show t_X d 235 194 lv [pvR 196] g P
          refine t_0 qcn_194 rfl rfl ?_
          refine t_3 qcn_195 rfl (ar := ([pvR 196, oI (0)], [])) (pcal_v1 rfl rfl el_196) ⟨by omega, Nat.le_of_ble_eq_true rfl, Nat.le_of_ble_eq_true rfl, rfl⟩ ?_
          refine ln_loop (by omega) (gs := g) (a := a) (f0 := f0) (al := 0) (by omega) (fun g7 hJ7 S7 p7 u7 c7 t7 => ?_) 260 _ _ (by omega) hJ hs ⟨rfl, rfl, rfl⟩ rfl rfl
          have sc7 := cG_c S7 (by decide)
          show t_X d 235 198 lv [] g7 P
          refine t_0 qcn_198 rfl (ld_a l0) ?_
          refine t_0 qcn_199 rfl (ld_a l0) ?_
          refine t_3 qcn_200 rfl (ar := ([pvR 196], [pvR 196])) (pcal_v0 rfl rfl el_196) ⟨by omega, Nat.le_of_ble_eq_true rfl, Nat.le_of_ble_eq_true rfl, rfl⟩ ?_
          refine he_run hJ7.1 (by omega) (by omega) ?_ rfl
          have hv8 := hV_b g7
          have hn8 := hV_n g7
          show t_X d 235 203 lv [oI (hV g7), pvR 196] g7 P
          refine t_0 qcn_203 rfl (pq_b (by decide)) ?_
          refine tb_ne qcn_205 (by decide) ⟨by omega, by omega⟩ ⟨by omega, by omega⟩ (fun c9 => ?_) (fun c9 => ?_)
          · show t_X d 235 213 lv [pvR 196] g7 P
            refine t_0 qcn_213 rfl (pq_b (by decide)) ?_
            refine t_3 qcn_215 rfl (ar := ([pvR 196, oI (12)], [])) (pcal_v1 rfl rfl el_196) ⟨by omega, Nat.le_of_ble_eq_true rfl, Nat.le_of_ble_eq_true rfl, rfl⟩ ?_
            refine jm_run (by omega) (a := a) (f0 := f0) (by omega) hJ7 S7 ⟨by omega, by omega⟩ (fun g10 hJ10 S10 p10 u10 => ?_) rfl rfl
            have sc10 := cG_c S10 (by decide)
            show t_X d 235 218 lv [] g10 P
            refine t_1 qcn_218 rfl (pb_goto (pc := 218) (by decide)) ?_
            show t_X d 235 40 lv [] g10 P
            exact hC _ _ hJ10 S10 ⟨by omega, by omega, by omega, by omega⟩ l0
          · show t_X d 235 208 lv [pvR 196] g7 P
            refine t_0 qcn_208 rfl (pq_b (by decide)) ?_
            refine t_1 qcn_210 rfl (pb_goto (pc := 210) (by decide)) ?_
            show t_X d 235 215 lv [oI (11), pvR 196] g7 P
            refine t_3 qcn_215 rfl (ar := ([pvR 196, oI (11)], [])) (pcal_v1 rfl rfl el_196) ⟨by omega, Nat.le_of_ble_eq_true rfl, Nat.le_of_ble_eq_true rfl, rfl⟩ ?_
            refine jm_run (by omega) (a := a) (f0 := f0) (by omega) hJ7 S7 ⟨by omega, by omega⟩ (fun g11 hJ11 S11 p11 u11 => ?_) rfl rfl
            have sc11 := cG_c S11 (by decide)
            show t_X d 235 218 lv [] g11 P
            refine t_1 qcn_218 rfl (pb_goto (pc := 218) (by decide)) ?_
            show t_X d 235 40 lv [] g11 P
            exact hC _ _ hJ11 S11 ⟨by omega, by omega, by omega, by omega⟩ l0
        · show t_X d 235 190 lv [pvR 196] g P
          refine t_0 qcn_190 rfl rfl ?_
          refine t_1 qcn_191 rfl (pb_goto (pc := 191) (by decide)) ?_
          show t_X d 235 195 lv [oI (1), pvR 196] g P
          refine t_3 qcn_195 rfl (ar := ([pvR 196, oI (1)], [])) (pcal_v1 rfl rfl el_196) ⟨by omega, Nat.le_of_ble_eq_true rfl, Nat.le_of_ble_eq_true rfl, rfl⟩ ?_
          refine ln_loop (by omega) (gs := g) (a := a) (f0 := f0) (al := 1) (by omega) (fun g12 hJ12 S12 p12 u12 c12 t12 => ?_) 260 _ _ (by omega) hJ hs ⟨rfl, rfl, rfl⟩ rfl rfl
          have sc12 := cG_c S12 (by decide)
          show t_X d 235 198 lv [] g12 P
          refine t_0 qcn_198 rfl (ld_a l0) ?_
          refine t_0 qcn_199 rfl (ld_a l0) ?_
          refine t_3 qcn_200 rfl (ar := ([pvR 196], [pvR 196])) (pcal_v0 rfl rfl el_196) ⟨by omega, Nat.le_of_ble_eq_true rfl, Nat.le_of_ble_eq_true rfl, rfl⟩ ?_
          refine he_run hJ12.1 (by omega) (by omega) ?_ rfl
          have hv13 := hV_b g12
          have hn13 := hV_n g12
          show t_X d 235 203 lv [oI (hV g12), pvR 196] g12 P
          refine t_0 qcn_203 rfl (pq_b (by decide)) ?_
          refine tb_ne qcn_205 (by decide) ⟨by omega, by omega⟩ ⟨by omega, by omega⟩ (fun c14 => ?_) (fun c14 => ?_)
          · show t_X d 235 213 lv [pvR 196] g12 P
            refine t_0 qcn_213 rfl (pq_b (by decide)) ?_
            refine t_3 qcn_215 rfl (ar := ([pvR 196, oI (12)], [])) (pcal_v1 rfl rfl el_196) ⟨by omega, Nat.le_of_ble_eq_true rfl, Nat.le_of_ble_eq_true rfl, rfl⟩ ?_
            refine jm_run (by omega) (a := a) (f0 := f0) (by omega) hJ12 S12 ⟨by omega, by omega⟩ (fun g15 hJ15 S15 p15 u15 => ?_) rfl rfl
            have sc15 := cG_c S15 (by decide)
            show t_X d 235 218 lv [] g15 P
            refine t_1 qcn_218 rfl (pb_goto (pc := 218) (by decide)) ?_
            show t_X d 235 40 lv [] g15 P
            exact hC _ _ hJ15 S15 ⟨by omega, by omega, by omega, by omega⟩ l0
          · show t_X d 235 208 lv [pvR 196] g12 P
            refine t_0 qcn_208 rfl (pq_b (by decide)) ?_
            refine t_1 qcn_210 rfl (pb_goto (pc := 210) (by decide)) ?_
            show t_X d 235 215 lv [oI (11), pvR 196] g12 P
            refine t_3 qcn_215 rfl (ar := ([pvR 196, oI (11)], [])) (pcal_v1 rfl rfl el_196) ⟨by omega, Nat.le_of_ble_eq_true rfl, Nat.le_of_ble_eq_true rfl, rfl⟩ ?_
            refine jm_run (by omega) (a := a) (f0 := f0) (by omega) hJ12 S12 ⟨by omega, by omega⟩ (fun g16 hJ16 S16 p16 u16 => ?_) rfl rfl
            have sc16 := cG_c S16 (by decide)
            show t_X d 235 218 lv [] g16 P
            refine t_1 qcn_218 rfl (pb_goto (pc := 218) (by decide)) ?_
            show t_X d 235 40 lv [] g16 P
            exact hC _ _ hJ16 S16 ⟨by omega, by omega, by omega, by omega⟩ l0
      · show t_X d 235 161 lv [] g P
        refine t_0 qcn_161 rfl (ld_a l0) ?_
        refine t_3 qcn_162 rfl (ar := ([pvR 196], [])) (pcal_v0 rfl rfl el_196) ⟨by omega, Nat.le_of_ble_eq_true rfl, Nat.le_of_ble_eq_true rfl, rfl⟩ ?_
        refine he_run hJ.1 (by omega) (by omega) ?_ rfl
        have hv17 := hV_b g
        have hn17 := hV_n g
        show t_X d 235 165 lv [oI (hV g)] g P
        refine t_0 qcn_165 rfl (pq_b (by decide)) ?_
        refine tb_eq qcn_167 (by decide) ⟨by omega, by omega⟩ ⟨by omega, by omega⟩ (fun c18 => ?_) (fun c18 => ?_)
        · show t_X d 235 180 lv [] g P
          refine t_0 qcn_180 rfl (ld_a l0) ?_
          refine t_0 qcn_181 rfl (ld_a l0) ?_
          refine t_3 qcn_182 rfl (ar := ([pvR 196], [pvR 196])) (pcal_v0 rfl rfl el_196) ⟨by omega, Nat.le_of_ble_eq_true rfl, Nat.le_of_ble_eq_true rfl, rfl⟩ ?_
          refine he_run hJ.1 (by omega) (by omega) ?_ rfl
          have hv19 := hV_b g
          have hn19 := hV_n g
          show t_X d 235 185 lv [oI (hV g), pvR 196] g P
          refine t_0 qcn_185 rfl (pq_b (by decide)) ?_
          refine tb_ne qcn_187 (by decide) ⟨by omega, by omega⟩ ⟨by omega, by omega⟩ (fun c20 => ?_) (fun c20 => ?_)
          · show t_X d 235 194 lv [pvR 196] g P
            refine t_0 qcn_194 rfl rfl ?_
            refine t_3 qcn_195 rfl (ar := ([pvR 196, oI (0)], [])) (pcal_v1 rfl rfl el_196) ⟨by omega, Nat.le_of_ble_eq_true rfl, Nat.le_of_ble_eq_true rfl, rfl⟩ ?_
            refine ln_loop (by omega) (gs := g) (a := a) (f0 := f0) (al := 0) (by omega) (fun g21 hJ21 S21 p21 u21 c21 t21 => ?_) 260 _ _ (by omega) hJ hs ⟨rfl, rfl, rfl⟩ rfl rfl
            have sc21 := cG_c S21 (by decide)
            show t_X d 235 198 lv [] g21 P
            refine t_0 qcn_198 rfl (ld_a l0) ?_
            refine t_0 qcn_199 rfl (ld_a l0) ?_
            refine t_3 qcn_200 rfl (ar := ([pvR 196], [pvR 196])) (pcal_v0 rfl rfl el_196) ⟨by omega, Nat.le_of_ble_eq_true rfl, Nat.le_of_ble_eq_true rfl, rfl⟩ ?_
            refine he_run hJ21.1 (by omega) (by omega) ?_ rfl
            have hv22 := hV_b g21
            have hn22 := hV_n g21
            show t_X d 235 203 lv [oI (hV g21), pvR 196] g21 P
            refine t_0 qcn_203 rfl (pq_b (by decide)) ?_
            refine tb_ne qcn_205 (by decide) ⟨by omega, by omega⟩ ⟨by omega, by omega⟩ (fun c23 => ?_) (fun c23 => ?_)
            · show t_X d 235 213 lv [pvR 196] g21 P
              refine t_0 qcn_213 rfl (pq_b (by decide)) ?_
              refine t_3 qcn_215 rfl (ar := ([pvR 196, oI (12)], [])) (pcal_v1 rfl rfl el_196) ⟨by omega, Nat.le_of_ble_eq_true rfl, Nat.le_of_ble_eq_true rfl, rfl⟩ ?_
              refine jm_run (by omega) (a := a) (f0 := f0) (by omega) hJ21 S21 ⟨by omega, by omega⟩ (fun g24 hJ24 S24 p24 u24 => ?_) rfl rfl
              have sc24 := cG_c S24 (by decide)
              show t_X d 235 218 lv [] g24 P
              refine t_1 qcn_218 rfl (pb_goto (pc := 218) (by decide)) ?_
              show t_X d 235 40 lv [] g24 P
              exact hC _ _ hJ24 S24 ⟨by omega, by omega, by omega, by omega⟩ l0
            · show t_X d 235 208 lv [pvR 196] g21 P
              refine t_0 qcn_208 rfl (pq_b (by decide)) ?_
              refine t_1 qcn_210 rfl (pb_goto (pc := 210) (by decide)) ?_
              show t_X d 235 215 lv [oI (11), pvR 196] g21 P
              refine t_3 qcn_215 rfl (ar := ([pvR 196, oI (11)], [])) (pcal_v1 rfl rfl el_196) ⟨by omega, Nat.le_of_ble_eq_true rfl, Nat.le_of_ble_eq_true rfl, rfl⟩ ?_
              refine jm_run (by omega) (a := a) (f0 := f0) (by omega) hJ21 S21 ⟨by omega, by omega⟩ (fun g25 hJ25 S25 p25 u25 => ?_) rfl rfl
              have sc25 := cG_c S25 (by decide)
              show t_X d 235 218 lv [] g25 P
              refine t_1 qcn_218 rfl (pb_goto (pc := 218) (by decide)) ?_
              show t_X d 235 40 lv [] g25 P
              exact hC _ _ hJ25 S25 ⟨by omega, by omega, by omega, by omega⟩ l0
          · show t_X d 235 190 lv [pvR 196] g P
            refine t_0 qcn_190 rfl rfl ?_
            refine t_1 qcn_191 rfl (pb_goto (pc := 191) (by decide)) ?_
            show t_X d 235 195 lv [oI (1), pvR 196] g P
            refine t_3 qcn_195 rfl (ar := ([pvR 196, oI (1)], [])) (pcal_v1 rfl rfl el_196) ⟨by omega, Nat.le_of_ble_eq_true rfl, Nat.le_of_ble_eq_true rfl, rfl⟩ ?_
            refine ln_loop (by omega) (gs := g) (a := a) (f0 := f0) (al := 1) (by omega) (fun g26 hJ26 S26 p26 u26 c26 t26 => ?_) 260 _ _ (by omega) hJ hs ⟨rfl, rfl, rfl⟩ rfl rfl
            have sc26 := cG_c S26 (by decide)
            show t_X d 235 198 lv [] g26 P
            refine t_0 qcn_198 rfl (ld_a l0) ?_
            refine t_0 qcn_199 rfl (ld_a l0) ?_
            refine t_3 qcn_200 rfl (ar := ([pvR 196], [pvR 196])) (pcal_v0 rfl rfl el_196) ⟨by omega, Nat.le_of_ble_eq_true rfl, Nat.le_of_ble_eq_true rfl, rfl⟩ ?_
            refine he_run hJ26.1 (by omega) (by omega) ?_ rfl
            have hv27 := hV_b g26
            have hn27 := hV_n g26
            show t_X d 235 203 lv [oI (hV g26), pvR 196] g26 P
            refine t_0 qcn_203 rfl (pq_b (by decide)) ?_
            refine tb_ne qcn_205 (by decide) ⟨by omega, by omega⟩ ⟨by omega, by omega⟩ (fun c28 => ?_) (fun c28 => ?_)
            · show t_X d 235 213 lv [pvR 196] g26 P
              refine t_0 qcn_213 rfl (pq_b (by decide)) ?_
              refine t_3 qcn_215 rfl (ar := ([pvR 196, oI (12)], [])) (pcal_v1 rfl rfl el_196) ⟨by omega, Nat.le_of_ble_eq_true rfl, Nat.le_of_ble_eq_true rfl, rfl⟩ ?_
              refine jm_run (by omega) (a := a) (f0 := f0) (by omega) hJ26 S26 ⟨by omega, by omega⟩ (fun g29 hJ29 S29 p29 u29 => ?_) rfl rfl
              have sc29 := cG_c S29 (by decide)
              show t_X d 235 218 lv [] g29 P
              refine t_1 qcn_218 rfl (pb_goto (pc := 218) (by decide)) ?_
              show t_X d 235 40 lv [] g29 P
              exact hC _ _ hJ29 S29 ⟨by omega, by omega, by omega, by omega⟩ l0
            · show t_X d 235 208 lv [pvR 196] g26 P
              refine t_0 qcn_208 rfl (pq_b (by decide)) ?_
              refine t_1 qcn_210 rfl (pb_goto (pc := 210) (by decide)) ?_
              show t_X d 235 215 lv [oI (11), pvR 196] g26 P
              refine t_3 qcn_215 rfl (ar := ([pvR 196, oI (11)], [])) (pcal_v1 rfl rfl el_196) ⟨by omega, Nat.le_of_ble_eq_true rfl, Nat.le_of_ble_eq_true rfl, rfl⟩ ?_
              refine jm_run (by omega) (a := a) (f0 := f0) (by omega) hJ26 S26 ⟨by omega, by omega⟩ (fun g30 hJ30 S30 p30 u30 => ?_) rfl rfl
              have sc30 := cG_c S30 (by decide)
              show t_X d 235 218 lv [] g30 P
              refine t_1 qcn_218 rfl (pb_goto (pc := 218) (by decide)) ?_
              show t_X d 235 40 lv [] g30 P
              exact hC _ _ hJ30 S30 ⟨by omega, by omega, by omega, by omega⟩ l0
        · show t_X d 235 170 lv [] g P
          refine t_0 qcn_170 rfl (ld_a l0) ?_
          refine t_0 qcn_171 rfl rfl ?_
          refine t_0 qcn_172 rfl (ld_a l0) ?_
          have r31 := fF_b g 18
          refine t_0 qcn_173 rfl (pq_gf (y := 18) rfl) ?_
          refine t_3 qcn_176 rfl (ar := ([pvR 196, oI (1), oI (fF g 18)], [])) (pcal_v2 rfl rfl el_196) ⟨by omega, Nat.le_of_ble_eq_true rfl, Nat.le_of_ble_eq_true rfl, rfl⟩ ?_
          refine wr_run hJ w_20 (fun g32 hJ32 f32 a32 => ?_) rfl rfl rfl
          have q32_18 := f32 18 (by decide)
          have q32_19 := f32 19 (by decide)
          have q32_32 := f32 32 (by decide)
          have q32_33 := f32 33 (by decide)
          show t_X d 235 179 lv [oI (0)] g32 P
          refine t_5 qcn_179 rfl rfl ?_
          exact h2 _ hJ32
    · show t_X d 235 101 lv [] g P
      refine t_0 qcn_101 rfl (ld_a l0) ?_
      refine t_0 qcn_102 rfl rfl ?_
      refine t_3 qcn_103 rfl (ar := ([pvR 196, oI (1)], [])) (pcal_v1 rfl rfl el_196) ⟨by omega, Nat.le_of_ble_eq_true rfl, Nat.le_of_ble_eq_true rfl, rfl⟩ ?_
      refine ln_loop (by omega) (gs := g) (a := a) (f0 := f0) (al := 1) (by omega) (fun g33 hJ33 S33 p33 u33 c33 t33 => ?_) 260 _ _ (by omega) hJ hs ⟨rfl, rfl, rfl⟩ rfl rfl
      have sc33 := cG_c S33 (by decide)
      show t_X d 235 106 lv [] g33 P
      refine t_0 qcn_106 rfl (ld_a l0) ?_
      refine t_0 qcn_107 rfl (ld_a l0) ?_
      have r34 := fF_b g33 33
      refine t_0 qcn_108 rfl (pq_gf (y := 33) rfl) ?_
      refine t_0 qcn_111 rfl rfl ?_
      refine t_0 qcn_112 rfl pq_sub ?_
      refine tw_f qcn_113 rfl hJ33 w_33 gf_33 (by decide) ⟨by omega, by omega⟩ (fun g35 hJ35 v35 f35 a35 => ?_)
      replace a35 := fA_2 a35
      have q35_18 := f35 18 (by decide)
      have q35_19 := f35 19 (by decide)
      have q35_32 := f35 32 (by decide)
      show t_X d 235 116 lv [] g35 P
      refine t_0 qcn_116 rfl (ld_a l0) ?_
      refine t_0 qcn_117 rfl (ld_a l0) ?_
      have r36 := fF_b g35 31
      refine t_0 qcn_118 rfl (pq_gf (y := 31) rfl) ?_
      refine t_0 qcn_121 rfl rfl ?_
      refine t_0 qcn_122 rfl pq_sub ?_
      refine tw_fx qcn_123 rfl hJ35 w_31 gf_31 (fun g37 hJ37 f37 a37 => ?_)
      replace a37 := fA_2 a37
      have q37_18 := f37 18 (by decide)
      have q37_19 := f37 19 (by decide)
      have q37_32 := f37 32 (by decide)
      have q37_33 := f37 33 (by decide)
      show t_X d 235 126 lv [] g37 P
      refine t_0 qcn_126 rfl (ld_a l0) ?_
      refine t_0 qcn_127 rfl (ld_a l0) ?_
      have r38 := fF_b g37 18
      refine t_0 qcn_128 rfl (pq_gf (y := 18) rfl) ?_
      refine t_0 qcn_131 rfl rfl ?_
      refine t_0 qcn_132 rfl pq_add ?_
      refine tw_f qcn_133 rfl hJ37 w_18 gf_18 (by decide) ⟨by omega, by omega⟩ (fun g39 hJ39 v39 f39 a39 => ?_)
      replace a39 := fA_2 a39
      have q39_19 := f39 19 (by decide)
      have q39_32 := f39 32 (by decide)
      have q39_33 := f39 33 (by decide)
      show t_X d 235 136 lv [] g39 P
      refine t_0 qcn_136 rfl (ld_a l0) ?_
      have r40 := fF_b g39 33
      refine t_0 qcn_137 rfl (pq_gf (y := 33) rfl) ?_
      refine tz_ne qcn_140 (by decide) ⟨by omega, by omega⟩ (fun c41 => ?_) (fun c41 => ?_)
      · show t_X d 235 145 lv [] g39 P
        have ea : fA g39 = fA g33 := by rw [a39, a37, a35]
        have SW : cG a f0 0 g39 1 := by
          unfold cG
          rw [ea, show fF g39 32 = fF g33 32 by omega, show fF g39 33 = fF g33 33 - 1 by omega]
          exact cJ_p (cJ_pop S33 (by omega) (by omega)) ⟨by omega, by omega⟩ (by omega)
        have scw := cG_c SW (by decide)
        refine t_0 qcn_145 rfl (ld_a l0) ?_
        refine t_3 qcn_146 rfl (ar := ([pvR 196], [])) (pcal_v0 rfl rfl el_196) ⟨by omega, Nat.le_of_ble_eq_true rfl, Nat.le_of_ble_eq_true rfl, rfl⟩ ?_
        refine ep_loop (by omega) (gs := g39) (a := a) (f0 := f0) (fun g42 hJ42 S42 p42 u42 => ?_) 260 _ _ (by omega) hJ39 SW ⟨rfl, rfl⟩ rfl
        have sc42 := cG_c S42 (by decide)
        show t_X d 235 149 lv [] g42 P
        refine t_1 qcn_149 rfl (pb_goto (pc := 149) (by decide)) ?_
        show t_X d 235 92 lv [] g42 P
        exact ih _ _ (by omega) hJ42 S42 ⟨by omega, by omega, by omega, by omega⟩ l0
      · show t_X d 235 143 lv [] g39 P
        refine t_0 qcn_143 rfl rfl ?_
        refine t_5 qcn_144 rfl rfl ?_
        have ea : fA g39 = fA g33 := by rw [a39, a37, a35]
        have w1 : fF g33 33 = 1 := by omega
        have e32 : fF g39 32 = fF g33 32 := by omega
        have hc := S33
        unfold cG at hc
        rw [w1] at hc
        refine h1 _ hJ39 ?_ (fun k hk => ?_) ⟨by omega, by omega⟩ (by omega) (by omega) (by omega)
        · rw [ea, e32]
          exact cJ_fin hc (by decide)
        · rw [ea]
          exact hc.2.1 k hk
set_option maxHeartbeats 16000000 in
theorem cn_a {d : Nat} (hd : 7 ≤ d) {h0 gs : pH} (hgs : 0 ≤ fF gs 18 ∧ fF gs 19 ≤ 240) {a : Nat} {f0 : Nat → Int} {P : Option pv × pH → Prop} (h1 : ∀ g1 : pH, J_ Wu h0 g1 → (∃ D, cOK (fA g1 216) D a (fF g1 32)) → (∀ k, k < a → fA g1 216 k = f0 k) → (a : Int) ≤ fF g1 32 ∧ fF g1 32 ≤ fF g1 18 → fF gs 18 < fF g1 18 → fF g1 18 ≤ fF g1 19 → fF g1 19 = fF gs 19 → P (some (oI 1), g1)) (h2 : ∀ g1 : pH, J_ Wu h0 g1 → P (some (oI 0), g1)) : ∀ (m : Nat) (g : pH) (lv : List (Nat × pv)), J_ Wu h0 g → cG a f0 0 g 0 → (fF gs 19 - fF g 18 ≤ m ∧ fF gs 18 < fF g 18 ∧ fF g 18 ≤ fF g 19 ∧ fF g 19 = fF gs 19) → px_lg lv 0 = some (pvR 196) → t_X d 235 40 lv [] g P := by
  obtain ⟨w_18, w_20, w_21, w_31, w_32, w_33, w_a216, w_a217, z_19⟩ := Wu_f
  intro m
  induction m with
  | zero =>
    intro g lv hJ hs hp l0
    have hsc := cG_c hs (by decide)
    refine t_0 qcn_40 rfl (ld_a l0) ?_
    refine t_3 qcn_41 rfl (ar := ([pvR 196], [])) (pcal_v0 rfl rfl el_196) ⟨by omega, Nat.le_of_ble_eq_true rfl, Nat.le_of_ble_eq_true rfl, rfl⟩ ?_
    refine he_run hJ.1 (by omega) (by omega) ?_ rfl
    have hv1 := hV_b g
    have hn1 := hV_n g
    show t_X d 235 44 lv [oI (hV g)] g P
    refine t_0 qcn_44 rfl (pq_b (by decide)) ?_
    refine tb_eq qcn_46 (by decide) ⟨by omega, by omega⟩ ⟨by omega, by omega⟩ (fun c2 => ?_) (fun c2 => ?_)
    · show t_X d 235 58 lv [] g P
      exact False.elim (by omega)
    · show t_X d 235 49 lv [] g P
      refine t_0 qcn_49 rfl (ld_a l0) ?_
      refine t_3 qcn_50 rfl (ar := ([pvR 196], [])) (pcal_v0 rfl rfl el_196) ⟨by omega, Nat.le_of_ble_eq_true rfl, Nat.le_of_ble_eq_true rfl, rfl⟩ ?_
      refine he_run hJ.1 (by omega) (by omega) ?_ rfl
      have hv3 := hV_b g
      have hn3 := hV_n g
      show t_X d 235 53 lv [oI (hV g)] g P
      refine t_0 qcn_53 rfl (pq_b (by decide)) ?_
      refine tb_ne qcn_55 (by decide) ⟨by omega, by omega⟩ ⟨by omega, by omega⟩ (fun c4 => ?_) (fun c4 => ?_)
      · show t_X d 235 83 lv [] g P
        refine t_0 qcn_83 rfl (ld_a l0) ?_
        refine t_3 qcn_84 rfl (ar := ([pvR 196], [])) (pcal_v0 rfl rfl el_196) ⟨by omega, Nat.le_of_ble_eq_true rfl, Nat.le_of_ble_eq_true rfl, rfl⟩ ?_
        refine rc_run (by omega) (a := a) (f0 := f0) hJ hs ⟨by omega, by omega⟩ (fun g5 hJ5 S5 p5 u5 x5 => ?_) (fun g50005 hJ50005 => ?_) rfl
        · show t_X d 235 87 lv [oI (1)] g5 P
          refine tz_ne qcn_87 (by decide) ⟨by omega, by omega⟩ (fun c6 => ?_) (fun c6 => absurd c6 (by omega))
          show t_X d 235 92 lv [] g5 P
          exact False.elim (by omega)
        · show t_X d 235 87 lv [oI (0)] g50005 P
          refine tz_ne qcn_87 (by decide) ⟨by omega, by omega⟩ (fun c7 => absurd c7 (by omega)) (fun c7 => ?_)
          show t_X d 235 90 lv [] g50005 P
          refine t_0 qcn_90 rfl rfl ?_
          refine t_5 qcn_91 rfl rfl ?_
          exact h2 _ hJ50005
      · show t_X d 235 58 lv [] g P
        exact False.elim (by omega)
  | succ m ih =>
    intro g lv hJ hs hp l0
    have hsc := cG_c hs (by decide)
    refine t_0 qcn_40 rfl (ld_a l0) ?_
    refine t_3 qcn_41 rfl (ar := ([pvR 196], [])) (pcal_v0 rfl rfl el_196) ⟨by omega, Nat.le_of_ble_eq_true rfl, Nat.le_of_ble_eq_true rfl, rfl⟩ ?_
    refine he_run hJ.1 (by omega) (by omega) ?_ rfl
    have hv1 := hV_b g
    have hn1 := hV_n g
    show t_X d 235 44 lv [oI (hV g)] g P
    refine t_0 qcn_44 rfl (pq_b (by decide)) ?_
    refine tb_eq qcn_46 (by decide) ⟨by omega, by omega⟩ ⟨by omega, by omega⟩ (fun c2 => ?_) (fun c2 => ?_)
    · show t_X d 235 58 lv [] g P
      refine t_0 qcn_58 rfl (ld_a l0) ?_
      refine t_0 qcn_59 rfl (ld_a l0) ?_
      refine t_3 qcn_60 rfl (ar := ([pvR 196], [pvR 196])) (pcal_v0 rfl rfl el_196) ⟨by omega, Nat.le_of_ble_eq_true rfl, Nat.le_of_ble_eq_true rfl, rfl⟩ ?_
      refine he_run hJ.1 (by omega) (by omega) ?_ rfl
      have hv3 := hV_b g
      have hn3 := hV_n g
      show t_X d 235 63 lv [oI (hV g), pvR 196] g P
      refine t_0 qcn_63 rfl (pq_b (by decide)) ?_
      refine tb_ne qcn_65 (by decide) ⟨by omega, by omega⟩ ⟨by omega, by omega⟩ (fun c4 => ?_) (fun c4 => ?_)
      · show t_X d 235 73 lv [pvR 196] g P
        refine t_0 qcn_73 rfl (pq_b (by decide)) ?_
        refine t_3 qcn_75 rfl (ar := ([pvR 196, oI (13)], [])) (pcal_v1 rfl rfl el_196) ⟨by omega, Nat.le_of_ble_eq_true rfl, Nat.le_of_ble_eq_true rfl, rfl⟩ ?_
        refine op_run (by omega) hJ ⟨by omega, by omega⟩ ⟨by omega, by omega⟩ (by omega) (fun g5 p5 u5 c5 w5 v5 b5 a5 hJ5 => ?_) (fun g50005 hJ50005 => ?_) rfl rfl
        · show t_X d 235 78 lv [oI (1)] g5 P
          refine tz_ne qcn_78 (by decide) ⟨by omega, by omega⟩ (fun c6 => ?_) (fun c6 => absurd c6 (by omega))
          show t_X d 235 40 lv [] g5 P
          have SO : cG a f0 0 g5 0 := by
            unfold cG
            rw [p5, c5, w5, a5]
            exact cJ_open hs (by omega) (x := 1048576 * 13) (by omega) v5 b5
          exact ih _ _ hJ5 SO ⟨by omega, by omega, by omega, by omega⟩ l0
        · show t_X d 235 78 lv [oI (0)] g50005 P
          refine tz_ne qcn_78 (by decide) ⟨by omega, by omega⟩ (fun c7 => absurd c7 (by omega)) (fun c7 => ?_)
          show t_X d 235 81 lv [] g50005 P
          refine t_0 qcn_81 rfl rfl ?_
          refine t_5 qcn_82 rfl rfl ?_
          exact h2 _ hJ50005
      · show t_X d 235 68 lv [pvR 196] g P
        refine t_0 qcn_68 rfl (pq_b (by decide)) ?_
        refine t_1 qcn_70 rfl (pb_goto (pc := 70) (by decide)) ?_
        show t_X d 235 75 lv [oI (10), pvR 196] g P
        refine t_3 qcn_75 rfl (ar := ([pvR 196, oI (10)], [])) (pcal_v1 rfl rfl el_196) ⟨by omega, Nat.le_of_ble_eq_true rfl, Nat.le_of_ble_eq_true rfl, rfl⟩ ?_
        refine op_run (by omega) hJ ⟨by omega, by omega⟩ ⟨by omega, by omega⟩ (by omega) (fun g8 p8 u8 c8 w8 v8 b8 a8 hJ8 => ?_) (fun g50008 hJ50008 => ?_) rfl rfl
        · show t_X d 235 78 lv [oI (1)] g8 P
          refine tz_ne qcn_78 (by decide) ⟨by omega, by omega⟩ (fun c9 => ?_) (fun c9 => absurd c9 (by omega))
          show t_X d 235 40 lv [] g8 P
          have SO : cG a f0 0 g8 0 := by
            unfold cG
            rw [p8, c8, w8, a8]
            exact cJ_open hs (by omega) (x := 1048576 * 10) (by omega) v8 b8
          exact ih _ _ hJ8 SO ⟨by omega, by omega, by omega, by omega⟩ l0
        · show t_X d 235 78 lv [oI (0)] g50008 P
          refine tz_ne qcn_78 (by decide) ⟨by omega, by omega⟩ (fun c10 => absurd c10 (by omega)) (fun c10 => ?_)
          show t_X d 235 81 lv [] g50008 P
          refine t_0 qcn_81 rfl rfl ?_
          refine t_5 qcn_82 rfl rfl ?_
          exact h2 _ hJ50008
    · show t_X d 235 49 lv [] g P
      refine t_0 qcn_49 rfl (ld_a l0) ?_
      refine t_3 qcn_50 rfl (ar := ([pvR 196], [])) (pcal_v0 rfl rfl el_196) ⟨by omega, Nat.le_of_ble_eq_true rfl, Nat.le_of_ble_eq_true rfl, rfl⟩ ?_
      refine he_run hJ.1 (by omega) (by omega) ?_ rfl
      have hv11 := hV_b g
      have hn11 := hV_n g
      show t_X d 235 53 lv [oI (hV g)] g P
      refine t_0 qcn_53 rfl (pq_b (by decide)) ?_
      refine tb_ne qcn_55 (by decide) ⟨by omega, by omega⟩ ⟨by omega, by omega⟩ (fun c12 => ?_) (fun c12 => ?_)
      · show t_X d 235 83 lv [] g P
        refine t_0 qcn_83 rfl (ld_a l0) ?_
        refine t_3 qcn_84 rfl (ar := ([pvR 196], [])) (pcal_v0 rfl rfl el_196) ⟨by omega, Nat.le_of_ble_eq_true rfl, Nat.le_of_ble_eq_true rfl, rfl⟩ ?_
        refine rc_run (by omega) (a := a) (f0 := f0) hJ hs ⟨by omega, by omega⟩ (fun g13 hJ13 S13 p13 u13 x13 => ?_) (fun g50013 hJ50013 => ?_) rfl
        · have sc13 := cG_c S13 (by decide)
          show t_X d 235 87 lv [oI (1)] g13 P
          refine tz_ne qcn_87 (by decide) ⟨by omega, by omega⟩ (fun c14 => ?_) (fun c14 => absurd c14 (by omega))
          show t_X d 235 92 lv [] g13 P
          exact cn_b hd hgs h1 h2 (M := m) (fun g9 lv9 hJ9 S9 q9 u9 => ih g9 lv9 hJ9 S9 ⟨by omega, by omega, by omega, by omega⟩ u9) 241 _ _ (by omega) hJ13 S13 ⟨by omega, by omega, by omega, by omega⟩ l0
        · show t_X d 235 87 lv [oI (0)] g50013 P
          refine tz_ne qcn_87 (by decide) ⟨by omega, by omega⟩ (fun c15 => absurd c15 (by omega)) (fun c15 => ?_)
          show t_X d 235 90 lv [] g50013 P
          refine t_0 qcn_90 rfl rfl ?_
          refine t_5 qcn_91 rfl rfl ?_
          exact h2 _ hJ50013
      · show t_X d 235 58 lv [] g P
        refine t_0 qcn_58 rfl (ld_a l0) ?_
        refine t_0 qcn_59 rfl (ld_a l0) ?_
        refine t_3 qcn_60 rfl (ar := ([pvR 196], [pvR 196])) (pcal_v0 rfl rfl el_196) ⟨by omega, Nat.le_of_ble_eq_true rfl, Nat.le_of_ble_eq_true rfl, rfl⟩ ?_
        refine he_run hJ.1 (by omega) (by omega) ?_ rfl
        have hv16 := hV_b g
        have hn16 := hV_n g
        show t_X d 235 63 lv [oI (hV g), pvR 196] g P
        refine t_0 qcn_63 rfl (pq_b (by decide)) ?_
        refine tb_ne qcn_65 (by decide) ⟨by omega, by omega⟩ ⟨by omega, by omega⟩ (fun c17 => ?_) (fun c17 => ?_)
        · show t_X d 235 73 lv [pvR 196] g P
          refine t_0 qcn_73 rfl (pq_b (by decide)) ?_
          refine t_3 qcn_75 rfl (ar := ([pvR 196, oI (13)], [])) (pcal_v1 rfl rfl el_196) ⟨by omega, Nat.le_of_ble_eq_true rfl, Nat.le_of_ble_eq_true rfl, rfl⟩ ?_
          refine op_run (by omega) hJ ⟨by omega, by omega⟩ ⟨by omega, by omega⟩ (by omega) (fun g18 p18 u18 c18 w18 v18 b18 a18 hJ18 => ?_) (fun g50018 hJ50018 => ?_) rfl rfl
          · show t_X d 235 78 lv [oI (1)] g18 P
            refine tz_ne qcn_78 (by decide) ⟨by omega, by omega⟩ (fun c19 => ?_) (fun c19 => absurd c19 (by omega))
            show t_X d 235 40 lv [] g18 P
            have SO : cG a f0 0 g18 0 := by
              unfold cG
              rw [p18, c18, w18, a18]
              exact cJ_open hs (by omega) (x := 1048576 * 13) (by omega) v18 b18
            exact ih _ _ hJ18 SO ⟨by omega, by omega, by omega, by omega⟩ l0
          · show t_X d 235 78 lv [oI (0)] g50018 P
            refine tz_ne qcn_78 (by decide) ⟨by omega, by omega⟩ (fun c20 => absurd c20 (by omega)) (fun c20 => ?_)
            show t_X d 235 81 lv [] g50018 P
            refine t_0 qcn_81 rfl rfl ?_
            refine t_5 qcn_82 rfl rfl ?_
            exact h2 _ hJ50018
        · show t_X d 235 68 lv [pvR 196] g P
          refine t_0 qcn_68 rfl (pq_b (by decide)) ?_
          refine t_1 qcn_70 rfl (pb_goto (pc := 70) (by decide)) ?_
          show t_X d 235 75 lv [oI (10), pvR 196] g P
          refine t_3 qcn_75 rfl (ar := ([pvR 196, oI (10)], [])) (pcal_v1 rfl rfl el_196) ⟨by omega, Nat.le_of_ble_eq_true rfl, Nat.le_of_ble_eq_true rfl, rfl⟩ ?_
          refine op_run (by omega) hJ ⟨by omega, by omega⟩ ⟨by omega, by omega⟩ (by omega) (fun g21 p21 u21 c21 w21 v21 b21 a21 hJ21 => ?_) (fun g50021 hJ50021 => ?_) rfl rfl
          · show t_X d 235 78 lv [oI (1)] g21 P
            refine tz_ne qcn_78 (by decide) ⟨by omega, by omega⟩ (fun c22 => ?_) (fun c22 => absurd c22 (by omega))
            show t_X d 235 40 lv [] g21 P
            have SO : cG a f0 0 g21 0 := by
              unfold cG
              rw [p21, c21, w21, a21]
              exact cJ_open hs (by omega) (x := 1048576 * 10) (by omega) v21 b21
            exact ih _ _ hJ21 SO ⟨by omega, by omega, by omega, by omega⟩ l0
          · show t_X d 235 78 lv [oI (0)] g50021 P
            refine tz_ne qcn_78 (by decide) ⟨by omega, by omega⟩ (fun c23 => absurd c23 (by omega)) (fun c23 => ?_)
            show t_X d 235 81 lv [] g50021 P
            refine t_0 qcn_81 rfl rfl ?_
            refine t_5 qcn_82 rfl rfl ?_
            exact h2 _ hJ50021
set_option maxHeartbeats 8000000 in
theorem cn_run {d : Nat} (hd : 7 ≤ d) {h0 g : pH} (hJ : J_ Wu h0 g) {a : Nat} (ha : fF g 32 = (a : Int)) (hp : (a : Int) ≤ fF g 18 ∧ fF g 18 ≤ fF g 19 ∧ fF g 19 ≤ 240) {P : Option pv × pH → Prop} (h1 : ∀ g1 : pH, J_ Wu h0 g1 → (∃ D, cOK (fA g1 216) D a (fF g1 32)) → (∀ k, k < a → fA g1 216 k = fA g 216 k) → (a : Int) ≤ fF g1 32 ∧ fF g1 32 ≤ fF g1 18 → fF g 18 < fF g1 18 → fF g1 18 ≤ fF g1 19 → fF g1 19 = fF g 19 → P (some (oI 1), g1)) (h2 : ∀ g1 : pH, J_ Wu h0 g1 → P (some (oI 0), g1)) {lv : List (Nat × pv)} (l0 : px_lg lv 0 = some (pvR 196)) : t_X d 235 0 lv [] g P := by
  obtain ⟨w_18, w_20, w_21, w_31, w_32, w_33, w_a216, w_a217, z_19⟩ := Wu_f
  refine t_0 qcn_0 rfl (ld_a l0) ?_
  refine t_3 qcn_1 rfl (ar := ([pvR 196], [])) (pcal_v0 rfl rfl el_196) ⟨by omega, Nat.le_of_ble_eq_true rfl, Nat.le_of_ble_eq_true rfl, rfl⟩ ?_
  refine he_run hJ.1 (by omega) (by omega) ?_ rfl
  have hv1 := hV_b g
  have hn1 := hV_n g
  show t_X d 235 4 lv [oI (hV g)] g P
  refine t_0 qcn_4 rfl (pq_b (by decide)) ?_
  refine tb_eq qcn_6 (by decide) ⟨by omega, by omega⟩ ⟨by omega, by omega⟩ (fun c2 => ?_) (fun c2 => ?_)
  · show t_X d 235 19 lv [] g P
    refine t_0 qcn_19 rfl (ld_a l0) ?_
    refine t_0 qcn_20 rfl rfl ?_
    refine tw_f qcn_21 rfl hJ w_31 gf_31 (by decide) ⟨by omega, by omega⟩ (fun g3 hJ3 v3 f3 a3 => ?_)
    replace a3 := fA_2 a3
    have q3_18 := f3 18 (by decide)
    have q3_19 := f3 19 (by decide)
    have q3_32 := f3 32 (by decide)
    have q3_33 := f3 33 (by decide)
    show t_X d 235 24 lv [] g3 P
    refine t_0 qcn_24 rfl (ld_a l0) ?_
    refine t_0 qcn_25 rfl rfl ?_
    refine tw_f qcn_26 rfl hJ3 w_33 gf_33 (by decide) ⟨by omega, by omega⟩ (fun g4 hJ4 v4 f4 a4 => ?_)
    replace a4 := fA_2 a4
    have q4_18 := f4 18 (by decide)
    have q4_19 := f4 19 (by decide)
    have q4_32 := f4 32 (by decide)
    show t_X d 235 29 lv [] g4 P
    refine t_0 qcn_29 rfl (ld_a l0) ?_
    refine t_0 qcn_30 rfl (pq_b (by decide)) ?_
    refine t_3 qcn_32 rfl (ar := ([pvR 196, oI (13)], [])) (pcal_v1 rfl rfl el_196) ⟨by omega, Nat.le_of_ble_eq_true rfl, Nat.le_of_ble_eq_true rfl, rfl⟩ ?_
    refine op_run (by omega) hJ4 ⟨by omega, by omega⟩ ⟨by omega, by omega⟩ (by omega) (fun g5 p5 u5 c5 w5 v5 b5 a5 hJ5 => ?_) (fun g50005 hJ50005 => ?_) rfl rfl
    · show t_X d 235 35 lv [oI (1)] g5 P
      refine tz_ne qcn_35 (by decide) ⟨by omega, by omega⟩ (fun c6 => ?_) (fun c6 => absurd c6 (by omega))
      show t_X d 235 40 lv [] g5 P
      have hv0 : 0 ≤ fA g5 217 0 ∧ fA g5 217 0 / 1048576 = 13 := by
        have hh := v5
        rw [show (fF g4 33).toNat = 0 by omega] at hh
        omega
      have SS : cG a (fA g 216) 0 g5 0 := by
        have e216 : fA g 216 = fA g5 216 := by rw [a5, a4, a3]
        unfold cG
        rw [show fF g5 33 = 1 by omega, show fF g5 32 = (a : Int) by omega, e216]
        exact cJ_st ⟨by omega, by omega⟩ (by omega) hv0
      exact cn_a hd (gs := g) ⟨by omega, by omega⟩ h1 h2 240 _ _ hJ5 SS ⟨by omega, by omega, by omega, by omega⟩ l0
    · show t_X d 235 35 lv [oI (0)] g50005 P
      refine tz_ne qcn_35 (by decide) ⟨by omega, by omega⟩ (fun c7 => absurd c7 (by omega)) (fun c7 => ?_)
      show t_X d 235 38 lv [] g50005 P
      refine t_0 qcn_38 rfl rfl ?_
      refine t_5 qcn_39 rfl rfl ?_
      exact h2 _ hJ50005
  · show t_X d 235 9 lv [] g P
    refine t_0 qcn_9 rfl (ld_a l0) ?_
    refine t_0 qcn_10 rfl rfl ?_
    refine t_0 qcn_11 rfl (ld_a l0) ?_
    have r8 := fF_b g 18
    refine t_0 qcn_12 rfl (pq_gf (y := 18) rfl) ?_
    refine t_3 qcn_15 rfl (ar := ([pvR 196, oI (1), oI (fF g 18)], [])) (pcal_v2 rfl rfl el_196) ⟨by omega, Nat.le_of_ble_eq_true rfl, Nat.le_of_ble_eq_true rfl, rfl⟩ ?_
    refine wr_run hJ w_20 (fun g9 hJ9 f9 a9 => ?_) rfl rfl rfl
    have q9_18 := f9 18 (by decide)
    have q9_19 := f9 19 (by decide)
    have q9_32 := f9 32 (by decide)
    have q9_33 := f9 33 (by decide)
    show t_X d 235 18 lv [oI (0)] g9 P
    refine t_5 qcn_18 rfl rfl ?_
    exact h2 _ hJ9
end
section
/-! by hand: the law's reader, clauses; law (printed in part by wip/e2/ld.py) -/
theorem qcl_0 : xe_look (xc 233) 0 = some (.aload_n 0, 1, 0, 0, 0) := by decide +kernel
theorem qcl_1 : xe_look (xc 233) 1 = some (.invokevirtual 252, 3, 0, 198, 1137) := by decide +kernel
theorem qcl_4 : xe_look (xc 233) 4 = some (.istore_n 1, 1, 0, 0, 0) := by decide +kernel
theorem qcl_5 : xe_look (xc 233) 5 = some (.iload_n 1, 1, 0, 0, 0) := by decide +kernel
theorem qcl_6 : xe_look (xc 233) 6 = some (.invokestatic 350, 3, 0, 202, 1254) := by decide +kernel
theorem qcl_9 : xe_look (xc 233) 9 = some (.ifCond .ne 13, 3, 0, 0, 0) := by decide +kernel
theorem qcl_12 : xe_look (xc 233) 12 = some (.aload_n 0, 1, 0, 0, 0) := by decide +kernel
theorem qcl_13 : xe_look (xc 233) 13 = some (.iconst 1, 1, 0, 0, 0) := by decide +kernel
theorem qcl_14 : xe_look (xc 233) 14 = some (.aload_n 0, 1, 0, 0, 0) := by decide +kernel
theorem qcl_15 : xe_look (xc 233) 15 = some (.getfield 242, 3, 12, 18, 1135) := by decide +kernel
theorem qcl_18 : xe_look (xc 233) 18 = some (.invokevirtual 256, 3, 0, 274, 1138) := by decide +kernel
theorem qcl_21 : xe_look (xc 233) 21 = some (.ireturn, 1, 0, 0, 0) := by decide +kernel
theorem qcl_22 : xe_look (xc 233) 22 = some (.aload_n 0, 1, 0, 0, 0) := by decide +kernel
theorem qcl_23 : xe_look (xc 233) 23 = some (.getfield 353, 3, 12, 34, 1230) := by decide +kernel
theorem qcl_26 : xe_look (xc 233) 26 = some (.bipush 16, 2, 0, 0, 0) := by decide +kernel
theorem qcl_28 : xe_look (xc 233) 28 = some (.if_icmp .ne 13, 3, 0, 0, 0) := by decide +kernel
theorem qcl_31 : xe_look (xc 233) 31 = some (.aload_n 0, 1, 0, 0, 0) := by decide +kernel
theorem qcl_32 : xe_look (xc 233) 32 = some (.iconst 4, 1, 0, 0, 0) := by decide +kernel
theorem qcl_33 : xe_look (xc 233) 33 = some (.aload_n 0, 1, 0, 0, 0) := by decide +kernel
theorem qcl_34 : xe_look (xc 233) 34 = some (.getfield 242, 3, 12, 18, 1135) := by decide +kernel
theorem qcl_37 : xe_look (xc 233) 37 = some (.invokevirtual 256, 3, 0, 274, 1138) := by decide +kernel
theorem qcl_40 : xe_look (xc 233) 40 = some (.ireturn, 1, 0, 0, 0) := by decide +kernel
theorem qcl_41 : xe_look (xc 233) 41 = some (.aload_n 0, 1, 0, 0, 0) := by decide +kernel
theorem qcl_42 : xe_look (xc 233) 42 = some (.getfield 74, 3, 12, 38, 1195) := by decide +kernel
theorem qcl_45 : xe_look (xc 233) 45 = some (.aload_n 0, 1, 0, 0, 0) := by decide +kernel
theorem qcl_46 : xe_look (xc 233) 46 = some (.getfield 353, 3, 12, 34, 1230) := by decide +kernel
theorem qcl_49 : xe_look (xc 233) 49 = some (.iload_n 1, 1, 0, 0, 0) := by decide +kernel
theorem qcl_50 : xe_look (xc 233) 50 = some (.iastore, 1, 0, 0, 0) := by decide +kernel
theorem qcl_51 : xe_look (xc 233) 51 = some (.aload_n 0, 1, 0, 0, 0) := by decide +kernel
theorem qcl_52 : xe_look (xc 233) 52 = some (.aload_n 0, 1, 0, 0, 0) := by decide +kernel
theorem qcl_53 : xe_look (xc 233) 53 = some (.getfield 242, 3, 12, 18, 1135) := by decide +kernel
theorem qcl_56 : xe_look (xc 233) 56 = some (.iconst 1, 1, 0, 0, 0) := by decide +kernel
theorem qcl_57 : xe_look (xc 233) 57 = some (.iadd, 1, 0, 0, 0) := by decide +kernel
theorem qcl_58 : xe_look (xc 233) 58 = some (.putfield 242, 3, 12, 18, 1135) := by decide +kernel
theorem qcl_61 : xe_look (xc 233) 61 = some (.aload_n 0, 1, 0, 0, 0) := by decide +kernel
theorem qcl_62 : xe_look (xc 233) 62 = some (.getfield 77, 3, 12, 39, 1196) := by decide +kernel
theorem qcl_65 : xe_look (xc 233) 65 = some (.aload_n 0, 1, 0, 0, 0) := by decide +kernel
theorem qcl_66 : xe_look (xc 233) 66 = some (.getfield 353, 3, 12, 34, 1230) := by decide +kernel
theorem qcl_69 : xe_look (xc 233) 69 = some (.aload_n 0, 1, 0, 0, 0) := by decide +kernel
theorem qcl_70 : xe_look (xc 233) 70 = some (.getfield 296, 3, 12, 32, 1222) := by decide +kernel
theorem qcl_73 : xe_look (xc 233) 73 = some (.iastore, 1, 0, 0, 0) := by decide +kernel
theorem qcl_74 : xe_look (xc 233) 74 = some (.aload_n 0, 1, 0, 0, 0) := by decide +kernel
theorem qcl_75 : xe_look (xc 233) 75 = some (.iconst 0, 1, 0, 0, 0) := by decide +kernel
theorem qcl_76 : xe_look (xc 233) 76 = some (.putfield 300, 3, 12, 31, 1170) := by decide +kernel
theorem qcl_79 : xe_look (xc 233) 79 = some (.aload_n 0, 1, 0, 0, 0) := by decide +kernel
theorem qcl_80 : xe_look (xc 233) 80 = some (.iconst 0, 1, 0, 0, 0) := by decide +kernel
theorem qcl_81 : xe_look (xc 233) 81 = some (.putfield 303, 3, 12, 33, 1146) := by decide +kernel
theorem qcl_84 : xe_look (xc 233) 84 = some (.aload_n 0, 1, 0, 0, 0) := by decide +kernel
theorem qcl_85 : xe_look (xc 233) 85 = some (.invokevirtual 335, 3, 0, 241, 1255) := by decide +kernel
theorem qcl_88 : xe_look (xc 233) 88 = some (.ifCond .ne 5, 3, 0, 0, 0) := by decide +kernel
theorem qcl_91 : xe_look (xc 233) 91 = some (.iconst 0, 1, 0, 0, 0) := by decide +kernel
theorem qcl_92 : xe_look (xc 233) 92 = some (.ireturn, 1, 0, 0, 0) := by decide +kernel
theorem qcl_93 : xe_look (xc 233) 93 = some (.aload_n 0, 1, 0, 0, 0) := by decide +kernel
theorem qcl_94 : xe_look (xc 233) 94 = some (.getfield 80, 3, 12, 40, 1197) := by decide +kernel
theorem qcl_97 : xe_look (xc 233) 97 = some (.aload_n 0, 1, 0, 0, 0) := by decide +kernel
theorem qcl_98 : xe_look (xc 233) 98 = some (.getfield 353, 3, 12, 34, 1230) := by decide +kernel
theorem qcl_101 : xe_look (xc 233) 101 = some (.aload_n 0, 1, 0, 0, 0) := by decide +kernel
theorem qcl_102 : xe_look (xc 233) 102 = some (.getfield 296, 3, 12, 32, 1222) := by decide +kernel
theorem qcl_105 : xe_look (xc 233) 105 = some (.iastore, 1, 0, 0, 0) := by decide +kernel
theorem qcl_106 : xe_look (xc 233) 106 = some (.aload_n 0, 1, 0, 0, 0) := by decide +kernel
theorem qcl_107 : xe_look (xc 233) 107 = some (.invokevirtual 356, 3, 0, 235, 1256) := by decide +kernel
theorem qcl_110 : xe_look (xc 233) 110 = some (.ifCond .ne 5, 3, 0, 0, 0) := by decide +kernel
theorem qcl_113 : xe_look (xc 233) 113 = some (.iconst 0, 1, 0, 0, 0) := by decide +kernel
theorem qcl_114 : xe_look (xc 233) 114 = some (.ireturn, 1, 0, 0, 0) := by decide +kernel
theorem qcl_115 : xe_look (xc 233) 115 = some (.aload_n 0, 1, 0, 0, 0) := by decide +kernel
theorem qcl_116 : xe_look (xc 233) 116 = some (.getfield 83, 3, 12, 41, 1198) := by decide +kernel
theorem qcl_119 : xe_look (xc 233) 119 = some (.aload_n 0, 1, 0, 0, 0) := by decide +kernel
theorem qcl_120 : xe_look (xc 233) 120 = some (.getfield 353, 3, 12, 34, 1230) := by decide +kernel
theorem qcl_123 : xe_look (xc 233) 123 = some (.aload_n 0, 1, 0, 0, 0) := by decide +kernel
theorem qcl_124 : xe_look (xc 233) 124 = some (.getfield 296, 3, 12, 32, 1222) := by decide +kernel
theorem qcl_127 : xe_look (xc 233) 127 = some (.iastore, 1, 0, 0, 0) := by decide +kernel
theorem qcl_128 : xe_look (xc 233) 128 = some (.aload_n 0, 1, 0, 0, 0) := by decide +kernel
theorem qcl_129 : xe_look (xc 233) 129 = some (.aload_n 0, 1, 0, 0, 0) := by decide +kernel
theorem qcl_130 : xe_look (xc 233) 130 = some (.getfield 353, 3, 12, 34, 1230) := by decide +kernel
theorem qcl_133 : xe_look (xc 233) 133 = some (.iconst 1, 1, 0, 0, 0) := by decide +kernel
theorem qcl_134 : xe_look (xc 233) 134 = some (.iadd, 1, 0, 0, 0) := by decide +kernel
theorem qcl_135 : xe_look (xc 233) 135 = some (.putfield 353, 3, 12, 34, 1230) := by decide +kernel
theorem qcl_138 : xe_look (xc 233) 138 = some (.iconst 1, 1, 0, 0, 0) := by decide +kernel
theorem qcl_139 : xe_look (xc 233) 139 = some (.ireturn, 1, 0, 0, 0) := by decide +kernel
theorem qlw_0 : xe_look (xc 213) 0 = some (.iload_n 1, 1, 0, 0, 0) := by decide +kernel
theorem qlw_1 : xe_look (xc 213) 1 = some (.iconst 1, 1, 0, 0, 0) := by decide +kernel
theorem qlw_2 : xe_look (xc 213) 2 = some (.sipush 240, 3, 0, 0, 0) := by decide +kernel
theorem qlw_5 : xe_look (xc 213) 5 = some (.invokestatic 201, 3, 0, 199, 1131) := by decide +kernel
theorem qlw_8 : xe_look (xc 213) 8 = some (.ifCond .eq 11, 3, 0, 0, 0) := by decide +kernel
theorem qlw_11 : xe_look (xc 213) 11 = some (.iload_n 1, 1, 0, 0, 0) := by decide +kernel
theorem qlw_12 : xe_look (xc 213) 12 = some (.aload_n 0, 1, 0, 0, 0) := by decide +kernel
theorem qlw_13 : xe_look (xc 213) 13 = some (.getfield 194, 3, 12, 17, 1132) := by decide +kernel
theorem qlw_16 : xe_look (xc 213) 16 = some (.if_icmp .le 5, 3, 0, 0, 0) := by decide +kernel
theorem qlw_19 : xe_look (xc 213) 19 = some (.iconst (-1), 1, 0, 0, 0) := by decide +kernel
theorem qlw_20 : xe_look (xc 213) 20 = some (.ireturn, 1, 0, 0, 0) := by decide +kernel
theorem qlw_21 : xe_look (xc 213) 21 = some (.aload_n 0, 1, 0, 0, 0) := by decide +kernel
theorem qlw_22 : xe_look (xc 213) 22 = some (.iconst 0, 1, 0, 0, 0) := by decide +kernel
theorem qlw_23 : xe_look (xc 213) 23 = some (.putfield 242, 3, 12, 18, 1135) := by decide +kernel
theorem qlw_26 : xe_look (xc 213) 26 = some (.aload_n 0, 1, 0, 0, 0) := by decide +kernel
theorem qlw_27 : xe_look (xc 213) 27 = some (.iload_n 1, 1, 0, 0, 0) := by decide +kernel
theorem qlw_28 : xe_look (xc 213) 28 = some (.putfield 277, 3, 12, 19, 1190) := by decide +kernel
theorem qlw_31 : xe_look (xc 213) 31 = some (.aload_n 0, 1, 0, 0, 0) := by decide +kernel
theorem qlw_32 : xe_look (xc 213) 32 = some (.iconst 0, 1, 0, 0, 0) := by decide +kernel
theorem qlw_33 : xe_look (xc 213) 33 = some (.putfield 296, 3, 12, 32, 1222) := by decide +kernel
theorem qlw_36 : xe_look (xc 213) 36 = some (.aload_n 0, 1, 0, 0, 0) := by decide +kernel
theorem qlw_37 : xe_look (xc 213) 37 = some (.iconst 0, 1, 0, 0, 0) := by decide +kernel
theorem qlw_38 : xe_look (xc 213) 38 = some (.putfield 353, 3, 12, 34, 1230) := by decide +kernel
theorem qlw_41 : xe_look (xc 213) 41 = some (.aload_n 0, 1, 0, 0, 0) := by decide +kernel
theorem qlw_42 : xe_look (xc 213) 42 = some (.invokevirtual 359, 3, 0, 233, 1231) := by decide +kernel
theorem qlw_45 : xe_look (xc 213) 45 = some (.istore_n 2, 1, 0, 0, 0) := by decide +kernel
theorem qlw_46 : xe_look (xc 213) 46 = some (.iload_n 2, 1, 0, 0, 0) := by decide +kernel
theorem qlw_47 : xe_look (xc 213) 47 = some (.ifCond .eq 39, 3, 0, 0, 0) := by decide +kernel
theorem qlw_50 : xe_look (xc 213) 50 = some (.aload_n 0, 1, 0, 0, 0) := by decide +kernel
theorem qlw_51 : xe_look (xc 213) 51 = some (.getfield 242, 3, 12, 18, 1135) := by decide +kernel
theorem qlw_54 : xe_look (xc 213) 54 = some (.aload_n 0, 1, 0, 0, 0) := by decide +kernel
theorem qlw_55 : xe_look (xc 213) 55 = some (.getfield 277, 3, 12, 19, 1190) := by decide +kernel
theorem qlw_58 : xe_look (xc 213) 58 = some (.if_icmp .ge 28, 3, 0, 0, 0) := by decide +kernel
theorem qlw_61 : xe_look (xc 213) 61 = some (.aload_n 0, 1, 0, 0, 0) := by decide +kernel
theorem qlw_62 : xe_look (xc 213) 62 = some (.bipush 59, 2, 0, 0, 0) := by decide +kernel
theorem qlw_64 : xe_look (xc 213) 64 = some (.invokevirtual 283, 3, 0, 260, 1232) := by decide +kernel
theorem qlw_67 : xe_look (xc 213) 67 = some (.ifCond .eq 14, 3, 0, 0, 0) := by decide +kernel
theorem qlw_70 : xe_look (xc 213) 70 = some (.aload_n 0, 1, 0, 0, 0) := by decide +kernel
theorem qlw_71 : xe_look (xc 213) 71 = some (.invokevirtual 359, 3, 0, 233, 1231) := by decide +kernel
theorem qlw_74 : xe_look (xc 213) 74 = some (.ifCond .eq 7, 3, 0, 0, 0) := by decide +kernel
theorem qlw_77 : xe_look (xc 213) 77 = some (.iconst 1, 1, 0, 0, 0) := by decide +kernel
theorem qlw_78 : xe_look (xc 213) 78 = some (.goto 4, 3, 0, 0, 0) := by decide +kernel
theorem qlw_81 : xe_look (xc 213) 81 = some (.iconst 0, 1, 0, 0, 0) := by decide +kernel
theorem qlw_82 : xe_look (xc 213) 82 = some (.istore_n 2, 1, 0, 0, 0) := by decide +kernel
theorem qlw_83 : xe_look (xc 213) 83 = some (.goto (-37), 3, 0, 0, 0) := by decide +kernel
theorem qlw_86 : xe_look (xc 213) 86 = some (.aload_n 0, 1, 0, 0, 0) := by decide +kernel
theorem qlw_87 : xe_look (xc 213) 87 = some (.iconst 0, 1, 0, 0, 0) := by decide +kernel
theorem qlw_88 : xe_look (xc 213) 88 = some (.putfield 194, 3, 12, 17, 1132) := by decide +kernel
theorem qlw_91 : xe_look (xc 213) 91 = some (.iload_n 2, 1, 0, 0, 0) := by decide +kernel
theorem qlw_92 : xe_look (xc 213) 92 = some (.ifCond .ne 8, 3, 0, 0, 0) := by decide +kernel
theorem qlw_95 : xe_look (xc 213) 95 = some (.aload_n 0, 1, 0, 0, 0) := by decide +kernel
theorem qlw_96 : xe_look (xc 213) 96 = some (.getfield 286, 3, 12, 20, 1233) := by decide +kernel
theorem qlw_99 : xe_look (xc 213) 99 = some (.ireturn, 1, 0, 0, 0) := by decide +kernel
theorem qlw_100 : xe_look (xc 213) 100 = some (.aload_n 0, 1, 0, 0, 0) := by decide +kernel
theorem qlw_101 : xe_look (xc 213) 101 = some (.aload_n 0, 1, 0, 0, 0) := by decide +kernel
theorem qlw_102 : xe_look (xc 213) 102 = some (.getfield 353, 3, 12, 34, 1230) := by decide +kernel
theorem qlw_105 : xe_look (xc 213) 105 = some (.putfield 362, 3, 12, 35, 1124) := by decide +kernel
theorem qlw_108 : xe_look (xc 213) 108 = some (.iconst 0, 1, 0, 0, 0) := by decide +kernel
theorem qlw_109 : xe_look (xc 213) 109 = some (.istore_n 3, 1, 0, 0, 0) := by decide +kernel
theorem qlw_110 : xe_look (xc 213) 110 = some (.iload_n 3, 1, 0, 0, 0) := by decide +kernel
theorem qlw_111 : xe_look (xc 213) 111 = some (.aload_n 0, 1, 0, 0, 0) := by decide +kernel
theorem qlw_112 : xe_look (xc 213) 112 = some (.getfield 296, 3, 12, 32, 1222) := by decide +kernel
theorem qlw_115 : xe_look (xc 213) 115 = some (.if_icmp .ge 21, 3, 0, 0, 0) := by decide +kernel
theorem qlw_118 : xe_look (xc 213) 118 = some (.aload_n 0, 1, 0, 0, 0) := by decide +kernel
theorem qlw_119 : xe_look (xc 213) 119 = some (.getfield 86, 3, 12, 42, 1150) := by decide +kernel
theorem qlw_122 : xe_look (xc 213) 122 = some (.iload_n 3, 1, 0, 0, 0) := by decide +kernel
theorem qlw_123 : xe_look (xc 213) 123 = some (.aload_n 0, 1, 0, 0, 0) := by decide +kernel
theorem qlw_124 : xe_look (xc 213) 124 = some (.getfield 68, 3, 12, 36, 1194) := by decide +kernel
theorem qlw_127 : xe_look (xc 213) 127 = some (.iload_n 3, 1, 0, 0, 0) := by decide +kernel
theorem qlw_128 : xe_look (xc 213) 128 = some (.iaload, 1, 0, 0, 0) := by decide +kernel
theorem qlw_129 : xe_look (xc 213) 129 = some (.iastore, 1, 0, 0, 0) := by decide +kernel
theorem qlw_130 : xe_look (xc 213) 130 = some (.iinc 3 1, 3, 0, 0, 0) := by decide +kernel
theorem qlw_133 : xe_look (xc 213) 133 = some (.goto (-23), 3, 0, 0, 0) := by decide +kernel
theorem qlw_136 : xe_look (xc 213) 136 = some (.iconst 0, 1, 0, 0, 0) := by decide +kernel
theorem qlw_137 : xe_look (xc 213) 137 = some (.istore_n 3, 1, 0, 0, 0) := by decide +kernel
theorem qlw_138 : xe_look (xc 213) 138 = some (.iload_n 3, 1, 0, 0, 0) := by decide +kernel
theorem qlw_139 : xe_look (xc 213) 139 = some (.aload_n 0, 1, 0, 0, 0) := by decide +kernel
theorem qlw_140 : xe_look (xc 213) 140 = some (.getfield 353, 3, 12, 34, 1230) := by decide +kernel
theorem qlw_143 : xe_look (xc 213) 143 = some (.if_icmp .ge 57, 3, 0, 0, 0) := by decide +kernel
theorem qlw_146 : xe_look (xc 213) 146 = some (.aload_n 0, 1, 0, 0, 0) := by decide +kernel
theorem qlw_147 : xe_look (xc 213) 147 = some (.getfield 89, 3, 12, 43, 1125) := by decide +kernel
theorem qlw_150 : xe_look (xc 213) 150 = some (.iload_n 3, 1, 0, 0, 0) := by decide +kernel
theorem qlw_151 : xe_look (xc 213) 151 = some (.aload_n 0, 1, 0, 0, 0) := by decide +kernel
theorem qlw_152 : xe_look (xc 213) 152 = some (.getfield 74, 3, 12, 38, 1195) := by decide +kernel
theorem qlw_155 : xe_look (xc 213) 155 = some (.iload_n 3, 1, 0, 0, 0) := by decide +kernel
theorem qlw_156 : xe_look (xc 213) 156 = some (.iaload, 1, 0, 0, 0) := by decide +kernel
theorem qlw_157 : xe_look (xc 213) 157 = some (.iastore, 1, 0, 0, 0) := by decide +kernel
theorem qlw_158 : xe_look (xc 213) 158 = some (.aload_n 0, 1, 0, 0, 0) := by decide +kernel
theorem qlw_159 : xe_look (xc 213) 159 = some (.getfield 92, 3, 12, 44, 1129) := by decide +kernel
theorem qlw_162 : xe_look (xc 213) 162 = some (.iload_n 3, 1, 0, 0, 0) := by decide +kernel
theorem qlw_163 : xe_look (xc 213) 163 = some (.aload_n 0, 1, 0, 0, 0) := by decide +kernel
theorem qlw_164 : xe_look (xc 213) 164 = some (.getfield 77, 3, 12, 39, 1196) := by decide +kernel
theorem qlw_167 : xe_look (xc 213) 167 = some (.iload_n 3, 1, 0, 0, 0) := by decide +kernel
theorem qlw_168 : xe_look (xc 213) 168 = some (.iaload, 1, 0, 0, 0) := by decide +kernel
theorem qlw_169 : xe_look (xc 213) 169 = some (.iastore, 1, 0, 0, 0) := by decide +kernel
theorem qlw_170 : xe_look (xc 213) 170 = some (.aload_n 0, 1, 0, 0, 0) := by decide +kernel
theorem qlw_171 : xe_look (xc 213) 171 = some (.getfield 95, 3, 12, 45, 1126) := by decide +kernel
theorem qlw_174 : xe_look (xc 213) 174 = some (.iload_n 3, 1, 0, 0, 0) := by decide +kernel
theorem qlw_175 : xe_look (xc 213) 175 = some (.aload_n 0, 1, 0, 0, 0) := by decide +kernel
theorem qlw_176 : xe_look (xc 213) 176 = some (.getfield 80, 3, 12, 40, 1197) := by decide +kernel
theorem qlw_179 : xe_look (xc 213) 179 = some (.iload_n 3, 1, 0, 0, 0) := by decide +kernel
theorem qlw_180 : xe_look (xc 213) 180 = some (.iaload, 1, 0, 0, 0) := by decide +kernel
theorem qlw_181 : xe_look (xc 213) 181 = some (.iastore, 1, 0, 0, 0) := by decide +kernel
theorem qlw_182 : xe_look (xc 213) 182 = some (.aload_n 0, 1, 0, 0, 0) := by decide +kernel
theorem qlw_183 : xe_look (xc 213) 183 = some (.getfield 98, 3, 12, 46, 1127) := by decide +kernel
theorem qlw_186 : xe_look (xc 213) 186 = some (.iload_n 3, 1, 0, 0, 0) := by decide +kernel
theorem qlw_187 : xe_look (xc 213) 187 = some (.aload_n 0, 1, 0, 0, 0) := by decide +kernel
theorem qlw_188 : xe_look (xc 213) 188 = some (.getfield 83, 3, 12, 41, 1198) := by decide +kernel
theorem qlw_191 : xe_look (xc 213) 191 = some (.iload_n 3, 1, 0, 0, 0) := by decide +kernel
theorem qlw_192 : xe_look (xc 213) 192 = some (.iaload, 1, 0, 0, 0) := by decide +kernel
theorem qlw_193 : xe_look (xc 213) 193 = some (.iastore, 1, 0, 0, 0) := by decide +kernel
theorem qlw_194 : xe_look (xc 213) 194 = some (.iinc 3 1, 3, 0, 0, 0) := by decide +kernel
theorem qlw_197 : xe_look (xc 213) 197 = some (.goto (-59), 3, 0, 0, 0) := by decide +kernel
theorem qlw_200 : xe_look (xc 213) 200 = some (.aload_n 0, 1, 0, 0, 0) := by decide +kernel
theorem qlw_201 : xe_look (xc 213) 201 = some (.getfield 353, 3, 12, 34, 1230) := by decide +kernel
theorem qlw_204 : xe_look (xc 213) 204 = some (.ireturn, 1, 0, 0, 0) := by decide +kernel
theorem ga_218 : eG (cn 218) = ((-2147483648), 2147483647, []) := by decide +kernel
theorem ga_219 : eG (cn 219) = ((-2147483648), 2147483647, []) := by decide +kernel
theorem ga_220 : eG (cn 220) = ((-2147483648), 2147483647, []) := by decide +kernel
theorem ga_221 : eG (cn 221) = ((-2147483648), 2147483647, []) := by decide +kernel
theorem ga_222 : eG (cn 222) = ((-2147483648), 2147483647, []) := by decide +kernel
theorem ga_223 : eG (cn 223) = ((-2147483648), 2147483647, []) := by decide +kernel
theorem ga_224 : eG (cn 224) = ((-2147483648), 2147483647, []) := by decide +kernel
theorem ga_225 : eG (cn 225) = ((-2147483648), 2147483647, []) := by decide +kernel
theorem ga_226 : eG (cn 226) = ((-2147483648), 2147483647, []) := by decide +kernel
theorem gf_34 : eG (cn 196 + 34) = ((-2147483648), 2147483647, []) := by decide +kernel
def Wq : Nat := Wu ||| (2 ^ (cn 196 + 34) ||| (2 ^ cn 218 ||| (2 ^ cn 219 ||| (2 ^ cn 220 ||| 2 ^ cn 221))))
theorem Wq_f : Wq.testBit (cn 196 + 18) = true ∧ Wq.testBit (cn 196 + 20) = true ∧ Wq.testBit (cn 196 + 31) = true ∧ Wq.testBit (cn 196 + 33) = true ∧ Wq.testBit (cn 196 + 34) = true ∧ Wq.testBit (cn 218) = true ∧ Wq.testBit (cn 219) = true ∧ Wq.testBit (cn 220) = true ∧ Wq.testBit (cn 221) = true ∧ Wu &&& Wq = Wu := by decide +kernel
theorem Wu_z : Wu.testBit (cn 196 + 34) = false ∧ Wu.testBit (cn 218) = false ∧ Wu.testBit (cn 219) = false ∧ Wu.testBit (cn 220) = false ∧ Wu.testBit (cn 221) = false := by decide +kernel
def qI (g : pH) : Prop := (0 ≤ fF g 32 ∧ fF g 32 ≤ fF g 18 ∧ 0 ≤ fF g 34 ∧ fF g 34 ≤ 16) ∧ ∀ q : Nat, (q : Int) < fF g 34 → ∃ D1 D2 : Nat → Nat, cOK (fA g 216) D1 (fA g 219 q) (fA g 220 q) ∧ cOK (fA g 216) D2 (fA g 220 q) (fA g 221 q) ∧ fA g 221 q ≤ fF g 32
set_option maxHeartbeats 16000000 in
theorem cl_run {d : Nat} (hd : 8 ≤ d) {h0 g : pH} (hJ : J_ Wq h0 g) (hI : qI g) (hp : 0 ≤ fF g 18 ∧ fF g 18 ≤ fF g 19 ∧ fF g 19 ≤ 240) {P : Option pv × pH → Prop} (h1 : ∀ g1 : pH, J_ Wq h0 g1 → qI g1 → fF g 18 < fF g1 18 → fF g1 18 ≤ fF g1 19 → fF g1 19 = fF g 19 → P (some (oI 1), g1)) (h2 : ∀ g1 : pH, J_ Wq h0 g1 → P (some (oI 0), g1)) {lv : List (Nat × pv)} (l0 : px_lg lv 0 = some (pvR 196)) : t_X d 233 0 lv [] g P := by
  obtain ⟨w_18, w_20, w_31, w_33, w_34, w_a218, w_a219, w_a220, w_a221, wuq⟩ := Wq_f
  have hI1 := hI.1
  refine t_0 qcl_0 rfl (ld_a l0) ?_
  refine t_3 qcl_1 rfl (ar := ([pvR 196], [])) (pcal_v0 rfl rfl el_196) ⟨by omega, Nat.le_of_ble_eq_true rfl, Nat.le_of_ble_eq_true rfl, rfl⟩ ?_
  refine he_run hJ.1 (by omega) (by omega) ?_ rfl
  have hv1 := hV_b g
  have hn1 := hV_n g
  show t_X d 233 4 lv [oI (hV g)] g P
  refine t_2 qcl_4 rfl (w := (px_s1 lv 1 (oI (hV g)), [])) rfl ?_
  replace l0 : px_lg (px_s1 lv 1 (oI (hV g))) 0 = some (pvR 196) := s1_ne (by decide) (fun _ => rfl) l0
  have l1 : px_lg (px_s1 lv 1 (oI (hV g))) 1 = some (oI (hV g)) := s1_eq
  generalize px_s1 lv 1 (oI (hV g)) = lv2 at l0 l1 ⊢
  show t_X d 233 5 lv2 [] g P
  refine t_0 qcl_5 rfl (ld_i l1) ?_
  refine t_3 qcl_6 rfl (ar := ([oI (hV g)], [])) (pcal_s ⟨Or.inl rfl, rfl, Nat.le_of_ble_eq_true rfl⟩) ⟨by omega, Nat.le_of_ble_eq_true rfl, Nat.le_of_ble_eq_true rfl, rfl⟩ ?_
  refine ic_run ⟨by omega, by omega⟩ (fun t3 => ?_) ?_ rfl
  · show t_X d 233 9 lv2 [oI (1)] g P
    refine tz_ne qcl_9 (by decide) ⟨by omega, by omega⟩ (fun c4 => ?_) (fun c4 => absurd c4 (by omega))
    show t_X d 233 22 lv2 [] g P
    refine t_0 qcl_22 rfl (ld_a l0) ?_
    have r5 := fF_b g 34
    refine t_0 qcl_23 rfl (pq_gf (y := 34) rfl) ?_
    refine t_0 qcl_26 rfl (pq_b (by decide)) ?_
    refine tb_ne qcl_28 (by decide) ⟨by omega, by omega⟩ ⟨by omega, by omega⟩ (fun c6 => ?_) (fun c6 => ?_)
    · show t_X d 233 41 lv2 [] g P
      refine t_0 qcl_41 rfl (ld_a l0) ?_
      refine t_0 qcl_42 rfl (ar_38 hJ.1) ?_
      refine t_0 qcl_45 rfl (ld_a l0) ?_
      have r7 := fF_b g 34
      refine t_0 qcl_46 rfl (pq_gf (y := 34) rfl) ?_
      refine t_0 qcl_49 rfl (ld_i l1) ?_
      refine tw_a qcl_50 hJ el_218 rfl w_a218 ga_218 (by decide) ⟨by omega, by omega⟩ ⟨by omega, by omega⟩ (fun g8 hJ8 a8 v8 b8 f8 => ?_)
      replace f8 := fF_1 f8
      have q8_18 := congrFun f8 18
      have q8_19 := congrFun f8 19
      have q8_32 := congrFun f8 32
      have q8_33 := congrFun f8 33
      have q8_34 := congrFun f8 34
      show t_X d 233 51 lv2 [] g8 P
      refine t_0 qcl_51 rfl (ld_a l0) ?_
      refine t_0 qcl_52 rfl (ld_a l0) ?_
      have r9 := fF_b g8 18
      refine t_0 qcl_53 rfl (pq_gf (y := 18) rfl) ?_
      refine t_0 qcl_56 rfl rfl ?_
      refine t_0 qcl_57 rfl pq_add ?_
      refine tw_f qcl_58 rfl hJ8 w_18 gf_18 (by decide) ⟨by omega, by omega⟩ (fun g10 hJ10 v10 f10 a10 => ?_)
      replace a10 := fA_2 a10
      have q10_19 := f10 19 (by decide)
      have q10_32 := f10 32 (by decide)
      have q10_33 := f10 33 (by decide)
      have q10_34 := f10 34 (by decide)
      show t_X d 233 61 lv2 [] g10 P
      refine t_0 qcl_61 rfl (ld_a l0) ?_
      refine t_0 qcl_62 rfl (ar_39 hJ10.1) ?_
      refine t_0 qcl_65 rfl (ld_a l0) ?_
      have r11 := fF_b g10 34
      refine t_0 qcl_66 rfl (pq_gf (y := 34) rfl) ?_
      refine t_0 qcl_69 rfl (ld_a l0) ?_
      have r12 := fF_b g10 32
      refine t_0 qcl_70 rfl (pq_gf (y := 32) rfl) ?_
      refine tw_a qcl_73 hJ10 el_219 rfl w_a219 ga_219 (by decide) ⟨by omega, by omega⟩ ⟨by omega, by omega⟩ (fun g13 hJ13 a13 v13 b13 f13 => ?_)
      replace f13 := fF_1 f13
      have q13_18 := congrFun f13 18
      have q13_19 := congrFun f13 19
      have q13_32 := congrFun f13 32
      have q13_33 := congrFun f13 33
      have q13_34 := congrFun f13 34
      show t_X d 233 74 lv2 [] g13 P
      refine t_0 qcl_74 rfl (ld_a l0) ?_
      refine t_0 qcl_75 rfl rfl ?_
      refine tw_f qcl_76 rfl hJ13 w_31 gf_31 (by decide) ⟨by omega, by omega⟩ (fun g14 hJ14 v14 f14 a14 => ?_)
      replace a14 := fA_2 a14
      have q14_18 := f14 18 (by decide)
      have q14_19 := f14 19 (by decide)
      have q14_32 := f14 32 (by decide)
      have q14_33 := f14 33 (by decide)
      have q14_34 := f14 34 (by decide)
      show t_X d 233 79 lv2 [] g14 P
      refine t_0 qcl_79 rfl (ld_a l0) ?_
      refine t_0 qcl_80 rfl rfl ?_
      refine tw_f qcl_81 rfl hJ14 w_33 gf_33 (by decide) ⟨by omega, by omega⟩ (fun g15 hJ15 v15 f15 a15 => ?_)
      replace a15 := fA_2 a15
      have q15_18 := f15 18 (by decide)
      have q15_19 := f15 19 (by decide)
      have q15_32 := f15 32 (by decide)
      have q15_34 := f15 34 (by decide)
      show t_X d 233 84 lv2 [] g15 P
      refine t_0 qcl_84 rfl (ld_a l0) ?_
      refine t_3 qcl_85 rfl (ar := ([pvR 196], [])) (pcal_v0 rfl rfl el_196) ⟨by omega, Nat.le_of_ble_eq_true rfl, Nat.le_of_ble_eq_true rfl, rfl⟩ ?_
      refine sm_run (h0 := g15) (by omega) (J_rf hJ15.1) (c0 := (fF g15 32).toNat) (b := 0) (by omega) (by omega) ⟨by omega, by omega, by omega⟩ (by show ((fF g15 32).toNat : Int) + 0 ≤ _; omega) (fun j hj => absurd hj (Nat.not_lt_zero j)) (fun g16 A16 G16 w16 p16 u16 x16 => ?_) (fun g50016 A50016 => ?_) rfl
      · have hJ16 := J_up wuq hJ15 A16
        have z16_34 := fF_M A16.2 Wu_z.1
        have sk16 := sJ_c G16 (by show ((fF g15 32).toNat : Int) + 0 ≤ _; omega)
        have sl16 := G16.1.1
        show t_X d 233 88 lv2 [oI (1)] g16 P
        refine tz_ne qcl_88 (by decide) ⟨by omega, by omega⟩ (fun c17 => ?_) (fun c17 => absurd c17 (by omega))
        show t_X d 233 93 lv2 [] g16 P
        refine t_0 qcl_93 rfl (ld_a l0) ?_
        refine t_0 qcl_94 rfl (ar_40 hJ16.1) ?_
        refine t_0 qcl_97 rfl (ld_a l0) ?_
        have r18 := fF_b g16 34
        refine t_0 qcl_98 rfl (pq_gf (y := 34) rfl) ?_
        refine t_0 qcl_101 rfl (ld_a l0) ?_
        have r19 := fF_b g16 32
        refine t_0 qcl_102 rfl (pq_gf (y := 32) rfl) ?_
        refine tw_a qcl_105 hJ16 el_220 rfl w_a220 ga_220 (by decide) ⟨by omega, by omega⟩ ⟨by omega, by omega⟩ (fun g20 hJ20 a20 v20 b20 f20 => ?_)
        replace f20 := fF_1 f20
        have q20_18 := congrFun f20 18
        have q20_19 := congrFun f20 19
        have q20_32 := congrFun f20 32
        have q20_33 := congrFun f20 33
        have q20_34 := congrFun f20 34
        show t_X d 233 106 lv2 [] g20 P
        refine t_0 qcl_106 rfl (ld_a l0) ?_
        refine t_3 qcl_107 rfl (ar := ([pvR 196], [])) (pcal_v0 rfl rfl el_196) ⟨by omega, Nat.le_of_ble_eq_true rfl, Nat.le_of_ble_eq_true rfl, rfl⟩ ?_
        refine cn_run (h0 := g20) (by omega) (J_rf hJ20.1) (a := (fF g20 32).toNat) (by omega) ⟨by omega, by omega, by omega⟩ (fun g21 A21 K21 L21 c21 p21 u21 x21 => ?_) (fun g50021 A50021 => ?_) rfl
        · have hJ21 := J_up wuq hJ20 A21
          have z21_34 := fF_M A21.2 Wu_z.1
          show t_X d 233 110 lv2 [oI (1)] g21 P
          refine tz_ne qcl_110 (by decide) ⟨by omega, by omega⟩ (fun c22 => ?_) (fun c22 => absurd c22 (by omega))
          show t_X d 233 115 lv2 [] g21 P
          refine t_0 qcl_115 rfl (ld_a l0) ?_
          refine t_0 qcl_116 rfl (ar_41 hJ21.1) ?_
          refine t_0 qcl_119 rfl (ld_a l0) ?_
          have r23 := fF_b g21 34
          refine t_0 qcl_120 rfl (pq_gf (y := 34) rfl) ?_
          refine t_0 qcl_123 rfl (ld_a l0) ?_
          have r24 := fF_b g21 32
          refine t_0 qcl_124 rfl (pq_gf (y := 32) rfl) ?_
          refine tw_a qcl_127 hJ21 el_221 rfl w_a221 ga_221 (by decide) ⟨by omega, by omega⟩ ⟨by omega, by omega⟩ (fun g25 hJ25 a25 v25 b25 f25 => ?_)
          replace f25 := fF_1 f25
          have q25_18 := congrFun f25 18
          have q25_19 := congrFun f25 19
          have q25_32 := congrFun f25 32
          have q25_33 := congrFun f25 33
          have q25_34 := congrFun f25 34
          show t_X d 233 128 lv2 [] g25 P
          refine t_0 qcl_128 rfl (ld_a l0) ?_
          refine t_0 qcl_129 rfl (ld_a l0) ?_
          have r26 := fF_b g25 34
          refine t_0 qcl_130 rfl (pq_gf (y := 34) rfl) ?_
          refine t_0 qcl_133 rfl rfl ?_
          refine t_0 qcl_134 rfl pq_add ?_
          refine tw_f qcl_135 rfl hJ25 w_34 gf_34 (by decide) ⟨by omega, by omega⟩ (fun g27 hJ27 v27 f27 a27 => ?_)
          replace a27 := fA_2 a27
          have q27_18 := f27 18 (by decide)
          have q27_19 := f27 19 (by decide)
          have q27_32 := f27 32 (by decide)
          have q27_33 := f27 33 (by decide)
          show t_X d 233 138 lv2 [] g27 P
          refine t_0 qcl_138 rfl rfl ?_
          refine t_5 qcl_139 rfl rfl ?_
          have E0 : fA g15 216 = fA g 216 := by rw [a15, a14, a13 216 (by decide), a10, a8 216 (by decide)]
          have E1 : fA g20 216 = fA g16 216 := by rw [a20 216 (by decide)]
          have E2 : fA g27 216 = fA g21 216 := by rw [a27, a25 216 (by decide)]
          have F219 : fA g27 219 = fA g13 219 := by rw [a27, a25 219 (by decide), fA_M A21.2 Wu_z.2.2.1, a20 219 (by decide), fA_M A16.2 Wu_z.2.2.1, a15, a14]
          have F220 : fA g27 220 = fA g20 220 := by rw [a27, a25 220 (by decide), fA_M A21.2 Wu_z.2.2.2.1]
          have F221 : fA g27 221 = fA g25 221 := by rw [a27]
          have H219 : ∀ q : Nat, (q : Int) < fF g 34 → fA g27 219 q = fA g 219 q := fun q hq => by rw [F219, b13 q (by omega), a10, a8 219 (by decide)]
          have H220 : ∀ q : Nat, (q : Int) < fF g 34 → fA g27 220 q = fA g 220 q := fun q hq => by rw [F220, b20 q (by omega), fA_M A16.2 Wu_z.2.2.2.1, a15, a14, a13 220 (by decide), a10, a8 220 (by decide)]
          have H221 : ∀ q : Nat, (q : Int) < fF g 34 → fA g27 221 q = fA g 221 q := fun q hq => by rw [F221, b25 q (by omega), fA_M A21.2 Wu_z.2.2.2.2, a20 221 (by decide), fA_M A16.2 Wu_z.2.2.2.2, a15, a14, a13 221 (by decide), a10, a8 221 (by decide)]
          have B1 : ∀ u : Nat, (u : Int) < fF g 32 → fA g27 216 u = fA g 216 u := fun u hu => by rw [E2, L21 u (by omega), E1, G16.2.2.1 u (by omega), E0]
          have B2 : ∀ u : Nat, (u : Int) < fF g16 32 → fA g27 216 u = fA g16 216 u := fun u hu => by rw [E2, L21 u (by omega), E1]
          obtain ⟨D3, hD3⟩ := sJ_fin G16 (by omega)
          obtain ⟨D4, hD4⟩ := K21
          refine h1 _ hJ27 ⟨⟨by omega, by omega, by omega, by omega⟩, fun q hq => ?_⟩ (by omega) (by omega) (by omega)
          by_cases hq2 : (q : Int) < fF g 34
          · obtain ⟨D1, D2, y1, y2, y3⟩ := hI.2 q hq2
            rw [H219 q hq2, H220 q hq2, H221 q hq2]
            have z1 := y2.2.1
            exact ⟨D1, D2, cOK_e y1 (fun u u1 u2 => B1 u (by omega)), cOK_e y2 (fun u u1 u2 => B1 u (by omega)), by omega⟩
          · have q1 : fA g27 219 q = fF g 32 := by
              rw [F219, show q = (fF g10 34).toNat by omega, v13]
              omega
            have q2 : fA g27 220 q = fF g16 32 := by
              rw [F220, show q = (fF g16 34).toNat by omega, v20]
            have q3 : fA g27 221 q = fF g21 32 := by
              rw [F221, show q = (fF g21 34).toNat by omega, v25]
            rw [q1, q2, q3]
            refine ⟨D3, D4, ?_, ?_, by omega⟩
            · rw [show fF g 32 = (((fF g15 32).toNat : Nat) : Int) by omega]
              exact cOK_e hD3 (fun u u1 u2 => B2 u (by omega))
            · rw [show fF g16 32 = (((fF g20 32).toNat : Nat) : Int) by omega, E2]
              exact hD4
        · have hJ50021 := J_up wuq hJ20 A50021
          show t_X d 233 110 lv2 [oI (0)] g50021 P
          refine tz_ne qcl_110 (by decide) ⟨by omega, by omega⟩ (fun c28 => absurd c28 (by omega)) (fun c28 => ?_)
          show t_X d 233 113 lv2 [] g50021 P
          refine t_0 qcl_113 rfl rfl ?_
          refine t_5 qcl_114 rfl rfl ?_
          exact h2 _ hJ50021
      · have hJ50016 := J_up wuq hJ15 A50016
        show t_X d 233 88 lv2 [oI (0)] g50016 P
        refine tz_ne qcl_88 (by decide) ⟨by omega, by omega⟩ (fun c29 => absurd c29 (by omega)) (fun c29 => ?_)
        show t_X d 233 91 lv2 [] g50016 P
        refine t_0 qcl_91 rfl rfl ?_
        refine t_5 qcl_92 rfl rfl ?_
        exact h2 _ hJ50016
    · show t_X d 233 31 lv2 [] g P
      refine t_0 qcl_31 rfl (ld_a l0) ?_
      refine t_0 qcl_32 rfl rfl ?_
      refine t_0 qcl_33 rfl (ld_a l0) ?_
      have r30 := fF_b g 18
      refine t_0 qcl_34 rfl (pq_gf (y := 18) rfl) ?_
      refine t_3 qcl_37 rfl (ar := ([pvR 196, oI (4), oI (fF g 18)], [])) (pcal_v2 rfl rfl el_196) ⟨by omega, Nat.le_of_ble_eq_true rfl, Nat.le_of_ble_eq_true rfl, rfl⟩ ?_
      refine wr_run hJ w_20 (fun g31 hJ31 f31 a31 => ?_) rfl rfl rfl
      have q31_18 := f31 18 (by decide)
      have q31_19 := f31 19 (by decide)
      have q31_32 := f31 32 (by decide)
      have q31_33 := f31 33 (by decide)
      have q31_34 := f31 34 (by decide)
      show t_X d 233 40 lv2 [oI (0)] g31 P
      refine t_5 qcl_40 rfl rfl ?_
      exact h2 _ hJ31
  · show t_X d 233 9 lv2 [oI (0)] g P
    refine tz_ne qcl_9 (by decide) ⟨by omega, by omega⟩ (fun c32 => absurd c32 (by omega)) (fun c32 => ?_)
    show t_X d 233 12 lv2 [] g P
    refine t_0 qcl_12 rfl (ld_a l0) ?_
    refine t_0 qcl_13 rfl rfl ?_
    refine t_0 qcl_14 rfl (ld_a l0) ?_
    have r33 := fF_b g 18
    refine t_0 qcl_15 rfl (pq_gf (y := 18) rfl) ?_
    refine t_3 qcl_18 rfl (ar := ([pvR 196, oI (1), oI (fF g 18)], [])) (pcal_v2 rfl rfl el_196) ⟨by omega, Nat.le_of_ble_eq_true rfl, Nat.le_of_ble_eq_true rfl, rfl⟩ ?_
    refine wr_run hJ w_20 (fun g34 hJ34 f34 a34 => ?_) rfl rfl rfl
    have q34_18 := f34 18 (by decide)
    have q34_19 := f34 19 (by decide)
    have q34_32 := f34 32 (by decide)
    have q34_33 := f34 33 (by decide)
    have q34_34 := f34 34 (by decide)
    show t_X d 233 21 lv2 [oI (0)] g34 P
    refine t_5 qcl_21 rfl rfl ?_
    exact h2 _ hJ34
def Wm : Nat := Wq ||| (2 ^ (cn 196 + 17) ||| 2 ^ (cn 196 + 19)) ||| (2 ^ (cn 196 + 32))
def WL : Nat := Wm ||| (2 ^ (cn 196 + 35) ||| (2 ^ cn 222 ||| (2 ^ cn 223 ||| (2 ^ cn 224 ||| (2 ^ cn 225 ||| 2 ^ cn 226)))))
theorem Wm_f : Wm.testBit (cn 196 + 17) = true ∧ Wm.testBit (cn 196 + 18) = true ∧ Wm.testBit (cn 196 + 19) = true ∧ Wm.testBit (cn 196 + 20) = true ∧ Wm.testBit (cn 196 + 32) = true ∧ Wm.testBit (cn 196 + 34) = true ∧ Wq &&& Wm = Wq ∧ Wm &&& eDX = 0 ∧ Wm &&& WL = Wm := by decide +kernel
theorem WL_f : WL.testBit (cn 196 + 35) = true ∧ WL.testBit (cn 222) = true ∧ WL.testBit (cn 223) = true ∧ WL.testBit (cn 224) = true ∧ WL.testBit (cn 225) = true ∧ WL.testBit (cn 226) = true := by decide +kernel
set_option maxHeartbeats 16000000 in
theorem lw_2 {d : Nat} {h0 b cb : pH} (hI : qI b) (h35b : fF cb 35 = fF b 34) (h34b : fF cb 34 = fF b 34) (hc : ∀ u : Nat, (u : Int) < fF b 32 → fA cb 222 u = fA b 216 u) {P : Option pv × pH → Prop} (hP : ∀ (g1 : pH) (z : Int), J_ WL h0 g1 → xL g1 → P (some (oI z), g1)) : ∀ (m k : Nat) (g : pH) (lv : List (Nat × pv)), fF b 34 - k ≤ m → (k : Int) ≤ 16 → J_ WL h0 g → (∀ u, fF g u = fF cb u) → (fA g 222 = fA cb 222 ∧ fA g 219 = fA b 219 ∧ fA g 220 = fA b 220 ∧ fA g 221 = fA b 221) → (∀ j : Nat, j < k → fA g 224 j = fA b 219 j ∧ fA g 225 j = fA b 220 j ∧ fA g 226 j = fA b 221 j) → px_lg lv 0 = some (pvR 196) → px_lg lv 3 = some (oI (k : Int)) → t_X d 213 138 lv [] g P := by
  obtain ⟨w_35, w_a222, w_a223, w_a224, w_a225, w_a226⟩ := WL_f
  have hI1 := hI.1
  intro m
  induction m with
  | zero =>
    intro k g lv hm hk hJ hF hA hB l0 l3
    have hf34 := hF 34
    refine t_0 qlw_138 rfl (ld_i l3) ?_
    refine t_0 qlw_139 rfl (ld_a l0) ?_
    have r1 := fF_b g 34
    refine t_0 qlw_140 rfl (pq_gf (y := 34) rfl) ?_
    refine tb_ge qlw_143 (by decide) ⟨by omega, by omega⟩ ⟨by omega, by omega⟩ (fun c2 => ?_) (fun c2 => absurd c2 (by omega))
    show t_X d 213 200 lv [] g P
    refine t_0 qlw_200 rfl (ld_a l0) ?_
    have r3 := fF_b g 34
    refine t_0 qlw_201 rfl (pq_gf (y := 34) rfl) ?_
    refine t_5 qlw_204 rfl rfl ?_
    refine hP _ _ hJ ?_
    intro q hq
    have h35 := hF 35
    have h34 := hF 34
    have h32 := hF 32
    obtain ⟨D1, D2, y1, y2, y3⟩ := hI.2 q (by omega)
    obtain ⟨x1, x2, x3⟩ := hB q (by omega)
    have z1 := y2.2.1
    rw [x1, x2, x3, hA.1]
    exact ⟨D1, D2, cOK_e y1 (fun u u1 u2 => hc u (by omega)), cOK_e y2 (fun u u1 u2 => hc u (by omega))⟩
  | succ m ih =>
    intro k g lv hm hk hJ hF hA hB l0 l3
    have hf34 := hF 34
    by_cases hks : fF b 34 ≤ k
    · refine t_0 qlw_138 rfl (ld_i l3) ?_
      refine t_0 qlw_139 rfl (ld_a l0) ?_
      have r1 := fF_b g 34
      refine t_0 qlw_140 rfl (pq_gf (y := 34) rfl) ?_
      refine tb_ge qlw_143 (by decide) ⟨by omega, by omega⟩ ⟨by omega, by omega⟩ (fun c2 => ?_) (fun c2 => absurd c2 (by omega))
      show t_X d 213 200 lv [] g P
      refine t_0 qlw_200 rfl (ld_a l0) ?_
      have r3 := fF_b g 34
      refine t_0 qlw_201 rfl (pq_gf (y := 34) rfl) ?_
      refine t_5 qlw_204 rfl rfl ?_
      refine hP _ _ hJ ?_
      intro q hq
      have h35 := hF 35
      have h34 := hF 34
      have h32 := hF 32
      obtain ⟨D1, D2, y1, y2, y3⟩ := hI.2 q (by omega)
      obtain ⟨x1, x2, x3⟩ := hB q (by omega)
      have z1 := y2.2.1
      rw [x1, x2, x3, hA.1]
      exact ⟨D1, D2, cOK_e y1 (fun u u1 u2 => hc u (by omega)), cOK_e y2 (fun u u1 u2 => hc u (by omega))⟩
    refine t_0 qlw_138 rfl (ld_i l3) ?_
    refine t_0 qlw_139 rfl (ld_a l0) ?_
    have r1 := fF_b g 34
    refine t_0 qlw_140 rfl (pq_gf (y := 34) rfl) ?_
    refine tb_ge qlw_143 (by decide) ⟨by omega, by omega⟩ ⟨by omega, by omega⟩ (fun c2 => absurd c2 (by omega)) (fun c2 => ?_)
    show t_X d 213 146 lv [] g P
    refine t_0 qlw_146 rfl (ld_a l0) ?_
    refine t_0 qlw_147 rfl (ar_43 hJ.1) ?_
    refine t_0 qlw_150 rfl (ld_i l3) ?_
    refine t_0 qlw_151 rfl (ld_a l0) ?_
    refine t_0 qlw_152 rfl (ar_38 hJ.1) ?_
    refine t_0 qlw_155 rfl (ld_i l3) ?_
    refine t_0 qlw_156 rfl (pq_ia el_218 rfl ⟨by omega, by omega⟩) ?_
    have r3 := fA_b g 218 (k : Int).toNat
    refine tw_a qlw_157 hJ el_223 rfl w_a223 ga_223 (by decide) ⟨by omega, by omega⟩ ⟨by omega, by omega⟩ (fun g4 hJ4 a4 v4 b4 f4 => ?_)
    replace f4 := fF_1 f4
    have q4_32 := congrFun f4 32
    have q4_34 := congrFun f4 34
    show t_X d 213 158 lv [] g4 P
    refine t_0 qlw_158 rfl (ld_a l0) ?_
    refine t_0 qlw_159 rfl (ar_44 hJ4.1) ?_
    refine t_0 qlw_162 rfl (ld_i l3) ?_
    refine t_0 qlw_163 rfl (ld_a l0) ?_
    refine t_0 qlw_164 rfl (ar_39 hJ4.1) ?_
    refine t_0 qlw_167 rfl (ld_i l3) ?_
    refine t_0 qlw_168 rfl (pq_ia el_219 rfl ⟨by omega, by omega⟩) ?_
    have r5 := fA_b g4 219 (k : Int).toNat
    refine tw_a qlw_169 hJ4 el_224 rfl w_a224 ga_224 (by decide) ⟨by omega, by omega⟩ ⟨by omega, by omega⟩ (fun g6 hJ6 a6 v6 b6 f6 => ?_)
    replace f6 := fF_1 f6
    have q6_32 := congrFun f6 32
    have q6_34 := congrFun f6 34
    show t_X d 213 170 lv [] g6 P
    refine t_0 qlw_170 rfl (ld_a l0) ?_
    refine t_0 qlw_171 rfl (ar_45 hJ6.1) ?_
    refine t_0 qlw_174 rfl (ld_i l3) ?_
    refine t_0 qlw_175 rfl (ld_a l0) ?_
    refine t_0 qlw_176 rfl (ar_40 hJ6.1) ?_
    refine t_0 qlw_179 rfl (ld_i l3) ?_
    refine t_0 qlw_180 rfl (pq_ia el_220 rfl ⟨by omega, by omega⟩) ?_
    have r7 := fA_b g6 220 (k : Int).toNat
    refine tw_a qlw_181 hJ6 el_225 rfl w_a225 ga_225 (by decide) ⟨by omega, by omega⟩ ⟨by omega, by omega⟩ (fun g8 hJ8 a8 v8 b8 f8 => ?_)
    replace f8 := fF_1 f8
    have q8_32 := congrFun f8 32
    have q8_34 := congrFun f8 34
    show t_X d 213 182 lv [] g8 P
    refine t_0 qlw_182 rfl (ld_a l0) ?_
    refine t_0 qlw_183 rfl (ar_46 hJ8.1) ?_
    refine t_0 qlw_186 rfl (ld_i l3) ?_
    refine t_0 qlw_187 rfl (ld_a l0) ?_
    refine t_0 qlw_188 rfl (ar_41 hJ8.1) ?_
    refine t_0 qlw_191 rfl (ld_i l3) ?_
    refine t_0 qlw_192 rfl (pq_ia el_221 rfl ⟨by omega, by omega⟩) ?_
    have r9 := fA_b g8 221 (k : Int).toNat
    refine tw_a qlw_193 hJ8 el_226 rfl w_a226 ga_226 (by decide) ⟨by omega, by omega⟩ ⟨by omega, by omega⟩ (fun g10 hJ10 a10 v10 b10 f10 => ?_)
    replace f10 := fF_1 f10
    have q10_32 := congrFun f10 32
    have q10_34 := congrFun f10 34
    show t_X d 213 194 lv [] g10 P
    refine t_2 qlw_194 rfl (w := (px_s1 lv 3 (oI ((k : Int) + 1)), [])) (pq_inc l3 (by decide)) ?_
    replace l0 : px_lg (px_s1 lv 3 (oI ((k : Int) + 1))) 0 = some (pvR 196) := s1_ne (by decide) (fun _ => rfl) l0
    have l3 : px_lg (px_s1 lv 3 (oI ((k : Int) + 1))) 3 = some (oI ((k : Int) + 1)) := s1_eq
    generalize px_s1 lv 3 (oI ((k : Int) + 1)) = lv11 at l0 l3 ⊢
    show t_X d 213 197 lv11 [] g10 P
    refine t_1 qlw_197 rfl (pb_goto (pc := 197) (by decide)) ?_
    show t_X d 213 138 lv11 [] g10 P
    refine ih (k + 1) _ _ (by omega) (by omega) hJ10 (fun u => by rw [f10, f8, f6, f4]; exact hF u) ?_ ?_ l0 l3
    · obtain ⟨y1, y2, y3, y4⟩ := hA
      exact ⟨by rw [a10 222 (by decide), a8 222 (by decide), a6 222 (by decide), a4 222 (by decide)]; exact y1, by rw [a10 219 (by decide), a8 219 (by decide), a6 219 (by decide), a4 219 (by decide)]; exact y2, by rw [a10 220 (by decide), a8 220 (by decide), a6 220 (by decide), a4 220 (by decide)]; exact y3, by rw [a10 221 (by decide), a8 221 (by decide), a6 221 (by decide), a4 221 (by decide)]; exact y4⟩
    · intro j hj
      by_cases q : j = k
      · subst q
        refine ⟨?_, ?_, ?_⟩
        · rw [a10 224 (by decide), a8 224 (by decide)]
          exact Eq.trans v6 (by rw [a4 219 (by decide), hA.2.1]; rfl)
        · rw [a10 225 (by decide)]
          exact Eq.trans v8 (by rw [a6 220 (by decide), a4 220 (by decide), hA.2.2.1]; rfl)
        · exact Eq.trans v10 (by rw [a8 221 (by decide), a6 221 (by decide), a4 221 (by decide), hA.2.2.2]; rfl)
      · obtain ⟨y1, y2, y3⟩ := hB j (by omega)
        refine ⟨?_, ?_, ?_⟩
        · rw [a10 224 (by decide), a8 224 (by decide), b6 j (by show j ≠ k; omega), a4 224 (by decide)]
          exact y1
        · rw [a10 225 (by decide), b8 j (by show j ≠ k; omega), a6 225 (by decide), a4 225 (by decide)]
          exact y2
        · rw [b10 j (by show j ≠ k; omega), a8 226 (by decide), a6 226 (by decide), a4 226 (by decide)]
          exact y3
set_option maxHeartbeats 8000000 in
theorem lw_1 {d : Nat} {h0 b cb : pH} (hI : qI b) (hb18 : fF b 18 ≤ 240) (h35b : fF cb 35 = fF b 34) (h34b : fF cb 34 = fF b 34) (h32b : fF cb 32 = fF b 32) {P : Option pv × pH → Prop} (hP : ∀ (g1 : pH) (z : Int), J_ WL h0 g1 → xL g1 → P (some (oI z), g1)) : ∀ (m k : Nat) (g : pH) (lv : List (Nat × pv)), fF b 32 - k ≤ m → (k : Int) ≤ 240 → J_ WL h0 g → (∀ u, fF g u = fF cb u) → (fA g 216 = fA b 216 ∧ fA g 219 = fA b 219 ∧ fA g 220 = fA b 220 ∧ fA g 221 = fA b 221) → (∀ j : Nat, j < k → fA g 222 j = fA b 216 j) → px_lg lv 0 = some (pvR 196) → px_lg lv 3 = some (oI (k : Int)) → t_X d 213 110 lv [] g P := by
  obtain ⟨w_35, w_a222, w_a223, w_a224, w_a225, w_a226⟩ := WL_f
  have hI1 := hI.1
  intro m
  induction m with
  | zero =>
    intro k g lv hm hk hJ hF hA hB l0 l3
    have hf32 := hF 32
    have hf34 := hF 34
    refine t_0 qlw_110 rfl (ld_i l3) ?_
    refine t_0 qlw_111 rfl (ld_a l0) ?_
    have r1 := fF_b g 32
    refine t_0 qlw_112 rfl (pq_gf (y := 32) rfl) ?_
    refine tb_ge qlw_115 (by decide) ⟨by omega, by omega⟩ ⟨by omega, by omega⟩ (fun c2 => ?_) (fun c2 => absurd c2 (by omega))
    show t_X d 213 136 lv [] g P
    refine t_0 qlw_136 rfl rfl ?_
    refine t_2 qlw_137 rfl (w := (px_s1 lv 3 (oI (0)), [])) rfl ?_
    replace l0 : px_lg (px_s1 lv 3 (oI (0))) 0 = some (pvR 196) := s1_ne (by decide) (fun _ => rfl) l0
    have l3 : px_lg (px_s1 lv 3 (oI (0))) 3 = some (oI (0)) := s1_eq
    generalize px_s1 lv 3 (oI (0)) = lv3 at l0 l3 ⊢
    show t_X d 213 138 lv3 [] g P
    have h35 := hF 35
    have h32 := hF 32
    exact lw_2 (d := d) (cb := g) hI (by omega) (by omega) (fun u hu => hB u (by omega)) hP 16 0 _ _ (by omega) (by omega) hJ (fun _ => rfl) ⟨rfl, hA.2.1, hA.2.2.1, hA.2.2.2⟩ (fun j hj => absurd hj (Nat.not_lt_zero j)) l0 l3
  | succ m ih =>
    intro k g lv hm hk hJ hF hA hB l0 l3
    have hf32 := hF 32
    have hf34 := hF 34
    by_cases hks : fF b 32 ≤ k
    · refine t_0 qlw_110 rfl (ld_i l3) ?_
      refine t_0 qlw_111 rfl (ld_a l0) ?_
      have r1 := fF_b g 32
      refine t_0 qlw_112 rfl (pq_gf (y := 32) rfl) ?_
      refine tb_ge qlw_115 (by decide) ⟨by omega, by omega⟩ ⟨by omega, by omega⟩ (fun c2 => ?_) (fun c2 => absurd c2 (by omega))
      show t_X d 213 136 lv [] g P
      refine t_0 qlw_136 rfl rfl ?_
      refine t_2 qlw_137 rfl (w := (px_s1 lv 3 (oI (0)), [])) rfl ?_
      replace l0 : px_lg (px_s1 lv 3 (oI (0))) 0 = some (pvR 196) := s1_ne (by decide) (fun _ => rfl) l0
      have l3 : px_lg (px_s1 lv 3 (oI (0))) 3 = some (oI (0)) := s1_eq
      generalize px_s1 lv 3 (oI (0)) = lv3 at l0 l3 ⊢
      show t_X d 213 138 lv3 [] g P
      have h35 := hF 35
      have h32 := hF 32
      exact lw_2 (d := d) (cb := g) hI (by omega) (by omega) (fun u hu => hB u (by omega)) hP 16 0 _ _ (by omega) (by omega) hJ (fun _ => rfl) ⟨rfl, hA.2.1, hA.2.2.1, hA.2.2.2⟩ (fun j hj => absurd hj (Nat.not_lt_zero j)) l0 l3
    refine t_0 qlw_110 rfl (ld_i l3) ?_
    refine t_0 qlw_111 rfl (ld_a l0) ?_
    have r1 := fF_b g 32
    refine t_0 qlw_112 rfl (pq_gf (y := 32) rfl) ?_
    refine tb_ge qlw_115 (by decide) ⟨by omega, by omega⟩ ⟨by omega, by omega⟩ (fun c2 => absurd c2 (by omega)) (fun c2 => ?_)
    show t_X d 213 118 lv [] g P
    refine t_0 qlw_118 rfl (ld_a l0) ?_
    refine t_0 qlw_119 rfl (ar_42 hJ.1) ?_
    refine t_0 qlw_122 rfl (ld_i l3) ?_
    refine t_0 qlw_123 rfl (ld_a l0) ?_
    refine t_0 qlw_124 rfl (ar_36 hJ.1) ?_
    refine t_0 qlw_127 rfl (ld_i l3) ?_
    refine t_0 qlw_128 rfl (pq_ia el_216 rfl ⟨by omega, by omega⟩) ?_
    have r3 := fA_b g 216 (k : Int).toNat
    refine tw_a qlw_129 hJ el_222 rfl w_a222 ga_222 (by decide) ⟨by omega, by omega⟩ ⟨by omega, by omega⟩ (fun g4 hJ4 a4 v4 b4 f4 => ?_)
    replace f4 := fF_1 f4
    have q4_32 := congrFun f4 32
    have q4_34 := congrFun f4 34
    show t_X d 213 130 lv [] g4 P
    refine t_2 qlw_130 rfl (w := (px_s1 lv 3 (oI ((k : Int) + 1)), [])) (pq_inc l3 (by decide)) ?_
    replace l0 : px_lg (px_s1 lv 3 (oI ((k : Int) + 1))) 0 = some (pvR 196) := s1_ne (by decide) (fun _ => rfl) l0
    have l3 : px_lg (px_s1 lv 3 (oI ((k : Int) + 1))) 3 = some (oI ((k : Int) + 1)) := s1_eq
    generalize px_s1 lv 3 (oI ((k : Int) + 1)) = lv5 at l0 l3 ⊢
    show t_X d 213 133 lv5 [] g4 P
    refine t_1 qlw_133 rfl (pb_goto (pc := 133) (by decide)) ?_
    show t_X d 213 110 lv5 [] g4 P
    refine ih (k + 1) _ _ (by omega) (by omega) hJ4 (fun u => by rw [f4]; exact hF u) ?_ ?_ l0 l3
    · obtain ⟨y1, y2, y3, y4⟩ := hA
      exact ⟨by rw [a4 216 (by decide)]; exact y1, by rw [a4 219 (by decide)]; exact y2, by rw [a4 220 (by decide)]; exact y3, by rw [a4 221 (by decide)]; exact y4⟩
    · intro j hj
      by_cases q : j = k
      · subst q
        exact Eq.trans v4 (by rw [hA.1]; rfl)
      · rw [b4 j (by show j ≠ k; omega)]
        exact hB j (by omega)
theorem J_wide {W V : Nat} {h0 g : pH} (hV : W &&& V = W) (h : J_ W h0 g) : J_ V h0 g := ⟨h.1, f_M_tr hV (f_M_rf V h0) h.2⟩
set_option maxHeartbeats 8000000 in
theorem lw_e {d : Nat} {h0 : pH} (hx : xL h0) {P : Option pv × pH → Prop} (hP : ∀ (g1 : pH) (z : Int), J_ WL h0 g1 → xL g1 → P (some (oI z), g1)) {g : pH} (hJ : J_ Wm h0 g) {x : Int} (hxx : x = 0 ∨ (x = 1 ∧ qI g ∧ fF g 18 ≤ 240)) {lv : List (Nat × pv)} (l0 : px_lg lv 0 = some (pvR 196)) (l2 : px_lg lv 2 = some (oI x)) : t_X d 213 86 lv [] g P := by
  obtain ⟨w_17, w_18, w_19, w_20, w_32, w_34, wqm, wmx, wml⟩ := Wm_f
  obtain ⟨w_35, w_a222, w_a223, w_a224, w_a225, w_a226⟩ := WL_f
  rcases hxx with rfl | ⟨rfl, hI, hp⟩
  · refine t_0 qlw_86 rfl (ld_a l0) ?_
    refine t_0 qlw_87 rfl rfl ?_
    refine tw_f qlw_88 rfl hJ w_17 gf_17 (by decide) ⟨by omega, by omega⟩ (fun g1 hJ1 v1 f1 a1 => ?_)
    replace a1 := fA_2 a1
    have q1_18 := f1 18 (by decide)
    have q1_19 := f1 19 (by decide)
    have q1_32 := f1 32 (by decide)
    have q1_33 := f1 33 (by decide)
    have q1_34 := f1 34 (by decide)
    show t_X d 213 91 lv [] g1 P
    refine t_0 qlw_91 rfl (ld_i l2) ?_
    refine tz_ne qlw_92 (by decide) ⟨by omega, by omega⟩ (fun c2 => absurd c2 (by omega)) (fun c2 => ?_)
    show t_X d 213 95 lv [] g1 P
    refine t_0 qlw_95 rfl (ld_a l0) ?_
    have r3 := fF_b g1 20
    refine t_0 qlw_96 rfl (pq_gf (y := 20) rfl) ?_
    refine t_5 qlw_99 rfl rfl ?_
    exact hP _ _ (J_wide wml hJ1) (xL_K _ _ _ hJ1.2 wmx hx)
  · have hI1 := hI.1
    refine t_0 qlw_86 rfl (ld_a l0) ?_
    refine t_0 qlw_87 rfl rfl ?_
    refine tw_f qlw_88 rfl hJ w_17 gf_17 (by decide) ⟨by omega, by omega⟩ (fun g1 hJ1 v1 f1 a1 => ?_)
    replace a1 := fA_2 a1
    have q1_18 := f1 18 (by decide)
    have q1_19 := f1 19 (by decide)
    have q1_32 := f1 32 (by decide)
    have q1_33 := f1 33 (by decide)
    have q1_34 := f1 34 (by decide)
    show t_X d 213 91 lv [] g1 P
    refine t_0 qlw_91 rfl (ld_i l2) ?_
    refine tz_ne qlw_92 (by decide) ⟨by omega, by omega⟩ (fun c2 => ?_) (fun c2 => absurd c2 (by omega))
    show t_X d 213 100 lv [] g1 P
    have hJw := J_wide wml hJ1
    refine t_0 qlw_100 rfl (ld_a l0) ?_
    refine t_0 qlw_101 rfl (ld_a l0) ?_
    have r3 := fF_b g1 34
    refine t_0 qlw_102 rfl (pq_gf (y := 34) rfl) ?_
    refine tw_f qlw_105 rfl hJw w_35 gf_35 (by decide) ⟨by omega, by omega⟩ (fun g4 hJ4 v4 f4 a4 => ?_)
    replace a4 := fA_2 a4
    have q4_18 := f4 18 (by decide)
    have q4_19 := f4 19 (by decide)
    have q4_32 := f4 32 (by decide)
    have q4_33 := f4 33 (by decide)
    have q4_34 := f4 34 (by decide)
    show t_X d 213 108 lv [] g4 P
    refine t_0 qlw_108 rfl rfl ?_
    refine t_2 qlw_109 rfl (w := (px_s1 lv 3 (oI (0)), [])) rfl ?_
    replace l0 : px_lg (px_s1 lv 3 (oI (0))) 0 = some (pvR 196) := s1_ne (by decide) (fun _ => rfl) l0
    replace l2 : px_lg (px_s1 lv 3 (oI (0))) 2 = some (oI (1)) := s1_ne (by decide) (fun _ => rfl) l2
    have l3 : px_lg (px_s1 lv 3 (oI (0))) 3 = some (oI (0)) := s1_eq
    generalize px_s1 lv 3 (oI (0)) = lv5 at l0 l2 l3 ⊢
    show t_X d 213 110 lv5 [] g4 P
    exact lw_1 (d := d) (b := g) (cb := g4) hI (by omega) (by omega) (by omega) (by omega) hP 240 0 _ _ (by omega) (by omega) hJ4 (fun _ => rfl) ⟨by rw [a4, a1], by rw [a4, a1], by rw [a4, a1], by rw [a4, a1]⟩ (fun j hj => absurd hj (Nat.not_lt_zero j)) l0 l3
theorem lw_z {d : Nat} {h0 : pH} (hx : xL h0) {P : Option pv × pH → Prop} (hP : ∀ (g1 : pH) (z : Int), J_ WL h0 g1 → xL g1 → P (some (oI z), g1)) {g : pH} (hJ : J_ Wm h0 g) {lv : List (Nat × pv)} (l0 : px_lg lv 0 = some (pvR 196)) (l2 : px_lg lv 2 = some (oI 0)) : t_X d 213 46 lv [] g P := by
  refine t_0 qlw_46 rfl (ld_i l2) ?_
  refine tz_eq qlw_47 (by decide) ⟨by omega, by omega⟩ (fun c1 => ?_) (fun c1 => absurd c1 (by omega))
  show t_X d 213 86 lv [] g P
  exact lw_e hx hP hJ (Or.inl rfl) l0 l2
set_option maxHeartbeats 8000000 in
theorem lw_m {d : Nat} (hd : 9 ≤ d) {h0 : pH} (hx : xL h0) {N : Int} (hN : 0 ≤ N ∧ N ≤ 240) {P : Option pv × pH → Prop} (hP : ∀ (g1 : pH) (z : Int), J_ WL h0 g1 → xL g1 → P (some (oI z), g1)) : ∀ (m : Nat) (g : pH) (lv : List (Nat × pv)), N + 1 - fF g 18 ≤ m → (0 ≤ fF g 18 ∧ fF g 18 ≤ N ∧ fF g 19 = N) → qI g → J_ Wm h0 g → px_lg lv 0 = some (pvR 196) → px_lg lv 2 = some (oI 1) → t_X d 213 46 lv [] g P := by
  obtain ⟨w_17, w_18, w_19, w_20, w_32, w_34, wqm, wmx, wml⟩ := Wm_f
  intro m
  induction m with
  | zero =>
    intro g lv hm hp hI hJ l0 l2
    omega
  | succ m ih =>
    intro g lv hm hp hI hJ l0 l2
    have hI1 := hI.1
    refine t_0 qlw_46 rfl (ld_i l2) ?_
    refine tz_eq qlw_47 (by decide) ⟨by omega, by omega⟩ (fun c1 => absurd c1 (by omega)) (fun c1 => ?_)
    show t_X d 213 50 lv [] g P
    refine t_0 qlw_50 rfl (ld_a l0) ?_
    have r2 := fF_b g 18
    refine t_0 qlw_51 rfl (pq_gf (y := 18) rfl) ?_
    refine t_0 qlw_54 rfl (ld_a l0) ?_
    have r3 := fF_b g 19
    refine t_0 qlw_55 rfl (pq_gf (y := 19) rfl) ?_
    refine tb_ge qlw_58 (by decide) ⟨by omega, by omega⟩ ⟨by omega, by omega⟩ (fun c4 => ?_) (fun c4 => ?_)
    · show t_X d 213 86 lv [] g P
      exact lw_e hx hP hJ (Or.inr ⟨rfl, hI, by omega⟩) l0 l2
    · show t_X d 213 61 lv [] g P
      refine t_0 qlw_61 rfl (ld_a l0) ?_
      refine t_0 qlw_62 rfl (pq_b (by decide)) ?_
      refine t_3 qlw_64 rfl (ar := ([pvR 196, oI (59)], [])) (pcal_v1 rfl rfl el_196) ⟨by omega, Nat.le_of_ble_eq_true rfl, Nat.le_of_ble_eq_true rfl, rfl⟩ ?_
      refine tk_run (by omega) hJ w_18 w_20 (by omega) (by omega) (by decide) (fun g5 p5 u5 hJ5 f5 a5 => ?_) (fun g50005 hJ50005 => ?_) rfl rfl
      · have q5_19 := f5 19 (by decide)
        have q5_32 := f5 32 (by decide)
        have q5_34 := f5 34 (by decide)
        have I5 : qI g5 := by
          unfold qI
          rw [q5_32, q5_34, a5]
          exact ⟨by omega, hI.2⟩
        show t_X d 213 67 lv [oI (1)] g5 P
        refine tz_eq qlw_67 (by decide) ⟨by omega, by omega⟩ (fun c6 => absurd c6 (by omega)) (fun c6 => ?_)
        show t_X d 213 70 lv [] g5 P
        refine t_0 qlw_70 rfl (ld_a l0) ?_
        refine t_3 qlw_71 rfl (ar := ([pvR 196], [])) (pcal_v0 rfl rfl el_196) ⟨by omega, Nat.le_of_ble_eq_true rfl, Nat.le_of_ble_eq_true rfl, rfl⟩ ?_
        refine cl_run (h0 := g5) (by omega) (J_rf hJ5.1) I5 ⟨by omega, by omega, by omega⟩ (fun g7 A7 I7 p7 u7 x7 => ?_) (fun g50007 A50007 => ?_) rfl
        · have hJ7 := J_up wqm hJ5 A7
          show t_X d 213 74 lv [oI (1)] g7 P
          refine tz_eq qlw_74 (by decide) ⟨by omega, by omega⟩ (fun c8 => absurd c8 (by omega)) (fun c8 => ?_)
          show t_X d 213 77 lv [] g7 P
          refine t_0 qlw_77 rfl rfl ?_
          refine t_1 qlw_78 rfl (pb_goto (pc := 78) (by decide)) ?_
          show t_X d 213 82 lv [oI (1)] g7 P
          refine t_2 qlw_82 rfl (w := (px_s1 lv 2 (oI (1)), [])) rfl ?_
          replace l0 : px_lg (px_s1 lv 2 (oI (1))) 0 = some (pvR 196) := s1_ne (by decide) (fun _ => rfl) l0
          have l2 : px_lg (px_s1 lv 2 (oI (1))) 2 = some (oI (1)) := s1_eq
          generalize px_s1 lv 2 (oI (1)) = lv9 at l0 l2 ⊢
          show t_X d 213 83 lv9 [] g7 P
          refine t_1 qlw_83 rfl (pb_goto (pc := 83) (by decide)) ?_
          show t_X d 213 46 lv9 [] g7 P
          exact ih _ _ (by omega) (by omega) I7 hJ7 l0 l2
        · have hJ50007 := J_up wqm hJ5 A50007
          show t_X d 213 74 lv [oI (0)] g50007 P
          refine tz_eq qlw_74 (by decide) ⟨by omega, by omega⟩ (fun c10 => ?_) (fun c10 => absurd c10 (by omega))
          show t_X d 213 81 lv [] g50007 P
          refine t_0 qlw_81 rfl rfl ?_
          refine t_2 qlw_82 rfl (w := (px_s1 lv 2 (oI (0)), [])) rfl ?_
          replace l0 : px_lg (px_s1 lv 2 (oI (0))) 0 = some (pvR 196) := s1_ne (by decide) (fun _ => rfl) l0
          have l2 : px_lg (px_s1 lv 2 (oI (0))) 2 = some (oI (0)) := s1_eq
          generalize px_s1 lv 2 (oI (0)) = lv11 at l0 l2 ⊢
          show t_X d 213 83 lv11 [] g50007 P
          refine t_1 qlw_83 rfl (pb_goto (pc := 83) (by decide)) ?_
          show t_X d 213 46 lv11 [] g50007 P
          exact lw_z hx hP hJ50007 l0 l2
      · show t_X d 213 67 lv [oI (0)] g50005 P
        refine tz_eq qlw_67 (by decide) ⟨by omega, by omega⟩ (fun c12 => ?_) (fun c12 => absurd c12 (by omega))
        show t_X d 213 81 lv [] g50005 P
        refine t_0 qlw_81 rfl rfl ?_
        refine t_2 qlw_82 rfl (w := (px_s1 lv 2 (oI (0)), [])) rfl ?_
        replace l0 : px_lg (px_s1 lv 2 (oI (0))) 0 = some (pvR 196) := s1_ne (by decide) (fun _ => rfl) l0
        have l2 : px_lg (px_s1 lv 2 (oI (0))) 2 = some (oI (0)) := s1_eq
        generalize px_s1 lv 2 (oI (0)) = lv13 at l0 l2 ⊢
        show t_X d 213 83 lv13 [] g50005 P
        refine t_1 qlw_83 rfl (pb_goto (pc := 83) (by decide)) ?_
        show t_X d 213 46 lv13 [] g50005 P
        exact lw_z hx hP hJ50005 l0 l2
set_option maxHeartbeats 8000000 in
theorem lw_run {d : Nat} (hd : 10 ≤ d) {g : pH} (hG : g_I eG g) (hx : xL g) {n : Int} (hn : -2147483648 ≤ n ∧ n ≤ 2147483647) {P : Option pv × pH → Prop} (hP : ∀ (g1 : pH) (z : Int), J_ WL g g1 → xL g1 → P (some (oI z), g1)) {lv : List (Nat × pv)} (l0 : px_lg lv 0 = some (pvR 196)) (l1 : px_lg lv 1 = some (oI n)) : t_X d 213 0 lv [] g P := by
  obtain ⟨w_17, w_18, w_19, w_20, w_32, w_34, wqm, wmx, wml⟩ := Wm_f
  have hJ0 : J_ Wm g g := J_rf hG
  refine t_0 qlw_0 rfl (ld_i l1) ?_
  refine t_0 qlw_1 rfl rfl ?_
  refine t_0 qlw_2 rfl (pq_s (by decide)) ?_
  refine t_3 qlw_5 rfl (ar := ([oI (n), oI (1), oI (240)], [])) (pcal_s ⟨Or.inl rfl, rfl, Nat.le_of_ble_eq_true rfl⟩) ⟨by omega, Nat.le_of_ble_eq_true rfl, Nat.le_of_ble_eq_true rfl, rfl⟩ ?_
  refine in_run ⟨by omega, by omega⟩ ⟨by omega, by omega⟩ ⟨by omega, by omega⟩ rfl rfl rfl (fun t1 => ?_) (fun t1 => ?_)
  · show t_X d 213 8 lv [oI (1)] g P
    refine tz_eq qlw_8 (by decide) ⟨by omega, by omega⟩ (fun c2 => absurd c2 (by omega)) (fun c2 => ?_)
    show t_X d 213 11 lv [] g P
    refine t_0 qlw_11 rfl (ld_i l1) ?_
    refine t_0 qlw_12 rfl (ld_a l0) ?_
    have r3 := gb_f hJ0.1 (y := 17) rfl rfl gf_17
    refine t_0 qlw_13 rfl (pq_gf (y := 17) rfl) ?_
    refine tb_le qlw_16 (by decide) ⟨by omega, by omega⟩ ⟨by omega, by omega⟩ (fun c4 => ?_) (fun c4 => ?_)
    · show t_X d 213 21 lv [] g P
      refine t_0 qlw_21 rfl (ld_a l0) ?_
      refine t_0 qlw_22 rfl rfl ?_
      refine tw_f qlw_23 rfl hJ0 w_18 gf_18 (by decide) ⟨by omega, by omega⟩ (fun g5 hJ5 v5 f5 a5 => ?_)
      replace a5 := fA_2 a5
      have q5_19 := f5 19 (by decide)
      have q5_32 := f5 32 (by decide)
      have q5_33 := f5 33 (by decide)
      have q5_34 := f5 34 (by decide)
      show t_X d 213 26 lv [] g5 P
      refine t_0 qlw_26 rfl (ld_a l0) ?_
      refine t_0 qlw_27 rfl (ld_i l1) ?_
      refine tw_f qlw_28 rfl hJ5 w_19 gf_19 (by decide) ⟨by omega, by omega⟩ (fun g6 hJ6 v6 f6 a6 => ?_)
      replace a6 := fA_2 a6
      have q6_18 := f6 18 (by decide)
      have q6_32 := f6 32 (by decide)
      have q6_33 := f6 33 (by decide)
      have q6_34 := f6 34 (by decide)
      show t_X d 213 31 lv [] g6 P
      refine t_0 qlw_31 rfl (ld_a l0) ?_
      refine t_0 qlw_32 rfl rfl ?_
      refine tw_f qlw_33 rfl hJ6 w_32 gf_32 (by decide) ⟨by omega, by omega⟩ (fun g7 hJ7 v7 f7 a7 => ?_)
      replace a7 := fA_2 a7
      have q7_18 := f7 18 (by decide)
      have q7_19 := f7 19 (by decide)
      have q7_33 := f7 33 (by decide)
      have q7_34 := f7 34 (by decide)
      show t_X d 213 36 lv [] g7 P
      refine t_0 qlw_36 rfl (ld_a l0) ?_
      refine t_0 qlw_37 rfl rfl ?_
      refine tw_f qlw_38 rfl hJ7 w_34 gf_34 (by decide) ⟨by omega, by omega⟩ (fun g8 hJ8 v8 f8 a8 => ?_)
      replace a8 := fA_2 a8
      have q8_18 := f8 18 (by decide)
      have q8_19 := f8 19 (by decide)
      have q8_32 := f8 32 (by decide)
      have q8_33 := f8 33 (by decide)
      show t_X d 213 41 lv [] g8 P
      have I0 : qI g8 := ⟨by omega, fun q hq => absurd hq (by omega)⟩
      refine t_0 qlw_41 rfl (ld_a l0) ?_
      refine t_3 qlw_42 rfl (ar := ([pvR 196], [])) (pcal_v0 rfl rfl el_196) ⟨by omega, Nat.le_of_ble_eq_true rfl, Nat.le_of_ble_eq_true rfl, rfl⟩ ?_
      refine cl_run (h0 := g8) (by omega) (J_rf hJ8.1) I0 ⟨by omega, by omega, by omega⟩ (fun g9 A9 I9 p9 u9 x9 => ?_) (fun g50009 A50009 => ?_) rfl
      · have hJ9 := J_up wqm hJ8 A9
        show t_X d 213 45 lv [oI (1)] g9 P
        refine t_2 qlw_45 rfl (w := (px_s1 lv 2 (oI (1)), [])) rfl ?_
        replace l0 : px_lg (px_s1 lv 2 (oI (1))) 0 = some (pvR 196) := s1_ne (by decide) (fun _ => rfl) l0
        replace l1 : px_lg (px_s1 lv 2 (oI (1))) 1 = some (oI (n)) := s1_ne (by decide) (fun _ => rfl) l1
        have l2 : px_lg (px_s1 lv 2 (oI (1))) 2 = some (oI (1)) := s1_eq
        generalize px_s1 lv 2 (oI (1)) = lv10 at l0 l1 l2 ⊢
        show t_X d 213 46 lv10 [] g9 P
        exact lw_m (by omega) hx (N := n) (by omega) hP 241 _ _ (by omega) (by omega) I9 hJ9 l0 l2
      · have hJ50009 := J_up wqm hJ8 A50009
        show t_X d 213 45 lv [oI (0)] g50009 P
        refine t_2 qlw_45 rfl (w := (px_s1 lv 2 (oI (0)), [])) rfl ?_
        replace l0 : px_lg (px_s1 lv 2 (oI (0))) 0 = some (pvR 196) := s1_ne (by decide) (fun _ => rfl) l0
        replace l1 : px_lg (px_s1 lv 2 (oI (0))) 1 = some (oI (n)) := s1_ne (by decide) (fun _ => rfl) l1
        have l2 : px_lg (px_s1 lv 2 (oI (0))) 2 = some (oI (0)) := s1_eq
        generalize px_s1 lv 2 (oI (0)) = lv11 at l0 l1 l2 ⊢
        show t_X d 213 46 lv11 [] g50009 P
        exact lw_z hx hP hJ50009 l0 l2
    · show t_X d 213 19 lv [] g P
      refine t_0 qlw_19 rfl rfl ?_
      refine t_5 qlw_20 rfl rfl ?_
      exact hP _ _ (J_wide wml hJ0) (xL_K _ _ _ hJ0.2 wmx hx)
  · show t_X d 213 8 lv [oI (0)] g P
    refine tz_eq qlw_8 (by decide) ⟨by omega, by omega⟩ (fun c12 => ?_) (fun c12 => absurd c12 (by omega))
    show t_X d 213 19 lv [] g P
    refine t_0 qlw_19 rfl rfl ?_
    refine t_5 qlw_20 rfl rfl ?_
    exact hP _ _ (J_wide wml hJ0) (xL_K _ _ _ hJ0.2 wmx hx)
end
section
/-! by hand: the law's own runs: the plain machine with a script -/
def u_X (sc : pS) (d μ pc : Nat) (lv : List (Nat × pv)) (st : List pv) (h : pH) (P : Option pv × pH → Prop) : Prop := ∃ n o, px_run eL n d sc μ pc lv st h = some o ∧ P o
theorem px_run_u {sc : pS} {n d μ pc : Nat} {lv : List (Nat × pv)} {st : List pv} {h : pH} {q : xe_I} (hq : xe_look (xc μ) pc = some q) : px_run eL (n + 1) d sc μ pc lv st h = px_step eL d sc μ (fun pc2 lv2 st2 h2 => px_run eL n d sc μ pc2 lv2 st2 h2) (fun y vs h2 => px_run eL n (d - 1) none y 0 (px_ar 0 vs) [] h2) q pc lv st h := by
  show (match xe_look (xc μ) pc with
    | some q => px_step eL d sc μ (fun pc2 lv2 st2 h2 => px_run eL n d sc μ pc2 lv2 st2 h2) (fun y vs h2 => px_run eL n (d - 1) none y 0 (px_ar 0 vs) [] h2) q pc lv st h
    | none => none) = _
  rw [hq]
section UX
variable {sc : pS} {d μ pc : Nat} {lv : List (Nat × pv)} {st : List pv} {h : pH} {P : Option pv × pH → Prop} {q : xe_I}
theorem u_0 (hq : xe_look (xc μ) pc = some q) (hk : px_kd q.1 q.2.2.1 = 0) {st2 : List pv} (h1 : px_push eL d sc q.1 q.2.2.1 q.2.2.2.1 lv st h = some st2) (ht : u_X sc d μ (pc + q.2.1) lv st2 h P) : u_X sc d μ pc lv st h P := by
  obtain ⟨n, o, h2, h3⟩ := ht
  refine ⟨n + 1, o, ?_, h3⟩
  rw [px_run_u hq]
  unfold px_step
  rw [hk]
  rw [show px_sd 0 = px_h0 from rfl]
  unfold px_h0
  rw [h1]
  exact h2
theorem u_1 (hq : xe_look (xc μ) pc = some q) (hk : px_kd q.1 q.2.2.1 = 1) {t : Nat × List pv} (h1 : px_bf q.1 pc st = some t) (ht : u_X sc d μ t.1 lv t.2 h P) : u_X sc d μ pc lv st h P := by
  obtain ⟨n, o, h2, h3⟩ := ht
  refine ⟨n + 1, o, ?_, h3⟩
  rw [px_run_u hq]
  unfold px_step
  rw [hk]
  rw [show px_sd 1 = px_h1 from rfl]
  unfold px_h1
  rw [h1]
  exact h2
theorem u_2 (hq : xe_look (xc μ) pc = some q) (hk : px_kd q.1 q.2.2.1 = 2) {w : List (Nat × pv) × List pv} (h1 : px_of q.1 (xm μ).2.2.1 lv st = some w) (ht : u_X sc d μ (pc + q.2.1) w.1 w.2 h P) : u_X sc d μ pc lv st h P := by
  obtain ⟨n, o, h2, h3⟩ := ht
  refine ⟨n + 1, o, ?_, h3⟩
  rw [px_run_u hq]
  unfold px_step
  rw [hk]
  rw [show px_sd 2 = px_h2 from rfl]
  unfold px_h2
  rw [h1]
  exact h2
theorem u_3 (hq : xe_look (xc μ) pc = some q) (hk : px_kd q.1 q.2.2.1 = 3) {ar : List pv × List pv} (h1 : px_cal eL q.1 q.2.2.1 q.2.2.2.1 st = some ar) (hc : 1 ≤ d ∧ px_sum ar.2 ≤ 8 ∧ px_sum ar.1 ≤ (xm q.2.2.2.1).2.2.1 ∧ (xm q.2.2.2.1).2.2.2.2.1 = (0, 0)) (ht : t_X (d - 1) q.2.2.2.1 0 (px_ar 0 ar.1) [] h (fun o => u_X sc d μ (pc + 3) lv (o.1.toList ++ ar.2) o.2 P)) : u_X sc d μ pc lv st h P := by
  obtain ⟨n1, o1, g1, n2, o2, g2, g3⟩ := ht
  refine ⟨max n1 n2 + 1, o2, ?_, g3⟩
  rw [px_run_u hq]
  unfold px_step
  rw [hk]
  rw [show px_sd 3 = px_h3 from rfl]
  unfold px_h3
  rw [h1]
  dsimp only
  rw [if_pos hc, px_run_le eL (Nat.le_max_left n1 n2) g1]
  exact px_run_le eL (Nat.le_max_right n1 n2) g2
theorem u_5 (hq : xe_look (xc μ) pc = some q) (hk : px_kd q.1 q.2.2.1 = 5) {r : Option pv} (h1 : px_ret (xm μ).2.2.2.1 q.1 st = some r) (ht : P (r, h)) : u_X sc d μ pc lv st h P := by
  refine ⟨1, (r, h), ?_, ht⟩
  rw [px_run_u hq]
  unfold px_step
  rw [hk]
  rw [show px_sd 5 = px_h5 from rfl]
  unfold px_h5
  rw [h1]
end UX
/-- an int of the script -/
theorem pq_sa {d x y L : Nat} {xs : Nat → Int32} {lv : List (Nat × pv)} {h : pH} {r : List pv} {e : Int} (hL : L ≤ 3072) (he : 0 ≤ e ∧ e < L) : px_push eL d (some (xs, L)) .iaload x y lv (oI e :: pvR 1000 :: r) h = some (.inl (xs e.toNat) :: r) := by
  have e1 : (Int32.ofInt e).toInt = e := oT (by omega) (by omega)
  show px_iald eL (some (xs, L)) h (.inl (Int32.ofInt e) :: .inr (.inr (some 1000)) :: r) = _
  unfold px_iald
  dsimp only
  rw [if_pos rfl, if_neg (e_clamp (by rw [e1]; exact he.1) (by rw [e1]; omega))]
  show some (.inl (xs (Int32.ofInt e).toInt.toNat) :: r) = _
  rw [e1]
theorem pq_sl {d x y L : Nat} {xs : Nat → Int32} {lv : List (Nat × pv)} {h : pH} {r : List pv} : px_push eL d (some (xs, L)) .arraylength x y lv (pvR 1000 :: r) h = some (oI (L : Int) :: r) := by
  show px_alen eL (some (xs, L)) (.inr (.inr (some 1000)) :: r) = _
  unfold px_alen
  dsimp only
  rw [if_pos rfl]
  show some (.inl (nI L) :: r) = _
  rw [nI_o]
theorem pcal_w {i y k n : Nat} {as : List pv} {r : List pv} (h1 : (xm y).2.2.2.2.2.2.2 = 1) (hn : (xm y).2.2.2.2.2.1 = n) (ha : as.length = n) (hk : eL[k]? = some (0, (xm y).2.2.2.2.2.2.1)) : px_cal eL (.invokevirtual i) 0 y (as ++ .inr (.inr (some k)) :: r) = some (.inr (.inr (some k)) :: as.reverse, r) := by
  unfold px_cal
  dsimp only
  rw [if_pos ⟨rfl, h1, by rw [hn, List.length_append, ha]; exact Nat.le_add_right n _⟩, hn, ← ha, List.drop_left, List.take_left]
  dsimp only
  rw [if_pos hk]
/-- a call by a contract of the table that asks for nothing of the heap -/
theorem kc_go {d y : Nat} {k : eK} (hin : k ∈ eKT y) (hy : k.1 = y) (hd : d ≤ 1000000) {g : pH} (hG : g_I eG g) (hx : xL g) {vs : List pv} {xs : List Int} (hM : m_M k.2.1 d (px_ar 0 vs) g xs []) (hm : k.2.2.1 = (0, [])) {n : Nat} (hp : (k.2.2.2.2.all fun p => match p.1 with
    | some t => t.1 == n
    | none => false) = true) {P : Option pv × pH → Prop} (hP : ∀ (v : pv) (g1 : pH), ct v = n → g_I eG g1 → xL g1 → f_M k.2.2.2.1 g g1 → P (some v, g1)) : t_X d y 0 (px_ar 0 vs) [] g P := by
  subst hy
  refine k_use (kt_L d k.1 k hin) hG hx hM hd (m := 0) (by rw [hm]; exact ⟨0, rfl, rfl⟩) (by omega) (fun o b1 b2 b3 b4 => ?_)
  obtain ⟨o1, o2⟩ := o
  obtain ⟨p, hpm, zs, hr, -⟩ := b4
  have h1 := List.all_eq_true.mp hp p hpm
  cases hq : p.1 with
  | none => rw [hq] at h1; cases h1
  | some t =>
    rw [hq] at h1 hr
    obtain ⟨v, x, ys, e1, ⟨e2, -, -⟩, -, -⟩ := hr
    dsimp only at e1 h1
    subst e1
    have : t.1 = n := by simpa using h1
    exact hP v o2 (by rw [e2, this]) b1 b2 b3
theorem ok_0 : ok_v (cv (.inr (.inr (some 0)))) (0, 100000, [1]) := ⟨by decide, by decide, Or.inr (List.mem_singleton.mpr rfl)⟩
end
section
/-! by hand: rules of the law's walk (printed by wip/e2/pxgen.py) -/
theorem in_k0 : kk_0 ∈ eKT 119 := List.mem_singleton.mpr rfl
theorem in_k1 : kk_1 ∈ eKT 189 := List.mem_singleton.mpr rfl
theorem in_k2 : kk_2 ∈ eKT 147 := List.mem_singleton.mpr rfl
theorem in_k3 : kk_3 ∈ eKT 251 := List.mem_singleton.mpr rfl
theorem in_k4 : kk_4 ∈ eKT 139 := List.mem_singleton.mpr rfl
theorem in_k5 : kk_5 ∈ eKT 231 := List.mem_singleton.mpr rfl
theorem in_k6 : kk_6 ∈ eKT 116 := List.mem_singleton.mpr rfl
theorem in_k7 : kk_7 ∈ eKT 183 := List.mem_singleton.mpr rfl
theorem in_k8 : kk_8 ∈ eKT 120 := List.mem_singleton.mpr rfl
theorem in_k9 : kk_9 ∈ eKT 194 := List.mem_singleton.mpr rfl
theorem in_k12 : kk_12 ∈ eKT 128 := List.mem_singleton.mpr rfl
theorem in_k13 : kk_13 ∈ eKT 211 := List.mem_singleton.mpr rfl
theorem in_k14 : kk_14 ∈ eKT 164 := List.mem_singleton.mpr rfl
theorem in_k15 : kk_15 ∈ eKT 273 := List.mem_singleton.mpr rfl
theorem in_k16 : kk_16 ∈ eKT 146 := List.mem_singleton.mpr rfl
theorem in_k17 : kk_17 ∈ eKT 247 := List.mem_singleton.mpr rfl
theorem in_k18 : kk_18 ∈ eKT 148 := List.mem_singleton.mpr rfl
theorem in_k19 : kk_19 ∈ eKT 252 := List.mem_singleton.mpr rfl
theorem in_k20 : kk_20 ∈ eKT 157 := List.mem_singleton.mpr rfl
theorem in_k21 : kk_21 ∈ eKT 122 := List.mem_singleton.mpr rfl
theorem in_k22 : kk_22 ∈ eKT 200 := List.mem_singleton.mpr rfl
theorem in_k23 : kk_23 ∈ eKT 129 := List.mem_singleton.mpr rfl
theorem in_k24 : kk_24 ∈ eKT 118 := List.mem_singleton.mpr rfl
theorem in_k25 : kk_25 ∈ eKT 187 := List.mem_singleton.mpr rfl
theorem in_k26 : kk_26 ∈ eKT 158 := List.mem_singleton.mpr rfl
theorem in_k27 : kk_27 ∈ eKT 265 := List.mem_singleton.mpr rfl
theorem in_k28 : kk_28 ∈ eKT 137 := List.mem_singleton.mpr rfl
theorem in_k29 : kk_29 ∈ eKT 228 := List.mem_singleton.mpr rfl
theorem in_k30 : kk_30 ∈ eKT 156 := List.mem_singleton.mpr rfl
theorem in_k31 : kk_31 ∈ eKT 263 := List.mem_singleton.mpr rfl
theorem in_k32 : kk_32 ∈ eKT 130 := List.mem_singleton.mpr rfl
theorem in_k33 : kk_33 ∈ eKT 217 := List.mem_singleton.mpr rfl
theorem in_k34 : kk_34 ∈ eKT 132 := List.mem_singleton.mpr rfl
theorem in_k35 : kk_35 ∈ eKT 219 := List.mem_singleton.mpr rfl
theorem in_k36 : kk_36 ∈ eKT 150 := List.mem_singleton.mpr rfl
theorem in_k37 : kk_37 ∈ eKT 258 := List.mem_singleton.mpr rfl
theorem in_k38 : kk_38 ∈ eKT 117 := List.mem_singleton.mpr rfl
theorem in_k39 : kk_39 ∈ eKT 184 := List.mem_singleton.mpr rfl
theorem in_k40 : kk_40 ∈ eKT 111 := List.mem_singleton.mpr rfl
theorem in_k41 : kk_41 ∈ eKT 177 := List.mem_singleton.mpr rfl
theorem in_k42 : kk_42 ∈ eKT 149 := List.mem_singleton.mpr rfl
theorem in_k43 : kk_43 ∈ eKT 142 := List.mem_singleton.mpr rfl
theorem in_k44 : kk_44 ∈ eKT 145 := List.mem_singleton.mpr rfl
theorem in_k45 : kk_45 ∈ eKT 246 := List.mem_singleton.mpr rfl
theorem in_k46 : kk_46 ∈ eKT 133 := List.mem_singleton.mpr rfl
theorem in_k47 : kk_47 ∈ eKT 220 := List.mem_singleton.mpr rfl
theorem in_k48 : kk_48 ∈ eKT 131 := List.mem_singleton.mpr rfl
theorem in_k49 : kk_49 ∈ eKT 218 := List.mem_singleton.mpr rfl
theorem in_k50 : kk_50 ∈ eKT 127 := List.mem_singleton.mpr rfl
theorem in_k51 : kk_51 ∈ eKT 210 := List.mem_singleton.mpr rfl
theorem in_k52 : kk_52 ∈ eKT 121 := List.mem_singleton.mpr rfl
theorem in_k53 : kk_53 ∈ eKT 195 := List.mem_singleton.mpr rfl
theorem in_k54 : kk_54 ∈ eKT 140 := List.mem_singleton.mpr rfl
theorem in_k55 : kk_55 ∈ eKT 144 := List.mem_singleton.mpr rfl
theorem in_k56 : kk_56 ∈ eKT 245 := List.mem_singleton.mpr rfl
theorem in_k57 : kk_57 ∈ eKT 126 := List.mem_singleton.mpr rfl
theorem in_k58 : kk_58 ∈ eKT 209 := List.mem_singleton.mpr rfl
theorem in_k59 : kk_59 ∈ eKT 160 := List.mem_singleton.mpr rfl
theorem in_k60 : kk_60 ∈ eKT 270 := List.mem_singleton.mpr rfl
theorem in_k61 : kk_61 ∈ eKT 110 := List.mem_singleton.mpr rfl
theorem in_k62 : kk_62 ∈ eKT 174 := List.mem_singleton.mpr rfl
theorem in_k63 : kk_63 ∈ eKT 115 := List.mem_singleton.mpr rfl
theorem in_k64 : kk_64 ∈ eKT 182 := List.mem_singleton.mpr rfl
theorem pu_add {sc : pS} {d x y : Nat} {lv : List (Nat × pv)} {h : pH} {r : List pv} {a b : Int} : px_push eL d sc .iadd x y lv (oI b :: oI a :: r) h = some (oI (a + b) :: r) := by
  show some ((.inl (Int32.ofInt a + Int32.ofInt b) : pv) :: r) = some ((.inl (Int32.ofInt (a + b)) : pv) :: r)
  rw [Int32.ofInt_add]
theorem pu_sub {sc : pS} {d x y : Nat} {lv : List (Nat × pv)} {h : pH} {r : List pv} {a b : Int} : px_push eL d sc .isub x y lv (oI b :: oI a :: r) h = some (oI (a - b) :: r) := by
  show some ((.inl (Int32.ofInt a - Int32.ofInt b) : pv) :: r) = some ((.inl (Int32.ofInt (a - b)) : pv) :: r)
  rw [Int32.ofInt_sub]
theorem pu_b {sc : pS} {d x y : Nat} {lv : List (Nat × pv)} {h : pH} {r : List pv} {n : Int} (e : (Int8.ofInt n).toInt32 = Int32.ofInt n) : px_push eL d sc (.bipush n) x y lv r h = some (oI n :: r) := by
  show some ((.inl (Int8.ofInt n).toInt32 : pv) :: r) = _
  rw [e]
theorem ub_gt {sc : pS} {d μ pc : Nat} {lv : List (Nat × pv)} {g : pH} {r : List pv} {a b o : Int} {P : Option pv × pH → Prop} (hq : xe_look (xc μ) pc = some (.if_icmp .gt o, 3, 0, 0, 0)) (ho : 0 ≤ (pc : Int) + o) (ha : -2147483648 ≤ a ∧ a ≤ 2147483647) (hb : -2147483648 ≤ b ∧ b ≤ 2147483647) (ht : b < a → u_X sc d μ (px_tg pc o) lv r g P) (hf : a ≤ b → u_X sc d μ (pc + 3) lv r g P) : u_X sc d μ pc lv (oI b :: oI a :: r) g P := by
  by_cases k : b < a
  · exact u_1 hq rfl (pc_gt_t ho ((lt_oI hb ha).mpr k)) (ht k)
  · exact u_1 hq rfl (pc_gt_f ho (fun z => k ((lt_oI hb ha).mp z))) (hf (by omega))
theorem ub_eq {sc : pS} {d μ pc : Nat} {lv : List (Nat × pv)} {g : pH} {r : List pv} {a b : Int32} {o : Int} {P : Option pv × pH → Prop} (hq : xe_look (xc μ) pc = some (.if_icmp .eq o, 3, 0, 0, 0)) (ho : 0 ≤ (pc : Int) + o) (h : a = b) (ht : u_X sc d μ (px_tg pc o) lv r g P) : u_X sc d μ pc lv (.inl b :: .inl a :: r) g P := u_1 hq rfl (pc_eq_t ho h) ht
theorem el_0 : eL[0]? = some (0, 11) := by decide +kernel
theorem qii_0 : xe_look (xc 124) 0 = some (.iload_n 0, 1, 0, 0, 0) := by decide +kernel
theorem qii_1 : xe_look (xc 124) 1 = some (.iload_n 1, 1, 0, 0, 0) := by decide +kernel
theorem qii_2 : xe_look (xc 124) 2 = some (.if_icmp .lt 12, 3, 0, 0, 0) := by decide +kernel
theorem qii_5 : xe_look (xc 124) 5 = some (.iload_n 0, 1, 0, 0, 0) := by decide +kernel
theorem qii_6 : xe_look (xc 124) 6 = some (.iload_n 2, 1, 0, 0, 0) := by decide +kernel
theorem qii_7 : xe_look (xc 124) 7 = some (.if_icmp .gt 7, 3, 0, 0, 0) := by decide +kernel
theorem qii_10 : xe_look (xc 124) 10 = some (.iconst 1, 1, 0, 0, 0) := by decide +kernel
theorem qii_11 : xe_look (xc 124) 11 = some (.goto 4, 3, 0, 0, 0) := by decide +kernel
theorem qii_14 : xe_look (xc 124) 14 = some (.iconst 0, 1, 0, 0, 0) := by decide +kernel
theorem qii_15 : xe_look (xc 124) 15 = some (.ireturn, 1, 0, 0, 0) := by decide +kernel
theorem ii_run {d : Nat} {g : pH} {lv : List (Nat × pv)} {a b c : Int} {P : Option pv × pH → Prop} (ha : -2147483648 ≤ a ∧ a ≤ 2147483647) (hb : -2147483648 ≤ b ∧ b ≤ 2147483647) (hc : -2147483648 ≤ c ∧ c ≤ 2147483647) (l0 : px_lg lv 0 = some (oI a)) (l1 : px_lg lv 1 = some (oI b)) (l2 : px_lg lv 2 = some (oI c)) (h1 : b ≤ a ∧ a ≤ c → P (some (oI 1), g)) (h0 : a < b ∨ c < a → P (some (oI 0), g)) : t_X d 124 0 lv [] g P := by
  refine t_0 qii_0 rfl (ld_i l0) ?_
  refine t_0 qii_1 rfl (ld_i l1) ?_
  refine tb_lt qii_2 (by decide) ⟨by omega, by omega⟩ ⟨by omega, by omega⟩ (fun c1 => ?_) (fun c1 => ?_)
  · show t_X d 124 14 lv [] g P
    refine t_0 qii_14 rfl rfl ?_
    refine t_5 qii_15 rfl rfl ?_
    exact h0 (by omega)
  · show t_X d 124 5 lv [] g P
    refine t_0 qii_5 rfl (ld_i l0) ?_
    refine t_0 qii_6 rfl (ld_i l2) ?_
    refine tb_gt qii_7 (by decide) ⟨by omega, by omega⟩ ⟨by omega, by omega⟩ (fun c2 => ?_) (fun c2 => ?_)
    · show t_X d 124 14 lv [] g P
      refine t_0 qii_14 rfl rfl ?_
      refine t_5 qii_15 rfl rfl ?_
      exact h0 (by omega)
    · show t_X d 124 10 lv [] g P
      refine t_0 qii_10 rfl rfl ?_
      refine t_1 qii_11 rfl (pb_goto (pc := 11) (by decide)) ?_
      refine t_5 qii_15 rfl rfl ?_
      exact h1 (by omega)
theorem el_2 : eL[2]? = some (0, 8) := by decide +kernel
theorem gc_0 : (eG (cn 0 + 2)).2.2 = [3] := by decide +kernel
theorem gI_o {h : pH} {k x y r : Nat} {s : String} (hG : g_I eG h) (hk : eL[k]? = some (0, x)) (hy : y < pnf x) (ht : xk_ty x y = .object s) (hg : (eG (cn k + y)).2.2 = [r + 1]) : pF h x k y = .inr (.inr (some r)) := by
  have h1 := (hG k (0, x) hk).1 rfl y hy
  have e : pF h x k y = .inr (.inr (h.2.2.1 k y)) := by
    unfold pF
    rw [ht]
  rw [e] at h1 ⊢
  have h2 := h1.2.2
  rw [hg] at h2
  rcases h2 with h2 | h2
  · cases h2
  · have h2 := List.mem_singleton.mp h2
    cases hq : h.2.2.1 k y with
    | none =>
      rw [hq] at h2
      cases h2
    | some q =>
      rw [hq] at h2
      have h3 : ((q : Int) + 1).toNat = r + 1 := h2
      rw [show q = r by omega]
end
section
/-! the tie: runs from within a method by certificate; two things of one run -/
def ex_mid (G : Nat → eE) (KT : Nat → List eK) (DX N : Nat) (k : eK) (cs : List eCc) (pc : Nat) : Bool := ex_go G KT DX N k cs none pc k.2.1 && cs.all (fun ct => ex_m0 ct.2.1 ct.2.2 && ex_go G KT DX N k cs (some ct.2.2) ct.1 ct.2.1)
theorem ex_mid_ok {G : Nat → eE} {X : pH → Prop} {KT : Nat → List eK} {DX N : Nat} {k : eK} {cs : List eCc} {pc : Nat} (hX : x_K X DX) (hk : ex_mid G KT DX N k cs pc = true) {d : Nat} (hK : ∀ d', d' < d → ∀ y, ∀ k' ∈ KT y, k_S G X k' d') {lv : List (Nat × pv)} {h : pH} {xs ys : List Int} (hg : g_I G h) (hx : X h) (hm : m_M k.2.1 d lv h xs ys) (hd : d ≤ 1000000) : t_X d k.1 pc lv [] h (fun o => g_I G o.2 ∧ X o.2 ∧ f_M k.2.2.2.1 h o.2 ∧ ∃ p ∈ k.2.2.2.2, ∃ zs, m_P p ((d : Int) :: (xs ++ ys)) o.1 o.2 zs) := by
  unfold ex_mid at hk
  rw [Bool.and_eq_true] at hk
  obtain ⟨hk1, hk2⟩ := hk
  let P : Option pv × pH → Prop := fun o => g_I G o.2 ∧ X o.2 ∧ f_M k.2.2.2.1 h o.2 ∧ ∃ p ∈ k.2.2.2.2, ∃ zs, m_P p ((d : Int) :: (xs ++ ys)) o.1 o.2 zs
  have hret : ∀ (ρ : List Int) (v : Option eV) (A' : eS) (ρ' : List Int) (rv : Option pv) (h' : pH), ex_ret G k.2.2.2.2 v A' = true → ρ <+: ρ' → b_R (G, X, h, k.2.2.2.1, d) ρ' A' h' → o_R ρ' v rv → P (rv, h') := fun ρ v A' ρ' rv h' q1 q2 q3 q4 => ⟨q3.2.2.2.2.1, q3.2.2.2.2.2.1, q3.2.2.2.2.2.2.1, ex_ret_ok q3 q4 q1 _⟩
  have hcuts : ∀ (n : Nat), ∀ ct ∈ cs, ∀ (lv : List (Nat × pv)) (h' : pH) (xs' ys' : List Int) (mv : Int), g_I G h' → X h' → f_M k.2.2.2.1 h h' → m_M ct.2.1 d lv h' xs' ys' → ev_t ((d : Int) :: (xs' ++ ys')) ct.2.2 mv → mv < n → t_X d k.1 ct.1 lv [] h' P := by
    intro n
    induction n with
    | zero =>
      intro ct hct lv h' xs' ys' mv g1 g2 g3 g4 g5 g6
      have h1 := List.all_eq_true.mp hk2 ct hct
      rw [Bool.and_eq_true] at h1
      have hr := ex_in_ok (c := (G, X, h, k.2.2.2.1, d)) g4 hd g1 g2 g3
      have h2 := ea_isge_ok hr.1.2.1 hr.1.2.2.1 h1.1 g5
      omega
    | succ n ih =>
      intro ct hct lv h' xs' ys' mv g1 g2 g3 g4 g5 g6
      have h1 := List.all_eq_true.mp hk2 ct hct
      rw [Bool.and_eq_true] at h1
      have hr := ex_in_ok (c := (G, X, h, k.2.2.2.1, d)) g4 hd g1 g2 g3
      refine ax_ok (c := (G, X, h, k.2.2.2.1, d)) hX hd hK h1.2 d lv [] h' _ P hr (Nat.add_zero d) (fun pc' f A' ρ' lv' st' h2 q1 q2 q3 q4 => ?_) (hret _)
      unfold ex_cf at q1
      split at q1
      · cases q1
        unfold ex_cut at q2
        split at q2
        · next hS =>
          obtain ⟨ct', hct', q2⟩ := List.any_eq_true.mp q2
          rw [Bool.and_eq_true] at q2
          obtain ⟨e0, q2⟩ := q2
          have e0 := Nat.eq_of_beq_eq_true e0
          have hs := q4.2.2
          rw [hS] at hs
          have e1 := s_R_nil hs
          subst e1
          split at q2
          · cases q2
          · next q hq =>
            obtain ⟨A2, ws⟩ := q
            obtain ⟨ρ2, xs2, ys2, p1, p2, p3, p4, p5⟩ := ef_M_ok (d := d) q4.1 q4.2.1 (Nat.add_zero d) hq
            dsimp only at q2
            split at q2
            · next u hu =>
              obtain ⟨z, z1, z2⟩ := e_st_ok p4 hu
              have z3 := ea_isle_ok p2.2.1 p2.2.2.1 q2 (ev_sub z2 (ev_t_mono (q3.trans p1) g5))
              have g := ih ct' hct' lv' h2 xs2 ys2 z p2.2.2.2.2.1 p2.2.2.2.2.2.1 p2.2.2.2.2.2.2.1 p3 z1 (by omega)
              rw [e0] at g
              exact g
            · cases q2
        · cases q2
      · cases q1
  have hr := ex_in_ok (c := (G, X, h, k.2.2.2.1, d)) hm hd hg hx (f_M_rf _ h)
  refine ax_ok (c := (G, X, h, k.2.2.2.1, d)) hX hd hK hk1 d _ [] h _ P hr (Nat.add_zero d) (fun pc' f A' ρ' lv' st' h2 q1 q2 q3 q4 => ?_) (hret _)
  unfold ex_cf at q1
  split at q1
  · cases q1
    unfold ex_cut at q2
    split at q2
    · next hS =>
      obtain ⟨ct', hct', q2⟩ := List.any_eq_true.mp q2
      rw [Bool.and_eq_true] at q2
      obtain ⟨e0, q2⟩ := q2
      have e0 := Nat.eq_of_beq_eq_true e0
      have hs := q4.2.2
      rw [hS] at hs
      have e1 := s_R_nil hs
      subst e1
      split at q2
      · cases q2
      · next q hq =>
        obtain ⟨A2, ws⟩ := q
        obtain ⟨ρ2, xs2, ys2, p1, p2, p3, p4, p5⟩ := ef_M_ok (d := d) q4.1 q4.2.1 (Nat.add_zero d) hq
        dsimp only at q2
        split at q2
        · next u hu =>
          obtain ⟨z, z1, z2⟩ := e_st_ok p4 hu
          have g := hcuts (z.toNat + 1) ct' hct' lv' h2 xs2 ys2 z p2.2.2.2.2.1 p2.2.2.2.2.2.1 p2.2.2.2.2.2.2.1 p3 z1 (by omega)
          rw [e0] at g
          exact g
        · cases q2
    · cases q2
  · cases q1
theorem t_and {d μ pc : Nat} {lv : List (Nat × pv)} {st : List pv} {h : pH} {P Q : Option pv × pH → Prop} (h1 : t_X d μ pc lv st h P) (h2 : t_X d μ pc lv st h Q) : t_X d μ pc lv st h (fun o => P o ∧ Q o) := by
  obtain ⟨n1, o1, a1, b1⟩ := h1
  obtain ⟨n2, o2, a2, b2⟩ := h2
  have e1 := px_run_le eL (Nat.le_max_left n1 n2) a1
  have e2 := px_run_le eL (Nat.le_max_right n1 n2) a2
  rw [e1] at e2
  have e3 := Option.some.inj e2
  subst e3
  exact ⟨_, _, e1, b1, b2⟩
theorem t_mono {d μ pc : Nat} {lv : List (Nat × pv)} {st : List pv} {h : pH} {P Q : Option pv × pH → Prop} (h1 : t_X d μ pc lv st h P) (h2 : ∀ o, P o → Q o) : t_X d μ pc lv st h Q := by
  obtain ⟨n1, o1, a1, b1⟩ := h1
  exact ⟨n1, o1, a1, h2 _ b1⟩
/-- a certificate from a place within, over the table -/
theorem mid_L {k : eK} {cs : List eCc} {pc d : Nat} (hk : ex_mid eG eKT eDX 4000 k cs pc = true) {lv : List (Nat × pv)} {h : pH} {xs ys : List Int} (hG : g_I eG h) (hx : xL h) (hm : m_M k.2.1 d lv h xs ys) (hd : d ≤ 1000000) {P : Option pv × pH → Prop} (hP : ∀ o, g_I eG o.2 → xL o.2 → f_M k.2.2.2.1 h o.2 → (∃ p ∈ k.2.2.2.2, ∃ zs, m_P p ((d : Int) :: (xs ++ ys)) o.1 o.2 zs) → P o) : t_X d k.1 pc lv [] h P :=
  t_mono (ex_mid_ok xL_K hk (fun d' _ => kt_L d') hG hx hm hd) (fun o ho => hP o ho.1 ho.2.1 ho.2.2.1 ho.2.2.2)
/-- from a place within to another one: no end ahead of it -/
def ex_to (G : Nat → eE) (KT : Nat → List eK) (DX N : Nat) (k : eK) (cs : List eCc) (sp : eCc) (pc : Nat) : Bool := ex_go G KT DX N k (sp :: cs) none pc k.2.1 && cs.all (fun ct => ex_m0 ct.2.1 ct.2.2 && ex_go G KT DX N k (sp :: cs) (some ct.2.2) ct.1 ct.2.1)
theorem ex_to_ok {G : Nat → eE} {X : pH → Prop} {KT : Nat → List eK} {DX N : Nat} {k : eK} {cs : List eCc} {sp : eCc} {pc : Nat} (hX : x_K X DX) (hk : ex_to G KT DX N k cs sp pc = true) (hps : k.2.2.2.2 = []) {d : Nat} (hK : ∀ d', d' < d → ∀ y, ∀ k' ∈ KT y, k_S G X k' d') {lv : List (Nat × pv)} {h : pH} {xs ys : List Int} (hg : g_I G h) (hx : X h) (hm : m_M k.2.1 d lv h xs ys) (hd : d ≤ 1000000) {P : Option pv × pH → Prop} (hstop : ∀ (lv' : List (Nat × pv)) (h' : pH) (xs' ys' : List Int), g_I G h' → X h' → f_M k.2.2.2.1 h h' → m_M sp.2.1 d lv' h' xs' ys' → t_X d k.1 sp.1 lv' [] h' P) : t_X d k.1 pc lv [] h P := by
  unfold ex_to at hk
  rw [Bool.and_eq_true] at hk
  obtain ⟨hk1, hk2⟩ := hk
  have hret : ∀ (ρ : List Int) (v : Option eV) (A' : eS) (ρ' : List Int) (rv : Option pv) (h' : pH), ex_ret G k.2.2.2.2 v A' = true → ρ <+: ρ' → b_R (G, X, h, k.2.2.2.1, d) ρ' A' h' → o_R ρ' v rv → P (rv, h') := fun ρ v A' ρ' rv h' q1 q2 q3 q4 => by
    rw [hps] at q1
    cases q1
  have hcuts : ∀ (n : Nat), ∀ ct ∈ sp :: cs, ∀ (lv : List (Nat × pv)) (h' : pH) (xs' ys' : List Int) (mv : Int), g_I G h' → X h' → f_M k.2.2.2.1 h h' → m_M ct.2.1 d lv h' xs' ys' → ev_t ((d : Int) :: (xs' ++ ys')) ct.2.2 mv → mv < n → t_X d k.1 ct.1 lv [] h' P := by
    intro n
    induction n with
    | zero =>
      intro ct hct lv h' xs' ys' mv g1 g2 g3 g4 g5 g6
      rcases List.mem_cons.mp hct with rfl | hct
      · exact hstop lv h' xs' ys' g1 g2 g3 g4
      have h1 := List.all_eq_true.mp hk2 ct hct
      rw [Bool.and_eq_true] at h1
      have hr := ex_in_ok (c := (G, X, h, k.2.2.2.1, d)) g4 hd g1 g2 g3
      have h2 := ea_isge_ok hr.1.2.1 hr.1.2.2.1 h1.1 g5
      omega
    | succ n ih =>
      intro ct hct lv h' xs' ys' mv g1 g2 g3 g4 g5 g6
      rcases List.mem_cons.mp hct with rfl | hct
      · exact hstop lv h' xs' ys' g1 g2 g3 g4
      have h1 := List.all_eq_true.mp hk2 ct hct
      rw [Bool.and_eq_true] at h1
      have hr := ex_in_ok (c := (G, X, h, k.2.2.2.1, d)) g4 hd g1 g2 g3
      refine ax_ok (c := (G, X, h, k.2.2.2.1, d)) hX hd hK h1.2 d lv [] h' _ P hr (Nat.add_zero d) (fun pc' f A' ρ' lv' st' h2 q1 q2 q3 q4 => ?_) (hret _)
      unfold ex_cf at q1
      split at q1
      · cases q1
        unfold ex_cut at q2
        split at q2
        · next hS =>
          obtain ⟨ct', hct', q2⟩ := List.any_eq_true.mp q2
          rw [Bool.and_eq_true] at q2
          obtain ⟨e0, q2⟩ := q2
          have e0 := Nat.eq_of_beq_eq_true e0
          have hs := q4.2.2
          rw [hS] at hs
          have e1 := s_R_nil hs
          subst e1
          split at q2
          · cases q2
          · next q hq =>
            obtain ⟨A2, ws⟩ := q
            obtain ⟨ρ2, xs2, ys2, p1, p2, p3, p4, p5⟩ := ef_M_ok (d := d) q4.1 q4.2.1 (Nat.add_zero d) hq
            dsimp only at q2
            split at q2
            · next u hu =>
              obtain ⟨z, z1, z2⟩ := e_st_ok p4 hu
              have z3 := ea_isle_ok p2.2.1 p2.2.2.1 q2 (ev_sub z2 (ev_t_mono (q3.trans p1) g5))
              have g := ih ct' hct' lv' h2 xs2 ys2 z p2.2.2.2.2.1 p2.2.2.2.2.2.1 p2.2.2.2.2.2.2.1 p3 z1 (by omega)
              rw [e0] at g
              exact g
            · cases q2
        · cases q2
      · cases q1
  have hr := ex_in_ok (c := (G, X, h, k.2.2.2.1, d)) hm hd hg hx (f_M_rf _ h)
  refine ax_ok (c := (G, X, h, k.2.2.2.1, d)) hX hd hK hk1 d _ [] h _ P hr (Nat.add_zero d) (fun pc' f A' ρ' lv' st' h2 q1 q2 q3 q4 => ?_) (hret _)
  unfold ex_cf at q1
  split at q1
  · cases q1
    unfold ex_cut at q2
    split at q2
    · next hS =>
      obtain ⟨ct', hct', q2⟩ := List.any_eq_true.mp q2
      rw [Bool.and_eq_true] at q2
      obtain ⟨e0, q2⟩ := q2
      have e0 := Nat.eq_of_beq_eq_true e0
      have hs := q4.2.2
      rw [hS] at hs
      have e1 := s_R_nil hs
      subst e1
      split at q2
      · cases q2
      · next q hq =>
        obtain ⟨A2, ws⟩ := q
        obtain ⟨ρ2, xs2, ys2, p1, p2, p3, p4, p5⟩ := ef_M_ok (d := d) q4.1 q4.2.1 (Nat.add_zero d) hq
        dsimp only at q2
        split at q2
        · next u hu =>
          obtain ⟨z, z1, z2⟩ := e_st_ok p4 hu
          have g := hcuts (z.toNat + 1) ct' hct' lv' h2 xs2 ys2 z p2.2.2.2.2.1 p2.2.2.2.2.2.1 p2.2.2.2.2.2.2.1 p3 z1 (by omega)
          rw [e0] at g
          exact g
        · cases q2
    · cases q2
  · cases q1
theorem to_L {k : eK} {cs : List eCc} {sp : eCc} {pc d : Nat} (hk : ex_to eG eKT eDX 4000 k cs sp pc = true) (hps : k.2.2.2.2 = []) {lv : List (Nat × pv)} {h : pH} {xs ys : List Int} (hG : g_I eG h) (hx : xL h) (hm : m_M k.2.1 d lv h xs ys) (hd : d ≤ 1000000) {P : Option pv × pH → Prop} (hstop : ∀ (lv' : List (Nat × pv)) (h' : pH) (xs' ys' : List Int), g_I eG h' → xL h' → f_M k.2.2.2.1 h h' → m_M sp.2.1 d lv' h' xs' ys' → t_X d k.1 sp.1 lv' [] h' P) : t_X d k.1 pc lv [] h P := ex_to_ok xL_K hk hps (fun d' _ => kt_L d') hG hx hm hd hstop
end
section
/-! the tie: reads and writes of any object -/
def cF (h : pH) (k y : Nat) : Int := (h.1 k y).toInt
theorem cF_b (h : pH) (k y : Nat) : -2147483648 ≤ cF h k y ∧ cF h k y ≤ 2147483647 := i32_b _
theorem pFz {h : pH} {x k y : Nat} (ht : xk_ty x y = .boolean) : pF h x k y = .inl (h.1 k y) := by
  unfold pF
  rw [ht]
theorem pq_cf {d i x y k : Nat} {lv : List (Nat × pv)} {h : pH} {r : List pv} (hk : eL[k]? = some (0, x)) (ht : xk_ty x y = .int) : px_push eL d none (.getfield i) x y lv (pvR k :: r) h = some (oI (cF h k y) :: r) := by
  rw [pget hk (pFi ht), oI_r]
  rfl
theorem pq_cz {d i x y k : Nat} {lv : List (Nat × pv)} {h : pH} {r : List pv} (hk : eL[k]? = some (0, x)) (ht : xk_ty x y = .boolean) : px_push eL d none (.getfield i) x y lv (pvR k :: r) h = some (oI (cF h k y) :: r) := by
  rw [pget hk (pFz ht), oI_r]
  rfl
theorem cb_i {h : pH} {k x y : Nat} {lo hi : Int} (hG : g_I eG h) (hk : eL[k]? = some (0, x)) (hy : y < pnf x) (ht : xk_ty x y = .int) (hg : eG (cn k + y) = (lo, hi, [])) : lo ≤ cF h k y ∧ cF h k y ≤ hi := by
  have h1 := gI_i hG hk hy ht
  rw [hg] at h1
  exact ⟨h1.1, h1.2.1⟩
theorem cb_z {h : pH} {k x y : Nat} {lo hi : Int} (hG : g_I eG h) (hk : eL[k]? = some (0, x)) (hy : y < pnf x) (ht : xk_ty x y = .boolean) (hg : eG (cn k + y) = (lo, hi, [])) : lo ≤ cF h k y ∧ cF h k y ≤ hi := by
  have h1 := (hG k (0, x) hk).1 rfl y hy
  rw [pFz ht, hg] at h1
  exact ⟨h1.1, h1.2.1⟩
theorem pputz {d i x y k : Nat} {h : pH} {r : List pv} {n : Int32} (hk : eL[k]? = some (0, x)) (ht : xk_ty x y = .boolean) (hn : n = 0 ∨ n = 1) : px_wf (.putfield i) eL d x y (.inl n :: .inr (.inr (some k)) :: r) h = some (r, (pu h.1 k y n, h.2)) := by
  show px_put eL h x y (.inl n :: .inr (.inr (some k)) :: r) = _
  unfold px_put
  dsimp only
  rw [if_pos hk, ht]
  dsimp only
  rw [if_pos hn]
theorem J_putz {W : Nat} {h0 h : pH} {k x y : Nat} {n : Int32} (hj : J_ W h0 h) (hk : eL[k]? = some (0, x)) (ht : xk_ty x y = .boolean) (hW : W.testBit (cn k + y) = true) (hv : ok_v n.toInt (eG (cn k + y))) : J_ W h0 (pu h.1 k y n, h.2) := by
  have hw : w_f h (pu h.1 k y n, h.2) k y := ⟨fun k' y' hn => ⟨if_neg hn, rfl, rfl⟩, rfl⟩
  refine ⟨g_I_f hj.1 hw hk ?_, w_f_M hw hj.2 hW⟩
  rw [pFz ht]
  show ok_v (pu h.1 k y n k y).toInt _
  rw [pu_at]
  exact hv
theorem pc_at {f : pH} {k y : Nat} {e : Int} (h0 : -2147483648 ≤ e) (h1 : e ≤ 2147483647) : cF (pu f.1 k y (Int32.ofInt e), f.2) k y = e := by
  show (pu f.1 k y (Int32.ofInt e) k y).toInt = e
  rw [pu_at, oT h0 h1]
theorem pc_ne {f : pH} {k y a b : Nat} {v : Int32} (h : ¬ (a = k ∧ b = y)) : cF (pu f.1 k y v, f.2) a b = cF f a b := congrArg Int32.toInt (if_neg h)
section TW
variable {d μ pc W : Nat} {lv : List (Nat × pv)} {r : List pv} {h0 g : pH} {P : Option pv × pH → Prop}
theorem tw_c {i x k y z : Nat} {e lo hi : Int} (hq : xe_look (xc μ) pc = some (.putfield i, 3, x, y, z)) (hk : eL[k]? = some (0, x)) (ht : xk_ty x y = .int) (hJ : J_ W h0 g) (hW : W.testBit (cn k + y) = true) (hg : eG (cn k + y) = (lo, hi, [])) (hr : -2147483648 ≤ lo ∧ hi ≤ 2147483647) (he : lo ≤ e ∧ e ≤ hi) (hP : ∀ g1 : pH, J_ W h0 g1 → g1 = (pu g.1 k y (Int32.ofInt e), g.2) → t_X d μ (pc + 3) lv r g1 P) : t_X d μ pc lv (oI e :: pvR k :: r) g P := by
  have e1 : (Int32.ofInt e).toInt = e := oT (by omega) (by omega)
  refine t_4 hq rfl (pputi hk ht) (hP _ (J_puti hJ hk ht hW ?_) rfl)
  rw [e1, hg]
  exact ⟨he.1, he.2, Or.inl rfl⟩
theorem tw_z {i x k y z : Nat} {e lo hi : Int} (hq : xe_look (xc μ) pc = some (.putfield i, 3, x, y, z)) (hk : eL[k]? = some (0, x)) (ht : xk_ty x y = .boolean) (hJ : J_ W h0 g) (hW : W.testBit (cn k + y) = true) (hg : eG (cn k + y) = (lo, hi, [])) (hr : -2147483648 ≤ lo ∧ hi ≤ 2147483647) (he : lo ≤ e ∧ e ≤ hi) (hb : e = 0 ∨ e = 1) (hP : ∀ g1 : pH, J_ W h0 g1 → g1 = (pu g.1 k y (Int32.ofInt e), g.2) → t_X d μ (pc + 3) lv r g1 P) : t_X d μ pc lv (oI e :: pvR k :: r) g P := by
  have e1 : (Int32.ofInt e).toInt = e := oT (by omega) (by omega)
  refine t_4 hq rfl (pputz hk ht ?_) (hP _ (J_putz hJ hk ht hW ?_) rfl)
  · rcases hb with rfl | rfl
    · exact Or.inl rfl
    · exact Or.inr rfl
  · rw [e1, hg]
    exact ⟨he.1, he.2, Or.inl rfl⟩
theorem tw_i {x y z K n : Nat} {j lo hi : Int} {v : Int32} (hq : xe_look (xc μ) pc = some (.iastore, 1, x, y, z)) (hJ : J_ W h0 g) (hk : eL[K]? = some (1, n)) (hn : Nat.ble n 10000 = true) (hW : W.testBit (cn K) = true) (hg : eG (cn K) = (lo, hi, [])) (hj : 0 ≤ j ∧ j < n) (he : lo ≤ v.toInt ∧ v.toInt ≤ hi) (hP : ∀ g1 : pH, J_ W h0 g1 → g1 = (g.1, g.2.1, g.2.2.1, pu g.2.2.2.1 K j.toNat v, g.2.2.2.2) → t_X d μ (pc + 1) lv r g1 P) : t_X d μ pc lv (.inl v :: oI j :: pvR K :: r) g P := by
  have hn := Nat.le_of_ble_eq_true hn
  have e2 : (Int32.ofInt j).toInt = j := oT (by omega) (by omega)
  have e3 : (Int32.ofInt j).toNatClampNeg = j.toNat := by
    show (Int32.ofInt j).toInt.toNat = _
    rw [e2]
  refine t_4 hq rfl (piast hk (e_clamp (by rw [e2]; exact hj.1) (by rw [e2]; omega))) (hP _ (J_ia hJ hk hW ?_) ?_)
  · rw [hg]
    exact ⟨he.1, he.2, Or.inl rfl⟩
  · rw [e3]
theorem pbast {d x y k n : Nat} {h : pH} {r : List pv} {v j : Int32} (hk : eL[k]? = some (2, n)) (hi : ¬ (j < 0 ∨ n ≤ j.toNatClampNeg)) : px_wf .bastore eL d x y (.inl v :: .inl j :: .inr (.inr (some k)) :: r) h = some (r, (h.1, h.2.1, h.2.2.1, pu h.2.2.2.1 k j.toNatClampNeg v.toInt8.toInt32, h.2.2.2.2)) := by
  show px_bast eL h (.inl v :: .inl j :: .inr (.inr (some k)) :: r) = _
  unfold px_bast
  dsimp only
  rw [hk]
  dsimp only
  rw [if_pos rfl, if_neg hi]
theorem J_by {W : Nat} {h0 h : pH} {k n j : Nat} {z : Int32} (hj : J_ W h0 h) (hk : eL[k]? = some (2, n)) (hW : W.testBit (cn k) = true) (hv : ok_v z.toInt (eG (cn k))) : J_ W h0 (h.1, h.2.1, h.2.2.1, pu h.2.2.2.1 k j z, h.2.2.2.2) := ⟨g_I_i hj.1 hv hk (Or.inr rfl), w_a_M w_a_i hj.2 hW⟩
theorem by_b (v : Int32) : -128 ≤ v.toInt8.toInt32.toInt ∧ v.toInt8.toInt32.toInt ≤ 127 := by
  rw [Int8.toInt_toInt32]
  have h1 := v.toInt8.le_toInt
  have h2 := v.toInt8.toInt_lt
  omega
theorem tw_y {x y z K n : Nat} {j : Int} {v : Int32} (hq : xe_look (xc μ) pc = some (.bastore, 1, x, y, z)) (hJ : J_ W h0 g) (hk : eL[K]? = some (2, n)) (hn : Nat.ble n 10000 = true) (hW : W.testBit (cn K) = true) (hg : eG (cn K) = (-144, 143, [])) (hj : 0 ≤ j ∧ j < n) (hP : ∀ g1 : pH, J_ W h0 g1 → g1 = (g.1, g.2.1, g.2.2.1, pu g.2.2.2.1 K j.toNat v.toInt8.toInt32, g.2.2.2.2) → t_X d μ (pc + 1) lv r g1 P) : t_X d μ pc lv (.inl v :: oI j :: pvR K :: r) g P := by
  have hn := Nat.le_of_ble_eq_true hn
  have e2 : (Int32.ofInt j).toInt = j := oT (by omega) (by omega)
  have e3 : (Int32.ofInt j).toNatClampNeg = j.toNat := by
    show (Int32.ofInt j).toInt.toNat = _
    rw [e2]
  refine t_4 hq rfl (pbast hk (e_clamp (by rw [e2]; exact hj.1) (by rw [e2]; omega))) (hP _ (J_by hJ hk hW ?_) ?_)
  · rw [hg]
    exact ⟨by have := (by_b v).1; show -144 ≤ _; omega, by have := (by_b v).2; show _ ≤ 143; omega, Or.inl rfl⟩
  · rw [e3]
end TW
/-- slides rows and slides: where they stand -/
def rS (g : pH) : Prop := ∀ j, j < 32 → g.2.2.2.2.2 3 j = some (4 + 2 * j) ∧ g.2.2.2.2.2 77 j = some (78 + 2 * j)
theorem el_s4 {m : Nat} (h : m < 32) : eL[4 + 2 * m]? = some (0, 7) := by
  have : ∀ m, m < 32 → eL[4 + 2 * m]? = some (0, 7) := by decide +kernel
  exact this m h
theorem el_s78 {m : Nat} (h : m < 32) : eL[78 + 2 * m]? = some (0, 7) := by
  have : ∀ m, m < 32 → eL[78 + 2 * m]? = some (0, 7) := by decide +kernel
  exact this m h
theorem el_3 : eL[3]? = some (4, 32) ∧ eL[77]? = some (4, 32) := by decide +kernel
theorem paald {d x y k n : Nat} {lv : List (Nat × pv)} {h : pH} {r : List pv} {j : Int} (hk : eL[k]? = some (4, n)) (hn : Nat.ble n 10000 = true) (hj : 0 ≤ j ∧ j < n) {q : Option Nat} (hq : h.2.2.2.2.2 k j.toNat = q) : px_push eL d none .aaload x y lv (oI j :: .inr (.inr (some k)) :: r) h = some (.inr (.inr q) :: r) := by
  have hn := Nat.le_of_ble_eq_true hn
  have e2 : (Int32.ofInt j).toInt = j := oT (by omega) (by omega)
  have e3 : (Int32.ofInt j).toNatClampNeg = j.toNat := by
    show (Int32.ofInt j).toInt.toNat = _
    rw [e2]
  show px_aald eL h (.inl (Int32.ofInt j) :: .inr (.inr (some k)) :: r) = _
  unfold px_aald
  dsimp only
  rw [hk]
  dsimp only
  rw [if_pos rfl, if_neg (e_clamp (by rw [e2]; exact hj.1) (by rw [e2]; omega)), e3, hq]
theorem pq_a3 {d x y : Nat} {lv : List (Nat × pv)} {h : pH} {r : List pv} (hS : rS h) {m : Nat} {j : Int} (hm : m < 32) (hj : j = m) : px_push eL d none .aaload x y lv (oI j :: pvR 3 :: r) h = some (pvR (4 + 2 * m) :: r) := paald el_3.1 rfl ⟨by omega, by omega⟩ (by rw [hj]; exact (hS m hm).1)
theorem pq_a77 {d x y : Nat} {lv : List (Nat × pv)} {h : pH} {r : List pv} (hS : rS h) {m : Nat} {j : Int} (hm : m < 32) (hj : j = m) : px_push eL d none .aaload x y lv (oI j :: pvR 77 :: r) h = some (pvR (78 + 2 * m) :: r) := paald el_3.2 rfl ⟨by omega, by omega⟩ (by rw [hj]; exact (hS m hm).2)
section PN
variable {pc k : Nat} {o : Int} {r : List pv}
theorem pn_nt (ho : 0 ≤ (pc : Int) + o) : px_bf (.ifnull o) pc (.inr (.inr none) :: r) = some (px_tg pc o, r) := if_pos ho
theorem pn_nf : px_bf (.ifnull o) pc (.inr (.inr (some k)) :: r) = some (pc + 3, r) := rfl
theorem pn_ot (ho : 0 ≤ (pc : Int) + o) : px_bf (.ifnonnull o) pc (.inr (.inr (some k)) :: r) = some (px_tg pc o, r) := if_pos ho
theorem pn_of : px_bf (.ifnonnull o) pc (.inr (.inr none) :: r) = some (pc + 3, r) := rfl
end PN
end
section
/-! the tie: told slides of the class (printed by wip/e2/t1.py) -/
theorem qtc_0 : xe_look (xc 83) 0 = some (.iconst 0, 1, 0, 0, 0) := by decide +kernel
theorem qtc_1 : xe_look (xc 83) 1 = some (.istore_n 1, 1, 0, 0, 0) := by decide +kernel
theorem qtc_2 : xe_look (xc 83) 2 = some (.iconst 0, 1, 0, 0, 0) := by decide +kernel
theorem qtc_3 : xe_look (xc 83) 3 = some (.istore_n 2, 1, 0, 0, 0) := by decide +kernel
theorem qtc_4 : xe_look (xc 83) 4 = some (.iload_n 2, 1, 0, 0, 0) := by decide +kernel
theorem qtc_5 : xe_look (xc 83) 5 = some (.bipush 32, 2, 0, 0, 0) := by decide +kernel
theorem qtc_7 : xe_look (xc 83) 7 = some (.if_icmp .ge 29, 3, 0, 0, 0) := by decide +kernel
theorem qtc_10 : xe_look (xc 83) 10 = some (.iload_n 1, 1, 0, 0, 0) := by decide +kernel
theorem qtc_11 : xe_look (xc 83) 11 = some (.aload_n 0, 1, 0, 0, 0) := by decide +kernel
theorem qtc_12 : xe_look (xc 83) 12 = some (.getfield 11, 3, 8, 0, 924) := by decide +kernel
theorem qtc_15 : xe_look (xc 83) 15 = some (.iload_n 2, 1, 0, 0, 0) := by decide +kernel
theorem qtc_16 : xe_look (xc 83) 16 = some (.aaload, 1, 0, 0, 0) := by decide +kernel
theorem qtc_17 : xe_look (xc 83) 17 = some (.getfield 48, 3, 7, 2, 941) := by decide +kernel
theorem qtc_20 : xe_look (xc 83) 20 = some (.ifCond .eq 7, 3, 0, 0, 0) := by decide +kernel
theorem qtc_23 : xe_look (xc 83) 23 = some (.iconst 1, 1, 0, 0, 0) := by decide +kernel
theorem qtc_24 : xe_look (xc 83) 24 = some (.goto 4, 3, 0, 0, 0) := by decide +kernel
theorem qtc_27 : xe_look (xc 83) 27 = some (.iconst 0, 1, 0, 0, 0) := by decide +kernel
theorem qtc_28 : xe_look (xc 83) 28 = some (.iadd, 1, 0, 0, 0) := by decide +kernel
theorem qtc_29 : xe_look (xc 83) 29 = some (.istore_n 1, 1, 0, 0, 0) := by decide +kernel
theorem qtc_30 : xe_look (xc 83) 30 = some (.iinc 2 1, 3, 0, 0, 0) := by decide +kernel
theorem qtc_33 : xe_look (xc 83) 33 = some (.goto (-29), 3, 0, 0, 0) := by decide +kernel
theorem qtc_36 : xe_look (xc 83) 36 = some (.iload_n 1, 1, 0, 0, 0) := by decide +kernel
theorem qtc_37 : xe_look (xc 83) 37 = some (.ireturn, 1, 0, 0, 0) := by decide +kernel
theorem qtd_0 : xe_look (xc 84) 0 = some (.iload_n 1, 1, 0, 0, 0) := by decide +kernel
theorem qtd_1 : xe_look (xc 84) 1 = some (.iconst 0, 1, 0, 0, 0) := by decide +kernel
theorem qtd_2 : xe_look (xc 84) 2 = some (.bipush 31, 2, 0, 0, 0) := by decide +kernel
theorem qtd_4 : xe_look (xc 84) 4 = some (.invokestatic 44, 3, 1, 124, 6) := by decide +kernel
theorem qtd_7 : xe_look (xc 84) 7 = some (.ifCond .eq 24, 3, 0, 0, 0) := by decide +kernel
theorem qtd_10 : xe_look (xc 84) 10 = some (.aload_n 0, 1, 0, 0, 0) := by decide +kernel
theorem qtd_11 : xe_look (xc 84) 11 = some (.getfield 11, 3, 8, 0, 924) := by decide +kernel
theorem qtd_14 : xe_look (xc 84) 14 = some (.iload_n 1, 1, 0, 0, 0) := by decide +kernel
theorem qtd_15 : xe_look (xc 84) 15 = some (.aaload, 1, 0, 0, 0) := by decide +kernel
theorem qtd_16 : xe_look (xc 84) 16 = some (.getfield 48, 3, 7, 2, 941) := by decide +kernel
theorem qtd_19 : xe_look (xc 84) 19 = some (.ifCond .eq 12, 3, 0, 0, 0) := by decide +kernel
theorem qtd_22 : xe_look (xc 84) 22 = some (.aload_n 0, 1, 0, 0, 0) := by decide +kernel
theorem qtd_23 : xe_look (xc 84) 23 = some (.getfield 11, 3, 8, 0, 924) := by decide +kernel
theorem qtd_26 : xe_look (xc 84) 26 = some (.iload_n 1, 1, 0, 0, 0) := by decide +kernel
theorem qtd_27 : xe_look (xc 84) 27 = some (.aaload, 1, 0, 0, 0) := by decide +kernel
theorem qtd_28 : xe_look (xc 84) 28 = some (.goto 4, 3, 0, 0, 0) := by decide +kernel
theorem qtd_31 : xe_look (xc 84) 31 = some (.aconst_null, 1, 0, 0, 0) := by decide +kernel
theorem qtd_32 : xe_look (xc 84) 32 = some (.areturn, 1, 0, 0, 0) := by decide +kernel
theorem er_2 : eL[2]? = some (0, 8) := by decide +kernel
theorem cg_2_0 : (eG (cn 2 + 0)).2.2 = [4] := by decide +kernel
theorem cr_2_0 {d i : Nat} {lv : List (Nat × pv)} {r : List pv} {g : pH} (hG : g_I eG g) : px_push eL d none (.getfield i) 8 0 lv (pvR 2 :: r) g = some (pvR 3 :: r) := pget er_2 (gI_r (r := 3) hG er_2 (Nat.le_of_ble_eq_true rfl) (y := 0) rfl cg_2_0)
theorem gs_told {m : Nat} (h : m < 32) : eG (cn (4 + 2 * m) + 2) = (0, 1, []) ∧ eG (cn (78 + 2 * m) + 2) = (0, 1, []) := by
  have : ∀ m, m < 32 → eG (cn (4 + 2 * m) + 2) = (0, 1, []) ∧ eG (cn (78 + 2 * m) + 2) = (0, 1, []) := by decide +kernel
  exact this m h
theorem cs4_2 {m : Nat} (hm : m < 32) {g : pH} (hG : g_I eG g) : 0 ≤ cF g (4 + 2 * m) 2 ∧ cF g (4 + 2 * m) 2 ≤ 1 := cb_z hG (el_s4 hm) (Nat.le_of_ble_eq_true rfl) rfl (gs_told hm).1
theorem cs78_2 {m : Nat} (hm : m < 32) {g : pH} (hG : g_I eG g) : 0 ≤ cF g (78 + 2 * m) 2 ∧ cF g (78 + 2 * m) 2 ≤ 1 := cb_z hG (el_s78 hm) (Nat.le_of_ble_eq_true rfl) rfl (gs_told hm).2
/-- a slide that is told -/
def toC (g : pH) (i : Int) : Prop := ∃ m : Nat, m < 32 ∧ i = m ∧ cF g (4 + 2 * m) 2 = 1
theorem td_run {d : Nat} (hd : 1 ≤ d) {g : pH} (hG : g_I eG g) (hS : rS g) {i : Int} (hi : -2147483648 ≤ i ∧ i ≤ 2147483647) {P : Option pv × pH → Prop} (h1 : ∀ m : Nat, m < 32 → i = m → cF g (4 + 2 * m) 2 = 1 → P (some (pvR (4 + 2 * m)), g)) (h0 : ¬ toC g i → P (some (.inr (.inr none)), g)) {lv : List (Nat × pv)} (l0 : px_lg lv 0 = some (pvR 2)) (l1 : px_lg lv 1 = some (oI i)) : t_X d 84 0 lv [] g P := by
  have hJ : J_ 0 g g := J_rf hG
  by_cases hr : 0 ≤ i ∧ i ≤ 31
  · obtain ⟨m, rfl⟩ : ∃ m : Nat, i = m := ⟨i.toNat, by omega⟩
    have hm : m < 32 := by omega
    refine t_0 qtd_0 rfl (ld_i l1) ?_
    refine t_0 qtd_1 rfl rfl ?_
    refine t_0 qtd_2 rfl (pq_b (by decide)) ?_
    refine t_3 qtd_4 rfl (ar := ([oI ((m : Int)), oI (0), oI (31)], [])) (pcal_s ⟨Or.inr rfl, rfl, Nat.le_of_ble_eq_true rfl⟩) ⟨by omega, Nat.le_of_ble_eq_true rfl, Nat.le_of_ble_eq_true rfl, rfl⟩ ?_
    refine ii_run ⟨by omega, by omega⟩ ⟨by omega, by omega⟩ ⟨by omega, by omega⟩ rfl rfl rfl (fun t1 => ?_) (fun t1 => absurd t1 (by omega))
    show t_X d 84 7 lv [oI (1)] g P
    refine tz_eq qtd_7 (by decide) ⟨by omega, by omega⟩ (fun c2 => absurd c2 (by omega)) (fun c2 => ?_)
    show t_X d 84 10 lv [] g P
    refine t_0 qtd_10 rfl (ld_a l0) ?_
    refine t_0 qtd_11 rfl (cr_2_0 hJ.1) ?_
    refine t_0 qtd_14 rfl (ld_i l1) ?_
    refine t_0 qtd_15 rfl (pq_a3 hS hm (by omega)) ?_
    have r3 := cs4_2 hm hJ.1
    refine t_0 qtd_16 rfl (pq_cz (y := 2) (el_s4 hm) rfl) ?_
    refine tz_eq qtd_19 (by decide) ⟨by omega, by omega⟩ (fun c4 => ?_) (fun c4 => ?_)
    · show t_X d 84 31 lv [] g P
      refine t_0 qtd_31 rfl rfl ?_
      refine t_5 qtd_32 rfl rfl ?_
      exact h0 (fun z => by obtain ⟨m9, z1, z2, z3⟩ := z; rw [show m9 = m by omega] at z3; omega)
    · show t_X d 84 22 lv [] g P
      refine t_0 qtd_22 rfl (ld_a l0) ?_
      refine t_0 qtd_23 rfl (cr_2_0 hJ.1) ?_
      refine t_0 qtd_26 rfl (ld_i l1) ?_
      refine t_0 qtd_27 rfl (pq_a3 hS hm (by omega)) ?_
      refine t_1 qtd_28 rfl (pb_goto (pc := 28) (by decide)) ?_
      show t_X d 84 32 lv [pvR (4 + 2 * m)] g P
      refine t_5 qtd_32 rfl rfl ?_
      exact h1 m hm rfl (by omega)
  · have hr2 : i < 0 ∨ 31 < i := by omega
    refine t_0 qtd_0 rfl (ld_i l1) ?_
    refine t_0 qtd_1 rfl rfl ?_
    refine t_0 qtd_2 rfl (pq_b (by decide)) ?_
    refine t_3 qtd_4 rfl (ar := ([oI (i), oI (0), oI (31)], [])) (pcal_s ⟨Or.inr rfl, rfl, Nat.le_of_ble_eq_true rfl⟩) ⟨by omega, Nat.le_of_ble_eq_true rfl, Nat.le_of_ble_eq_true rfl, rfl⟩ ?_
    refine ii_run ⟨by omega, by omega⟩ ⟨by omega, by omega⟩ ⟨by omega, by omega⟩ rfl rfl rfl (fun t1 => absurd t1 (by omega)) (fun t1 => ?_)
    show t_X d 84 7 lv [oI (0)] g P
    refine tz_eq qtd_7 (by decide) ⟨by omega, by omega⟩ (fun c2 => ?_) (fun c2 => absurd c2 (by omega))
    show t_X d 84 31 lv [] g P
    refine t_0 qtd_31 rfl rfl ?_
    refine t_5 qtd_32 rfl rfl ?_
    exact h0 (fun z => by obtain ⟨m9, z1, z2, z3⟩ := z; omega)
/-- how many are told -/
def ctl (f : Nat → Int) : Nat → Int
  | 0 => 0
  | n + 1 => ctl f n + f n
theorem ctl_b {f : Nat → Int} : ∀ {n : Nat}, (∀ j, j < n → 0 ≤ f j ∧ f j ≤ 1) → 0 ≤ ctl f n ∧ ctl f n ≤ n
  | 0, _ => ⟨Int.le_refl _, Int.le_refl _⟩
  | n + 1, h => by
    have h1 := ctl_b (f := f) (n := n) (fun j hj => h j (by omega))
    have h2 := h n (by omega)
    show 0 ≤ ctl f n + f n ∧ ctl f n + f n ≤ ((n + 1 : Nat) : Int)
    omega
set_option maxHeartbeats 1000000 in
theorem tc_loop {d : Nat} {g : pH} (hG : g_I eG g) (hS : rS g) {P : Option pv × pH → Prop} (hP : P (some (oI (ctl (fun j => cF g (4 + 2 * j) 2) 32)), g)) : ∀ (n m : Nat) (lv : List (Nat × pv)), 32 - m ≤ n → m ≤ 32 → px_lg lv 0 = some (pvR 2) → px_lg lv 1 = some (oI (ctl (fun j => cF g (4 + 2 * j) 2) m)) → px_lg lv 2 = some (oI (m : Int)) → t_X d 83 4 lv [] g P := by
  have hJ : J_ 0 g g := J_rf hG
  have hb : ∀ m, m ≤ 32 → 0 ≤ ctl (fun j => cF g (4 + 2 * j) 2) m ∧ ctl (fun j => cF g (4 + 2 * j) 2) m ≤ 32 := fun m hm => by
    have := ctl_b (f := fun j => cF g (4 + 2 * j) 2) (n := m) (fun j hj => cs4_2 (by omega) hG)
    omega
  intro n
  induction n with
  | zero =>
    intro m lv hn hm l0 l1 l2
    have hb1 := hb m hm
    have he : m = 32 := by omega
    subst he
    refine t_0 qtc_4 rfl (ld_i l2) ?_
    refine t_0 qtc_5 rfl (pq_b (by decide)) ?_
    refine tb_ge qtc_7 (by decide) ⟨by omega, by omega⟩ ⟨by omega, by omega⟩ (fun c1 => ?_) (fun c1 => absurd c1 (by omega))
    show t_X d 83 36 lv [] g P
    refine t_0 qtc_36 rfl (ld_i l1) ?_
    refine t_5 qtc_37 rfl rfl ?_
    exact hP
  | succ n ih =>
    intro m lv hn hm2 l0 l1 l2
    have hb1 := hb m hm2
    by_cases hm : m < 32
    · have hc := cs4_2 hm hG
      refine t_0 qtc_4 rfl (ld_i l2) ?_
      refine t_0 qtc_5 rfl (pq_b (by decide)) ?_
      refine tb_ge qtc_7 (by decide) ⟨by omega, by omega⟩ ⟨by omega, by omega⟩ (fun c1 => absurd c1 (by omega)) (fun c1 => ?_)
      show t_X d 83 10 lv [] g P
      refine t_0 qtc_10 rfl (ld_i l1) ?_
      refine t_0 qtc_11 rfl (ld_a l0) ?_
      refine t_0 qtc_12 rfl (cr_2_0 hJ.1) ?_
      refine t_0 qtc_15 rfl (ld_i l2) ?_
      refine t_0 qtc_16 rfl (pq_a3 hS hm (by omega)) ?_
      have r2 := cs4_2 hm hJ.1
      refine t_0 qtc_17 rfl (pq_cz (y := 2) (el_s4 hm) rfl) ?_
      refine tz_eq qtc_20 (by decide) ⟨by omega, by omega⟩ (fun c3 => ?_) (fun c3 => ?_)
      · show t_X d 83 27 lv [oI (ctl (fun j => cF g (4 + 2 * j) 2) m)] g P
        refine t_0 qtc_27 rfl rfl ?_
        refine t_0 qtc_28 rfl pq_add ?_
        refine t_2 qtc_29 rfl (w := (px_s1 lv 1 (oI ((ctl (fun j => cF g (4 + 2 * j) 2) m) + 0)), [])) rfl ?_
        replace l0 : px_lg (px_s1 lv 1 (oI ((ctl (fun j => cF g (4 + 2 * j) 2) m) + 0))) 0 = some (pvR 2) := s1_ne (by decide) (fun _ => rfl) l0
        replace l2 : px_lg (px_s1 lv 1 (oI ((ctl (fun j => cF g (4 + 2 * j) 2) m) + 0))) 2 = some (oI ((m : Int))) := s1_ne (by decide) (fun _ => rfl) l2
        have l1 : px_lg (px_s1 lv 1 (oI ((ctl (fun j => cF g (4 + 2 * j) 2) m) + 0))) 1 = some (oI ((ctl (fun j => cF g (4 + 2 * j) 2) m) + 0)) := s1_eq
        generalize px_s1 lv 1 (oI ((ctl (fun j => cF g (4 + 2 * j) 2) m) + 0)) = lv4 at l0 l2 l1 ⊢
        show t_X d 83 30 lv4 [] g P
        refine t_2 qtc_30 rfl (w := (px_s1 lv4 2 (oI ((m : Int) + 1)), [])) (pq_inc l2 (by decide)) ?_
        replace l0 : px_lg (px_s1 lv4 2 (oI ((m : Int) + 1))) 0 = some (pvR 2) := s1_ne (by decide) (fun _ => rfl) l0
        replace l1 : px_lg (px_s1 lv4 2 (oI ((m : Int) + 1))) 1 = some (oI ((ctl (fun j => cF g (4 + 2 * j) 2) m) + 0)) := s1_ne (by decide) (fun _ => rfl) l1
        have l2 : px_lg (px_s1 lv4 2 (oI ((m : Int) + 1))) 2 = some (oI ((m : Int) + 1)) := s1_eq
        generalize px_s1 lv4 2 (oI ((m : Int) + 1)) = lv5 at l0 l1 l2 ⊢
        show t_X d 83 33 lv5 [] g P
        refine t_1 qtc_33 rfl (pb_goto (pc := 33) (by decide)) ?_
        show t_X d 83 4 lv5 [] g P
        exact ih (m + 1) _ (by omega) (by omega) l0 (by rw [l1]; exact congrArg (fun u => some (oI u)) (by show _ = ctl _ m + cF g (4 + 2 * m) 2; omega)) l2
      · show t_X d 83 23 lv [oI (ctl (fun j => cF g (4 + 2 * j) 2) m)] g P
        refine t_0 qtc_23 rfl rfl ?_
        refine t_1 qtc_24 rfl (pb_goto (pc := 24) (by decide)) ?_
        show t_X d 83 28 lv [oI (1), oI (ctl (fun j => cF g (4 + 2 * j) 2) m)] g P
        refine t_0 qtc_28 rfl pq_add ?_
        refine t_2 qtc_29 rfl (w := (px_s1 lv 1 (oI ((ctl (fun j => cF g (4 + 2 * j) 2) m) + 1)), [])) rfl ?_
        replace l0 : px_lg (px_s1 lv 1 (oI ((ctl (fun j => cF g (4 + 2 * j) 2) m) + 1))) 0 = some (pvR 2) := s1_ne (by decide) (fun _ => rfl) l0
        replace l2 : px_lg (px_s1 lv 1 (oI ((ctl (fun j => cF g (4 + 2 * j) 2) m) + 1))) 2 = some (oI ((m : Int))) := s1_ne (by decide) (fun _ => rfl) l2
        have l1 : px_lg (px_s1 lv 1 (oI ((ctl (fun j => cF g (4 + 2 * j) 2) m) + 1))) 1 = some (oI ((ctl (fun j => cF g (4 + 2 * j) 2) m) + 1)) := s1_eq
        generalize px_s1 lv 1 (oI ((ctl (fun j => cF g (4 + 2 * j) 2) m) + 1)) = lv6 at l0 l2 l1 ⊢
        show t_X d 83 30 lv6 [] g P
        refine t_2 qtc_30 rfl (w := (px_s1 lv6 2 (oI ((m : Int) + 1)), [])) (pq_inc l2 (by decide)) ?_
        replace l0 : px_lg (px_s1 lv6 2 (oI ((m : Int) + 1))) 0 = some (pvR 2) := s1_ne (by decide) (fun _ => rfl) l0
        replace l1 : px_lg (px_s1 lv6 2 (oI ((m : Int) + 1))) 1 = some (oI ((ctl (fun j => cF g (4 + 2 * j) 2) m) + 1)) := s1_ne (by decide) (fun _ => rfl) l1
        have l2 : px_lg (px_s1 lv6 2 (oI ((m : Int) + 1))) 2 = some (oI ((m : Int) + 1)) := s1_eq
        generalize px_s1 lv6 2 (oI ((m : Int) + 1)) = lv7 at l0 l1 l2 ⊢
        show t_X d 83 33 lv7 [] g P
        refine t_1 qtc_33 rfl (pb_goto (pc := 33) (by decide)) ?_
        show t_X d 83 4 lv7 [] g P
        exact ih (m + 1) _ (by omega) (by omega) l0 (by rw [l1]; exact congrArg (fun u => some (oI u)) (by show _ = ctl _ m + cF g (4 + 2 * m) 2; omega)) l2
    · have he : m = 32 := by omega
      subst he
      refine t_0 qtc_4 rfl (ld_i l2) ?_
      refine t_0 qtc_5 rfl (pq_b (by decide)) ?_
      refine tb_ge qtc_7 (by decide) ⟨by omega, by omega⟩ ⟨by omega, by omega⟩ (fun c1 => ?_) (fun c1 => absurd c1 (by omega))
      show t_X d 83 36 lv [] g P
      refine t_0 qtc_36 rfl (ld_i l1) ?_
      refine t_5 qtc_37 rfl rfl ?_
      exact hP
theorem tc_run {d : Nat} {g : pH} (hG : g_I eG g) (hS : rS g) {P : Option pv × pH → Prop} (hP : P (some (oI (ctl (fun j => cF g (4 + 2 * j) 2) 32)), g)) {lv : List (Nat × pv)} (l0 : px_lg lv 0 = some (pvR 2)) : t_X d 83 0 lv [] g P := by
  have hJ : J_ 0 g g := J_rf hG
  refine t_0 qtc_0 rfl rfl ?_
  refine t_2 qtc_1 rfl (w := (px_s1 lv 1 (oI (0)), [])) rfl ?_
  replace l0 : px_lg (px_s1 lv 1 (oI (0))) 0 = some (pvR 2) := s1_ne (by decide) (fun _ => rfl) l0
  have l1 : px_lg (px_s1 lv 1 (oI (0))) 1 = some (oI (0)) := s1_eq
  generalize px_s1 lv 1 (oI (0)) = lv1 at l0 l1 ⊢
  show t_X d 83 2 lv1 [] g P
  refine t_0 qtc_2 rfl rfl ?_
  refine t_2 qtc_3 rfl (w := (px_s1 lv1 2 (oI (0)), [])) rfl ?_
  replace l0 : px_lg (px_s1 lv1 2 (oI (0))) 0 = some (pvR 2) := s1_ne (by decide) (fun _ => rfl) l0
  replace l1 : px_lg (px_s1 lv1 2 (oI (0))) 1 = some (oI (0)) := s1_ne (by decide) (fun _ => rfl) l1
  have l2 : px_lg (px_s1 lv1 2 (oI (0))) 2 = some (oI (0)) := s1_eq
  generalize px_s1 lv1 2 (oI (0)) = lv2 at l0 l1 l2 ⊢
  show t_X d 83 4 lv2 [] g P
  exact tc_loop hG hS hP 32 0 _ (by omega) (by omega) l0 l1 l2
end
