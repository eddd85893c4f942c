/-! the slides' data: slide, day, keep, undo of the reference (printed by wip/e2/x13.py) -/
theorem cpm_0 : xe_look (xc 179) 0 = some (.iconst 0, 1, 0, 0, 0) := by decide +kernel
theorem cpm_1 : xe_look (xc 179) 1 = some (.istore_n 3, 1, 0, 0, 0) := by decide +kernel
theorem cpm_2 : xe_look (xc 179) 2 = some (.iload_n 3, 1, 0, 0, 0) := by decide +kernel
theorem cpm_3 : xe_look (xc 179) 3 = some (.iload_n 2, 1, 0, 0, 0) := by decide +kernel
theorem cpm_4 : xe_look (xc 179) 4 = some (.if_icmp .ge 15, 3, 0, 0, 0) := by decide +kernel
theorem cpm_7 : xe_look (xc 179) 7 = some (.aload_n 1, 1, 0, 0, 0) := by decide +kernel
theorem cpm_8 : xe_look (xc 179) 8 = some (.iload_n 3, 1, 0, 0, 0) := by decide +kernel
theorem cpm_9 : xe_look (xc 179) 9 = some (.aload_n 0, 1, 0, 0, 0) := by decide +kernel
theorem cpm_10 : xe_look (xc 179) 10 = some (.iload_n 3, 1, 0, 0, 0) := by decide +kernel
theorem cpm_11 : xe_look (xc 179) 11 = some (.iaload, 1, 0, 0, 0) := by decide +kernel
theorem cpm_12 : xe_look (xc 179) 12 = some (.iastore, 1, 0, 0, 0) := by decide +kernel
theorem cpm_13 : xe_look (xc 179) 13 = some (.iinc 3 1, 3, 0, 0, 0) := by decide +kernel
theorem cpm_16 : xe_look (xc 179) 16 = some (.goto (-14), 3, 0, 0, 0) := by decide +kernel
theorem cpm_19 : xe_look (xc 179) 19 = some (.return_, 1, 0, 0, 0) := by decide +kernel
theorem vky_0 : xe_look (xc 209) 0 = some (.aload_n 0, 1, 0, 0, 0) := by decide +kernel
theorem vky_1 : xe_look (xc 209) 1 = some (.iconst 1, 1, 0, 0, 0) := by decide +kernel
theorem vky_2 : xe_look (xc 209) 2 = some (.putfield 516, 3, 12, 72, 1223) := by decide +kernel
theorem vky_5 : xe_look (xc 209) 5 = some (.aload_n 0, 1, 0, 0, 0) := by decide +kernel
theorem vky_6 : xe_look (xc 209) 6 = some (.aload_n 0, 1, 0, 0, 0) := by decide +kernel
theorem vky_7 : xe_look (xc 209) 7 = some (.getfield 183, 3, 12, 0, 1158) := by decide +kernel
theorem vky_10 : xe_look (xc 209) 10 = some (.putfield 520, 3, 12, 73, 1224) := by decide +kernel
theorem vky_13 : xe_look (xc 209) 13 = some (.aload_n 0, 1, 0, 0, 0) := by decide +kernel
theorem vky_14 : xe_look (xc 209) 14 = some (.aload_n 0, 1, 0, 0, 0) := by decide +kernel
theorem vky_15 : xe_look (xc 209) 15 = some (.getfield 191, 3, 12, 1, 1160) := by decide +kernel
theorem vky_18 : xe_look (xc 209) 18 = some (.putfield 523, 3, 12, 74, 1225) := by decide +kernel
theorem vky_21 : xe_look (xc 209) 21 = some (.aload_n 0, 1, 0, 0, 0) := by decide +kernel
theorem vky_22 : xe_look (xc 209) 22 = some (.aload_n 0, 1, 0, 0, 0) := by decide +kernel
theorem vky_23 : xe_look (xc 209) 23 = some (.getfield 212, 3, 12, 22, 1147) := by decide +kernel
theorem vky_26 : xe_look (xc 209) 26 = some (.putfield 526, 3, 12, 75, 1226) := by decide +kernel
theorem vky_29 : xe_look (xc 209) 29 = some (.aload_n 0, 1, 0, 0, 0) := by decide +kernel
theorem vky_30 : xe_look (xc 209) 30 = some (.aload_n 0, 1, 0, 0, 0) := by decide +kernel
theorem vky_31 : xe_look (xc 209) 31 = some (.getfield 215, 3, 12, 23, 1117) := by decide +kernel
theorem vky_34 : xe_look (xc 209) 34 = some (.putfield 529, 3, 12, 76, 1227) := by decide +kernel
theorem vky_37 : xe_look (xc 209) 37 = some (.aload_n 0, 1, 0, 0, 0) := by decide +kernel
theorem vky_38 : xe_look (xc 209) 38 = some (.getfield 7, 3, 12, 2, 1133) := by decide +kernel
theorem vky_41 : xe_look (xc 209) 41 = some (.aload_n 0, 1, 0, 0, 0) := by decide +kernel
theorem vky_42 : xe_look (xc 209) 42 = some (.getfield 144, 3, 12, 77, 1209) := by decide +kernel
theorem vky_45 : xe_look (xc 209) 45 = some (.bipush 42, 2, 0, 0, 0) := by decide +kernel
theorem vky_47 : xe_look (xc 209) 47 = some (.invokestatic 292, 3, 0, 179, 1228) := by decide +kernel
theorem vky_50 : xe_look (xc 209) 50 = some (.aload_n 0, 1, 0, 0, 0) := by decide +kernel
theorem vky_51 : xe_look (xc 209) 51 = some (.getfield 16, 3, 12, 4, 1175) := by decide +kernel
theorem vky_54 : xe_look (xc 209) 54 = some (.aload_n 0, 1, 0, 0, 0) := by decide +kernel
theorem vky_55 : xe_look (xc 209) 55 = some (.getfield 147, 3, 12, 78, 1210) := by decide +kernel
theorem vky_58 : xe_look (xc 209) 58 = some (.bipush 32, 2, 0, 0, 0) := by decide +kernel
theorem vky_60 : xe_look (xc 209) 60 = some (.invokestatic 292, 3, 0, 179, 1228) := by decide +kernel
theorem vky_63 : xe_look (xc 209) 63 = some (.aload_n 0, 1, 0, 0, 0) := by decide +kernel
theorem vky_64 : xe_look (xc 209) 64 = some (.getfield 19, 3, 12, 5, 1155) := by decide +kernel
theorem vky_67 : xe_look (xc 209) 67 = some (.aload_n 0, 1, 0, 0, 0) := by decide +kernel
theorem vky_68 : xe_look (xc 209) 68 = some (.getfield 150, 3, 12, 79, 1211) := by decide +kernel
theorem vky_71 : xe_look (xc 209) 71 = some (.bipush 32, 2, 0, 0, 0) := by decide +kernel
theorem vky_73 : xe_look (xc 209) 73 = some (.invokestatic 292, 3, 0, 179, 1228) := by decide +kernel
theorem vky_76 : xe_look (xc 209) 76 = some (.aload_n 0, 1, 0, 0, 0) := by decide +kernel
theorem vky_77 : xe_look (xc 209) 77 = some (.getfield 22, 3, 12, 6, 1176) := by decide +kernel
theorem vky_80 : xe_look (xc 209) 80 = some (.aload_n 0, 1, 0, 0, 0) := by decide +kernel
theorem vky_81 : xe_look (xc 209) 81 = some (.getfield 153, 3, 12, 80, 1212) := by decide +kernel
theorem vky_84 : xe_look (xc 209) 84 = some (.bipush 32, 2, 0, 0, 0) := by decide +kernel
theorem vky_86 : xe_look (xc 209) 86 = some (.invokestatic 292, 3, 0, 179, 1228) := by decide +kernel
theorem vky_89 : xe_look (xc 209) 89 = some (.aload_n 0, 1, 0, 0, 0) := by decide +kernel
theorem vky_90 : xe_look (xc 209) 90 = some (.getfield 25, 3, 12, 7, 1167) := by decide +kernel
theorem vky_93 : xe_look (xc 209) 93 = some (.aload_n 0, 1, 0, 0, 0) := by decide +kernel
theorem vky_94 : xe_look (xc 209) 94 = some (.getfield 156, 3, 12, 81, 1213) := by decide +kernel
theorem vky_97 : xe_look (xc 209) 97 = some (.bipush 32, 2, 0, 0, 0) := by decide +kernel
theorem vky_99 : xe_look (xc 209) 99 = some (.invokestatic 292, 3, 0, 179, 1228) := by decide +kernel
theorem vky_102 : xe_look (xc 209) 102 = some (.aload_n 0, 1, 0, 0, 0) := by decide +kernel
theorem vky_103 : xe_look (xc 209) 103 = some (.getfield 28, 3, 12, 8, 1165) := by decide +kernel
theorem vky_106 : xe_look (xc 209) 106 = some (.aload_n 0, 1, 0, 0, 0) := by decide +kernel
theorem vky_107 : xe_look (xc 209) 107 = some (.getfield 159, 3, 12, 82, 1214) := by decide +kernel
theorem vky_110 : xe_look (xc 209) 110 = some (.bipush 8, 2, 0, 0, 0) := by decide +kernel
theorem vky_112 : xe_look (xc 209) 112 = some (.invokestatic 292, 3, 0, 179, 1228) := by decide +kernel
theorem vky_115 : xe_look (xc 209) 115 = some (.aload_n 0, 1, 0, 0, 0) := by decide +kernel
theorem vky_116 : xe_look (xc 209) 116 = some (.getfield 31, 3, 12, 9, 1166) := by decide +kernel
theorem vky_119 : xe_look (xc 209) 119 = some (.aload_n 0, 1, 0, 0, 0) := by decide +kernel
theorem vky_120 : xe_look (xc 209) 120 = some (.getfield 162, 3, 12, 83, 1215) := by decide +kernel
theorem vky_123 : xe_look (xc 209) 123 = some (.bipush 8, 2, 0, 0, 0) := by decide +kernel
theorem vky_125 : xe_look (xc 209) 125 = some (.invokestatic 292, 3, 0, 179, 1228) := by decide +kernel
theorem vky_128 : xe_look (xc 209) 128 = some (.aload_n 0, 1, 0, 0, 0) := by decide +kernel
theorem vky_129 : xe_look (xc 209) 129 = some (.getfield 34, 3, 12, 10, 1156) := by decide +kernel
theorem vky_132 : xe_look (xc 209) 132 = some (.aload_n 0, 1, 0, 0, 0) := by decide +kernel
theorem vky_133 : xe_look (xc 209) 133 = some (.getfield 165, 3, 12, 84, 1216) := by decide +kernel
theorem vky_136 : xe_look (xc 209) 136 = some (.bipush 32, 2, 0, 0, 0) := by decide +kernel
theorem vky_138 : xe_look (xc 209) 138 = some (.invokestatic 292, 3, 0, 179, 1228) := by decide +kernel
theorem vky_141 : xe_look (xc 209) 141 = some (.aload_n 0, 1, 0, 0, 0) := by decide +kernel
theorem vky_142 : xe_look (xc 209) 142 = some (.getfield 37, 3, 12, 11, 1148) := by decide +kernel
theorem vky_145 : xe_look (xc 209) 145 = some (.aload_n 0, 1, 0, 0, 0) := by decide +kernel
theorem vky_146 : xe_look (xc 209) 146 = some (.getfield 168, 3, 12, 85, 1217) := by decide +kernel
theorem vky_149 : xe_look (xc 209) 149 = some (.bipush 24, 2, 0, 0, 0) := by decide +kernel
theorem vky_151 : xe_look (xc 209) 151 = some (.invokestatic 292, 3, 0, 179, 1228) := by decide +kernel
theorem vky_154 : xe_look (xc 209) 154 = some (.aload_n 0, 1, 0, 0, 0) := by decide +kernel
theorem vky_155 : xe_look (xc 209) 155 = some (.getfield 40, 3, 12, 12, 1149) := by decide +kernel
theorem vky_158 : xe_look (xc 209) 158 = some (.aload_n 0, 1, 0, 0, 0) := by decide +kernel
theorem vky_159 : xe_look (xc 209) 159 = some (.getfield 171, 3, 12, 86, 1218) := by decide +kernel
theorem vky_162 : xe_look (xc 209) 162 = some (.bipush 24, 2, 0, 0, 0) := by decide +kernel
theorem vky_164 : xe_look (xc 209) 164 = some (.invokestatic 292, 3, 0, 179, 1228) := by decide +kernel
theorem vky_167 : xe_look (xc 209) 167 = some (.aload_n 0, 1, 0, 0, 0) := by decide +kernel
theorem vky_168 : xe_look (xc 209) 168 = some (.getfield 43, 3, 12, 13, 1120) := by decide +kernel
theorem vky_171 : xe_look (xc 209) 171 = some (.aload_n 0, 1, 0, 0, 0) := by decide +kernel
theorem vky_172 : xe_look (xc 209) 172 = some (.getfield 174, 3, 12, 87, 1219) := by decide +kernel
theorem vky_175 : xe_look (xc 209) 175 = some (.bipush 12, 2, 0, 0, 0) := by decide +kernel
theorem vky_177 : xe_look (xc 209) 177 = some (.invokestatic 292, 3, 0, 179, 1228) := by decide +kernel
theorem vky_180 : xe_look (xc 209) 180 = some (.aload_n 0, 1, 0, 0, 0) := by decide +kernel
theorem vky_181 : xe_look (xc 209) 181 = some (.getfield 46, 3, 12, 14, 1118) := by decide +kernel
theorem vky_184 : xe_look (xc 209) 184 = some (.aload_n 0, 1, 0, 0, 0) := by decide +kernel
theorem vky_185 : xe_look (xc 209) 185 = some (.getfield 177, 3, 12, 88, 1220) := by decide +kernel
theorem vky_188 : xe_look (xc 209) 188 = some (.bipush 12, 2, 0, 0, 0) := by decide +kernel
theorem vky_190 : xe_look (xc 209) 190 = some (.invokestatic 292, 3, 0, 179, 1228) := by decide +kernel
theorem vky_193 : xe_look (xc 209) 193 = some (.iconst 0, 1, 0, 0, 0) := by decide +kernel
theorem vky_194 : xe_look (xc 209) 194 = some (.istore_n 1, 1, 0, 0, 0) := by decide +kernel
theorem vky_195 : xe_look (xc 209) 195 = some (.iload_n 1, 1, 0, 0, 0) := by decide +kernel
theorem vky_196 : xe_look (xc 209) 196 = some (.sipush 800, 3, 0, 0, 0) := by decide +kernel
theorem vky_199 : xe_look (xc 209) 199 = some (.if_icmp .ge 21, 3, 0, 0, 0) := by decide +kernel
theorem vky_202 : xe_look (xc 209) 202 = some (.aload_n 0, 1, 0, 0, 0) := by decide +kernel
theorem vky_203 : xe_look (xc 209) 203 = some (.getfield 180, 3, 12, 89, 1221) := by decide +kernel
theorem vky_206 : xe_look (xc 209) 206 = some (.iload_n 1, 1, 0, 0, 0) := by decide +kernel
theorem vky_207 : xe_look (xc 209) 207 = some (.aload_n 0, 1, 0, 0, 0) := by decide +kernel
theorem vky_208 : xe_look (xc 209) 208 = some (.getfield 49, 3, 12, 15, 1193) := by decide +kernel
theorem vky_211 : xe_look (xc 209) 211 = some (.iload_n 1, 1, 0, 0, 0) := by decide +kernel
theorem vky_212 : xe_look (xc 209) 212 = some (.baload, 1, 0, 0, 0) := by decide +kernel
theorem vky_213 : xe_look (xc 209) 213 = some (.bastore, 1, 0, 0, 0) := by decide +kernel
theorem vky_214 : xe_look (xc 209) 214 = some (.iinc 1 1, 3, 0, 0, 0) := by decide +kernel
theorem vky_217 : xe_look (xc 209) 217 = some (.goto (-22), 3, 0, 0, 0) := by decide +kernel
theorem vky_220 : xe_look (xc 209) 220 = some (.aload_n 0, 1, 0, 0, 0) := by decide +kernel
theorem vky_221 : xe_look (xc 209) 221 = some (.getfield 183, 3, 12, 0, 1158) := by decide +kernel
theorem vky_224 : xe_look (xc 209) 224 = some (.invokestatic 532, 3, 0, 171, 1159) := by decide +kernel
theorem vky_227 : xe_look (xc 209) 227 = some (.ireturn, 1, 0, 0, 0) := by decide +kernel
theorem vmd_0 : xe_look (xc 183) 0 = some (.aload_n 0, 1, 0, 0, 0) := by decide +kernel
theorem vmd_1 : xe_look (xc 183) 1 = some (.iload_n 1, 1, 0, 0, 0) := by decide +kernel
theorem vmd_2 : xe_look (xc 183) 2 = some (.invokevirtual 205, 3, 0, 205, 1130) := by decide +kernel
theorem vmd_5 : xe_look (xc 183) 5 = some (.ifCond .eq 13, 3, 0, 0, 0) := by decide +kernel
theorem vmd_8 : xe_look (xc 183) 8 = some (.iload_n 2, 1, 0, 0, 0) := by decide +kernel
theorem vmd_9 : xe_look (xc 183) 9 = some (.iconst 0, 1, 0, 0, 0) := by decide +kernel
theorem vmd_10 : xe_look (xc 183) 10 = some (.bipush 99, 2, 0, 0, 0) := by decide +kernel
theorem vmd_12 : xe_look (xc 183) 12 = some (.invokestatic 201, 3, 0, 199, 1131) := by decide +kernel
theorem vmd_15 : xe_look (xc 183) 15 = some (.ifCond .ne 5, 3, 0, 0, 0) := by decide +kernel
theorem vmd_18 : xe_look (xc 183) 18 = some (.iconst 0, 1, 0, 0, 0) := by decide +kernel
theorem vmd_19 : xe_look (xc 183) 19 = some (.ireturn, 1, 0, 0, 0) := by decide +kernel
theorem vmd_20 : xe_look (xc 183) 20 = some (.aload_n 0, 1, 0, 0, 0) := by decide +kernel
theorem vmd_21 : xe_look (xc 183) 21 = some (.getfield 25, 3, 12, 7, 1167) := by decide +kernel
theorem vmd_24 : xe_look (xc 183) 24 = some (.iload_n 1, 1, 0, 0, 0) := by decide +kernel
theorem vmd_25 : xe_look (xc 183) 25 = some (.iload_n 2, 1, 0, 0, 0) := by decide +kernel
theorem vmd_26 : xe_look (xc 183) 26 = some (.iastore, 1, 0, 0, 0) := by decide +kernel
theorem vmd_27 : xe_look (xc 183) 27 = some (.iconst 1, 1, 0, 0, 0) := by decide +kernel
theorem vmd_28 : xe_look (xc 183) 28 = some (.ireturn, 1, 0, 0, 0) := by decide +kernel
theorem vmy_102 : xe_look (xc 251) 102 = some (.iconst 0, 1, 0, 0, 0) := by decide +kernel
theorem vmy_103 : xe_look (xc 251) 103 = some (.istore 5, 2, 0, 0, 0) := by decide +kernel
theorem vmy_105 : xe_look (xc 251) 105 = some (.iload 5, 2, 0, 0, 0) := by decide +kernel
theorem vmy_107 : xe_look (xc 251) 107 = some (.bipush 25, 2, 0, 0, 0) := by decide +kernel
theorem vmy_109 : xe_look (xc 251) 109 = some (.if_icmp .ge 28, 3, 0, 0, 0) := by decide +kernel
theorem vmy_112 : xe_look (xc 251) 112 = some (.aload_n 0, 1, 0, 0, 0) := by decide +kernel
theorem vmy_113 : xe_look (xc 251) 113 = some (.getfield 49, 3, 12, 15, 1193) := by decide +kernel
theorem vmy_116 : xe_look (xc 251) 116 = some (.bipush 25, 2, 0, 0, 0) := by decide +kernel
theorem vmy_118 : xe_look (xc 251) 118 = some (.iload_n 1, 1, 0, 0, 0) := by decide +kernel
theorem vmy_119 : xe_look (xc 251) 119 = some (.imul, 1, 0, 0, 0) := by decide +kernel
theorem vmy_120 : xe_look (xc 251) 120 = some (.iload 5, 2, 0, 0, 0) := by decide +kernel
theorem vmy_122 : xe_look (xc 251) 122 = some (.iadd, 1, 0, 0, 0) := by decide +kernel
theorem vmy_123 : xe_look (xc 251) 123 = some (.aload_n 0, 1, 0, 0, 0) := by decide +kernel
theorem vmy_124 : xe_look (xc 251) 124 = some (.getfield 53, 3, 12, 16, 1134) := by decide +kernel
theorem vmy_127 : xe_look (xc 251) 127 = some (.iload 5, 2, 0, 0, 0) := by decide +kernel
theorem vmy_129 : xe_look (xc 251) 129 = some (.baload, 1, 0, 0, 0) := by decide +kernel
theorem vmy_130 : xe_look (xc 251) 130 = some (.bastore, 1, 0, 0, 0) := by decide +kernel
theorem vmy_131 : xe_look (xc 251) 131 = some (.iinc 5 1, 3, 0, 0, 0) := by decide +kernel
theorem vmy_134 : xe_look (xc 251) 134 = some (.goto (-29), 3, 0, 0, 0) := by decide +kernel
theorem vmy_137 : xe_look (xc 251) 137 = some (.aload_n 0, 1, 0, 0, 0) := by decide +kernel
theorem vmy_138 : xe_look (xc 251) 138 = some (.aload_n 0, 1, 0, 0, 0) := by decide +kernel
theorem vmy_139 : xe_look (xc 251) 139 = some (.getfield 183, 3, 12, 0, 1158) := by decide +kernel
theorem vmy_142 : xe_look (xc 251) 142 = some (.iconst 1, 1, 0, 0, 0) := by decide +kernel
theorem vmy_143 : xe_look (xc 251) 143 = some (.iload_n 1, 1, 0, 0, 0) := by decide +kernel
theorem vmy_144 : xe_look (xc 251) 144 = some (.ishl, 1, 0, 0, 0) := by decide +kernel
theorem vmy_145 : xe_look (xc 251) 145 = some (.ior, 1, 0, 0, 0) := by decide +kernel
theorem vmy_146 : xe_look (xc 251) 146 = some (.putfield 183, 3, 12, 0, 1158) := by decide +kernel
theorem vmy_149 : xe_look (xc 251) 149 = some (.aload_n 0, 1, 0, 0, 0) := by decide +kernel
theorem vmy_150 : xe_look (xc 251) 150 = some (.getfield 16, 3, 12, 4, 1175) := by decide +kernel
theorem vmy_153 : xe_look (xc 251) 153 = some (.iload_n 1, 1, 0, 0, 0) := by decide +kernel
theorem vmy_154 : xe_look (xc 251) 154 = some (.iload_n 2, 1, 0, 0, 0) := by decide +kernel
theorem vmy_155 : xe_look (xc 251) 155 = some (.iastore, 1, 0, 0, 0) := by decide +kernel
theorem vmy_156 : xe_look (xc 251) 156 = some (.aload_n 0, 1, 0, 0, 0) := by decide +kernel
theorem vmy_157 : xe_look (xc 251) 157 = some (.getfield 19, 3, 12, 5, 1155) := by decide +kernel
theorem vmy_160 : xe_look (xc 251) 160 = some (.iload_n 1, 1, 0, 0, 0) := by decide +kernel
theorem vmy_161 : xe_look (xc 251) 161 = some (.iload_n 3, 1, 0, 0, 0) := by decide +kernel
theorem vmy_162 : xe_look (xc 251) 162 = some (.iastore, 1, 0, 0, 0) := by decide +kernel
theorem vmy_163 : xe_look (xc 251) 163 = some (.aload_n 0, 1, 0, 0, 0) := by decide +kernel
theorem vmy_164 : xe_look (xc 251) 164 = some (.getfield 22, 3, 12, 6, 1176) := by decide +kernel
theorem vmy_167 : xe_look (xc 251) 167 = some (.iload_n 1, 1, 0, 0, 0) := by decide +kernel
theorem vmy_168 : xe_look (xc 251) 168 = some (.iload 4, 2, 0, 0, 0) := by decide +kernel
theorem vmy_170 : xe_look (xc 251) 170 = some (.iastore, 1, 0, 0, 0) := by decide +kernel
theorem vmy_171 : xe_look (xc 251) 171 = some (.aload_n 0, 1, 0, 0, 0) := by decide +kernel
theorem vmy_172 : xe_look (xc 251) 172 = some (.getfield 25, 3, 12, 7, 1167) := by decide +kernel
theorem vmy_175 : xe_look (xc 251) 175 = some (.iload_n 1, 1, 0, 0, 0) := by decide +kernel
theorem vmy_176 : xe_look (xc 251) 176 = some (.iconst 0, 1, 0, 0, 0) := by decide +kernel
theorem vmy_177 : xe_look (xc 251) 177 = some (.iastore, 1, 0, 0, 0) := by decide +kernel
theorem vmy_178 : xe_look (xc 251) 178 = some (.aload_n 0, 1, 0, 0, 0) := by decide +kernel
theorem vmy_179 : xe_look (xc 251) 179 = some (.getfield 7, 3, 12, 2, 1133) := by decide +kernel
theorem vmy_182 : xe_look (xc 251) 182 = some (.iconst 0, 1, 0, 0, 0) := by decide +kernel
theorem vmy_183 : xe_look (xc 251) 183 = some (.iload_n 1, 1, 0, 0, 0) := by decide +kernel
theorem vmy_184 : xe_look (xc 251) 184 = some (.iadd, 1, 0, 0, 0) := by decide +kernel
theorem vmy_185 : xe_look (xc 251) 185 = some (.iconst 0, 1, 0, 0, 0) := by decide +kernel
theorem vmy_186 : xe_look (xc 251) 186 = some (.iastore, 1, 0, 0, 0) := by decide +kernel
theorem vmy_187 : xe_look (xc 251) 187 = some (.iconst 1, 1, 0, 0, 0) := by decide +kernel
theorem vmy_188 : xe_look (xc 251) 188 = some (.ireturn, 1, 0, 0, 0) := by decide +kernel
theorem vuy_0 : xe_look (xc 270) 0 = some (.aload_n 0, 1, 0, 0, 0) := by decide +kernel
theorem vuy_1 : xe_look (xc 270) 1 = some (.getfield 516, 3, 12, 72, 1223) := by decide +kernel
theorem vuy_4 : xe_look (xc 270) 4 = some (.ifCond .ne 5, 3, 0, 0, 0) := by decide +kernel
theorem vuy_7 : xe_look (xc 270) 7 = some (.iconst 0, 1, 0, 0, 0) := by decide +kernel
theorem vuy_8 : xe_look (xc 270) 8 = some (.ireturn, 1, 0, 0, 0) := by decide +kernel
theorem vuy_9 : xe_look (xc 270) 9 = some (.aload_n 0, 1, 0, 0, 0) := by decide +kernel
theorem vuy_10 : xe_look (xc 270) 10 = some (.aload_n 0, 1, 0, 0, 0) := by decide +kernel
theorem vuy_11 : xe_look (xc 270) 11 = some (.getfield 520, 3, 12, 73, 1224) := by decide +kernel
theorem vuy_14 : xe_look (xc 270) 14 = some (.putfield 183, 3, 12, 0, 1158) := by decide +kernel
theorem vuy_17 : xe_look (xc 270) 17 = some (.aload_n 0, 1, 0, 0, 0) := by decide +kernel
theorem vuy_18 : xe_look (xc 270) 18 = some (.aload_n 0, 1, 0, 0, 0) := by decide +kernel
theorem vuy_19 : xe_look (xc 270) 19 = some (.getfield 523, 3, 12, 74, 1225) := by decide +kernel
theorem vuy_22 : xe_look (xc 270) 22 = some (.putfield 191, 3, 12, 1, 1160) := by decide +kernel
theorem vuy_25 : xe_look (xc 270) 25 = some (.aload_n 0, 1, 0, 0, 0) := by decide +kernel
theorem vuy_26 : xe_look (xc 270) 26 = some (.aload_n 0, 1, 0, 0, 0) := by decide +kernel
theorem vuy_27 : xe_look (xc 270) 27 = some (.getfield 526, 3, 12, 75, 1226) := by decide +kernel
theorem vuy_30 : xe_look (xc 270) 30 = some (.putfield 212, 3, 12, 22, 1147) := by decide +kernel
theorem vuy_33 : xe_look (xc 270) 33 = some (.aload_n 0, 1, 0, 0, 0) := by decide +kernel
theorem vuy_34 : xe_look (xc 270) 34 = some (.aload_n 0, 1, 0, 0, 0) := by decide +kernel
theorem vuy_35 : xe_look (xc 270) 35 = some (.getfield 529, 3, 12, 76, 1227) := by decide +kernel
theorem vuy_38 : xe_look (xc 270) 38 = some (.putfield 215, 3, 12, 23, 1117) := by decide +kernel
theorem vuy_41 : xe_look (xc 270) 41 = some (.aload_n 0, 1, 0, 0, 0) := by decide +kernel
theorem vuy_42 : xe_look (xc 270) 42 = some (.getfield 144, 3, 12, 77, 1209) := by decide +kernel
theorem vuy_45 : xe_look (xc 270) 45 = some (.aload_n 0, 1, 0, 0, 0) := by decide +kernel
theorem vuy_46 : xe_look (xc 270) 46 = some (.getfield 7, 3, 12, 2, 1133) := by decide +kernel
theorem vuy_49 : xe_look (xc 270) 49 = some (.bipush 42, 2, 0, 0, 0) := by decide +kernel
theorem vuy_51 : xe_look (xc 270) 51 = some (.invokestatic 292, 3, 0, 179, 1228) := by decide +kernel
theorem vuy_54 : xe_look (xc 270) 54 = some (.aload_n 0, 1, 0, 0, 0) := by decide +kernel
theorem vuy_55 : xe_look (xc 270) 55 = some (.getfield 147, 3, 12, 78, 1210) := by decide +kernel
theorem vuy_58 : xe_look (xc 270) 58 = some (.aload_n 0, 1, 0, 0, 0) := by decide +kernel
theorem vuy_59 : xe_look (xc 270) 59 = some (.getfield 16, 3, 12, 4, 1175) := by decide +kernel
theorem vuy_62 : xe_look (xc 270) 62 = some (.bipush 32, 2, 0, 0, 0) := by decide +kernel
theorem vuy_64 : xe_look (xc 270) 64 = some (.invokestatic 292, 3, 0, 179, 1228) := by decide +kernel
theorem vuy_67 : xe_look (xc 270) 67 = some (.aload_n 0, 1, 0, 0, 0) := by decide +kernel
theorem vuy_68 : xe_look (xc 270) 68 = some (.getfield 150, 3, 12, 79, 1211) := by decide +kernel
theorem vuy_71 : xe_look (xc 270) 71 = some (.aload_n 0, 1, 0, 0, 0) := by decide +kernel
theorem vuy_72 : xe_look (xc 270) 72 = some (.getfield 19, 3, 12, 5, 1155) := by decide +kernel
theorem vuy_75 : xe_look (xc 270) 75 = some (.bipush 32, 2, 0, 0, 0) := by decide +kernel
theorem vuy_77 : xe_look (xc 270) 77 = some (.invokestatic 292, 3, 0, 179, 1228) := by decide +kernel
theorem vuy_80 : xe_look (xc 270) 80 = some (.aload_n 0, 1, 0, 0, 0) := by decide +kernel
theorem vuy_81 : xe_look (xc 270) 81 = some (.getfield 153, 3, 12, 80, 1212) := by decide +kernel
theorem vuy_84 : xe_look (xc 270) 84 = some (.aload_n 0, 1, 0, 0, 0) := by decide +kernel
theorem vuy_85 : xe_look (xc 270) 85 = some (.getfield 22, 3, 12, 6, 1176) := by decide +kernel
theorem vuy_88 : xe_look (xc 270) 88 = some (.bipush 32, 2, 0, 0, 0) := by decide +kernel
theorem vuy_90 : xe_look (xc 270) 90 = some (.invokestatic 292, 3, 0, 179, 1228) := by decide +kernel
theorem vuy_93 : xe_look (xc 270) 93 = some (.aload_n 0, 1, 0, 0, 0) := by decide +kernel
theorem vuy_94 : xe_look (xc 270) 94 = some (.getfield 156, 3, 12, 81, 1213) := by decide +kernel
theorem vuy_97 : xe_look (xc 270) 97 = some (.aload_n 0, 1, 0, 0, 0) := by decide +kernel
theorem vuy_98 : xe_look (xc 270) 98 = some (.getfield 25, 3, 12, 7, 1167) := by decide +kernel
theorem vuy_101 : xe_look (xc 270) 101 = some (.bipush 32, 2, 0, 0, 0) := by decide +kernel
theorem vuy_103 : xe_look (xc 270) 103 = some (.invokestatic 292, 3, 0, 179, 1228) := by decide +kernel
theorem vuy_106 : xe_look (xc 270) 106 = some (.aload_n 0, 1, 0, 0, 0) := by decide +kernel
theorem vuy_107 : xe_look (xc 270) 107 = some (.getfield 159, 3, 12, 82, 1214) := by decide +kernel
theorem vuy_110 : xe_look (xc 270) 110 = some (.aload_n 0, 1, 0, 0, 0) := by decide +kernel
theorem vuy_111 : xe_look (xc 270) 111 = some (.getfield 28, 3, 12, 8, 1165) := by decide +kernel
theorem vuy_114 : xe_look (xc 270) 114 = some (.bipush 8, 2, 0, 0, 0) := by decide +kernel
theorem vuy_116 : xe_look (xc 270) 116 = some (.invokestatic 292, 3, 0, 179, 1228) := by decide +kernel
theorem vuy_119 : xe_look (xc 270) 119 = some (.aload_n 0, 1, 0, 0, 0) := by decide +kernel
theorem vuy_120 : xe_look (xc 270) 120 = some (.getfield 162, 3, 12, 83, 1215) := by decide +kernel
theorem vuy_123 : xe_look (xc 270) 123 = some (.aload_n 0, 1, 0, 0, 0) := by decide +kernel
theorem vuy_124 : xe_look (xc 270) 124 = some (.getfield 31, 3, 12, 9, 1166) := by decide +kernel
theorem vuy_127 : xe_look (xc 270) 127 = some (.bipush 8, 2, 0, 0, 0) := by decide +kernel
theorem vuy_129 : xe_look (xc 270) 129 = some (.invokestatic 292, 3, 0, 179, 1228) := by decide +kernel
theorem vuy_132 : xe_look (xc 270) 132 = some (.aload_n 0, 1, 0, 0, 0) := by decide +kernel
theorem vuy_133 : xe_look (xc 270) 133 = some (.getfield 165, 3, 12, 84, 1216) := by decide +kernel
theorem vuy_136 : xe_look (xc 270) 136 = some (.aload_n 0, 1, 0, 0, 0) := by decide +kernel
theorem vuy_137 : xe_look (xc 270) 137 = some (.getfield 34, 3, 12, 10, 1156) := by decide +kernel
theorem vuy_140 : xe_look (xc 270) 140 = some (.bipush 32, 2, 0, 0, 0) := by decide +kernel
theorem vuy_142 : xe_look (xc 270) 142 = some (.invokestatic 292, 3, 0, 179, 1228) := by decide +kernel
theorem vuy_145 : xe_look (xc 270) 145 = some (.aload_n 0, 1, 0, 0, 0) := by decide +kernel
theorem vuy_146 : xe_look (xc 270) 146 = some (.getfield 168, 3, 12, 85, 1217) := by decide +kernel
theorem vuy_149 : xe_look (xc 270) 149 = some (.aload_n 0, 1, 0, 0, 0) := by decide +kernel
theorem vuy_150 : xe_look (xc 270) 150 = some (.getfield 37, 3, 12, 11, 1148) := by decide +kernel
theorem vuy_153 : xe_look (xc 270) 153 = some (.bipush 24, 2, 0, 0, 0) := by decide +kernel
theorem vuy_155 : xe_look (xc 270) 155 = some (.invokestatic 292, 3, 0, 179, 1228) := by decide +kernel
theorem vuy_158 : xe_look (xc 270) 158 = some (.aload_n 0, 1, 0, 0, 0) := by decide +kernel
theorem vuy_159 : xe_look (xc 270) 159 = some (.getfield 171, 3, 12, 86, 1218) := by decide +kernel
theorem vuy_162 : xe_look (xc 270) 162 = some (.aload_n 0, 1, 0, 0, 0) := by decide +kernel
theorem vuy_163 : xe_look (xc 270) 163 = some (.getfield 40, 3, 12, 12, 1149) := by decide +kernel
theorem vuy_166 : xe_look (xc 270) 166 = some (.bipush 24, 2, 0, 0, 0) := by decide +kernel
theorem vuy_168 : xe_look (xc 270) 168 = some (.invokestatic 292, 3, 0, 179, 1228) := by decide +kernel
theorem vuy_171 : xe_look (xc 270) 171 = some (.aload_n 0, 1, 0, 0, 0) := by decide +kernel
theorem vuy_172 : xe_look (xc 270) 172 = some (.getfield 174, 3, 12, 87, 1219) := by decide +kernel
theorem vuy_175 : xe_look (xc 270) 175 = some (.aload_n 0, 1, 0, 0, 0) := by decide +kernel
theorem vuy_176 : xe_look (xc 270) 176 = some (.getfield 43, 3, 12, 13, 1120) := by decide +kernel
theorem vuy_179 : xe_look (xc 270) 179 = some (.bipush 12, 2, 0, 0, 0) := by decide +kernel
theorem vuy_181 : xe_look (xc 270) 181 = some (.invokestatic 292, 3, 0, 179, 1228) := by decide +kernel
theorem vuy_184 : xe_look (xc 270) 184 = some (.aload_n 0, 1, 0, 0, 0) := by decide +kernel
theorem vuy_185 : xe_look (xc 270) 185 = some (.getfield 177, 3, 12, 88, 1220) := by decide +kernel
theorem vuy_188 : xe_look (xc 270) 188 = some (.aload_n 0, 1, 0, 0, 0) := by decide +kernel
theorem vuy_189 : xe_look (xc 270) 189 = some (.getfield 46, 3, 12, 14, 1118) := by decide +kernel
theorem vuy_192 : xe_look (xc 270) 192 = some (.bipush 12, 2, 0, 0, 0) := by decide +kernel
theorem vuy_194 : xe_look (xc 270) 194 = some (.invokestatic 292, 3, 0, 179, 1228) := by decide +kernel
theorem vuy_197 : xe_look (xc 270) 197 = some (.iconst 0, 1, 0, 0, 0) := by decide +kernel
theorem vuy_198 : xe_look (xc 270) 198 = some (.istore_n 1, 1, 0, 0, 0) := by decide +kernel
theorem vuy_199 : xe_look (xc 270) 199 = some (.iload_n 1, 1, 0, 0, 0) := by decide +kernel
theorem vuy_200 : xe_look (xc 270) 200 = some (.sipush 800, 3, 0, 0, 0) := by decide +kernel
theorem vuy_203 : xe_look (xc 270) 203 = some (.if_icmp .ge 21, 3, 0, 0, 0) := by decide +kernel
theorem vuy_206 : xe_look (xc 270) 206 = some (.aload_n 0, 1, 0, 0, 0) := by decide +kernel
theorem vuy_207 : xe_look (xc 270) 207 = some (.getfield 49, 3, 12, 15, 1193) := by decide +kernel
theorem vuy_210 : xe_look (xc 270) 210 = some (.iload_n 1, 1, 0, 0, 0) := by decide +kernel
theorem vuy_211 : xe_look (xc 270) 211 = some (.aload_n 0, 1, 0, 0, 0) := by decide +kernel
theorem vuy_212 : xe_look (xc 270) 212 = some (.getfield 180, 3, 12, 89, 1221) := by decide +kernel
theorem vuy_215 : xe_look (xc 270) 215 = some (.iload_n 1, 1, 0, 0, 0) := by decide +kernel
theorem vuy_216 : xe_look (xc 270) 216 = some (.baload, 1, 0, 0, 0) := by decide +kernel
theorem vuy_217 : xe_look (xc 270) 217 = some (.bastore, 1, 0, 0, 0) := by decide +kernel
theorem vuy_218 : xe_look (xc 270) 218 = some (.iinc 1 1, 3, 0, 0, 0) := by decide +kernel
theorem vuy_221 : xe_look (xc 270) 221 = some (.goto (-22), 3, 0, 0, 0) := by decide +kernel
theorem vuy_224 : xe_look (xc 270) 224 = some (.iconst 1, 1, 0, 0, 0) := by decide +kernel
theorem vuy_225 : xe_look (xc 270) 225 = some (.ireturn, 1, 0, 0, 0) := by decide +kernel
theorem ts_y {ks : List (Nat × Nat)} {as : List Nat} {W : Nat} {g0 g : pH} {vs : List Int} {cs : List (Nat → Int)} {d μ pc : Nat} {lv : List (Nat × pv)} {r : List pv} {P : Option pv × pH → Prop} {n K m x y z : Nat} {e j : Int} (hn : Nat.blt n cs.length = true) (hkn : as.getD n 0 = K) (hd : sEa as K n = true) (hq : xe_look (xc μ) pc = some (.bastore, 1, x, y, z)) (hS : sE ks as W g0 g vs cs) (hk : eL[K]? = some (2, m)) (hm : Nat.ble m 10000 = true) (hW : W.testBit (cn K) = true) (hg : eG (cn K) = (-144, 143, [])) (hj : 0 ≤ j ∧ j < m) (he : -128 ≤ e ∧ e ≤ 127) (hP : ∀ g1 : pH, sE ks as W g0 g1 vs (cs.set n (updI (cs.getD n (fun _ => 0)) j.toNat e)) → t_X d μ (pc + 1) lv r g1 P) : t_X d μ pc lv (oI e :: oI j :: pvR K :: r) g P := by
  have e8 : (Int32.ofInt e).toInt8.toInt32 = Int32.ofInt e := by
    apply Int32.toInt_inj.mp
    rw [Int8.toInt_toInt32, Int32.toInt_toInt8, oT (by omega) (by omega)]
    exact Int.bmod_eq_of_le (by omega) (by omega)
  exact tw_y hq (S_J hS) hk hm hW hg hj (fun g1 hJ e1 => hP g1 (S_wa hS (Nat.le_of_ble_eq_true hn) hkn hd hJ (by rw [e1, e8]) (by omega) (by omega)))
theorem pq_by {k n d x y : Nat} {e : Int} {c : Nat → Int} {lv : List (Nat × pv)} {r : List pv} {h : pH} (hk : eL[k]? = some (2, n)) (hn : Nat.ble n 10000 = true) (he : 0 ≤ e ∧ e < n) (hc : fA h k = c) : px_push eL d none .baload x y lv (oI e :: pvR k :: r) h = some (oI (c e.toNat) :: r) := by
  rw [← hc]
  exact pq_ba hk hn he
theorem ts_v0 {ks : List (Nat × Nat)} {as : List Nat} {W : Nat} {g0 g : pH} {vs : List Int} {cs : List (Nat → Int)} {d μ pc : Nat} {lv : List (Nat × pv)} {r : List pv} {P : Option pv × pH → Prop} {i x y z k : Nat} {v : Int32} (hd : sEf ks k y ks.length = true) (hq : xe_look (xc μ) pc = some (.putfield i, 3, x, y, z)) (ht : xk_ty x y = .int) (hk : eL[k]? = some (0, x)) (hS : sE ks as W g0 g vs cs) (hW : W.testBit (cn k + y) = true) (hg : eG (cn k + y) = (-2147483648, 2147483647, [])) (hP : ∀ g1 : pH, sE ks as W g0 g1 vs cs → t_X d μ (pc + 3) lv r g1 P) : t_X d μ pc lv (.inl v :: pvR k :: r) g P := by
  have e0 := i32_b v
  rw [oI_r v]
  exact ts_f0 hd hq ht hk hS hW hg (by decide) e0 hP
def vWs : Nat := kk_3.2.2.2.1
def vsA : List Nat := [210, 199, 200, 201, 202]
abbrev vS (g0 g : pH) (p s1 s2 s3 s4 : tC) : Prop := sE [] vsA vWs g0 g [] [p, s1, s2, s3, s4]
def vKW : Nat := kk_58.2.2.2.1
def vKA : List Nat := [242, 243, 244, 245, 253]
abbrev vKS (g0 g : pH) (s1 s2 s3 s4 p : tC) : Prop := sE [] vKA vKW g0 g [] [s1, s2, s3, s4, p]
def vUW : Nat := kk_60.2.2.2.1
def vUA : List Nat := [199, 200, 201, 202, 210]
abbrev vUS (g0 g : pH) (s1 s2 s3 s4 p : tC) : Prop := sE [] vUA vUW g0 g [] [s1, s2, s3, s4, p]
def vWd : Nat := kk_7.2.2.2.1
abbrev vD (g0 g : pH) (s : tC) : Prop := sE [] [202] vWd g0 g [] [s]
theorem yeo_196 : eL[196]? = some (0, 12) := by decide +kernel
theorem ygu_197 : eG (cn 197) = ((-2147483648), 2147483647, []) := by decide +kernel
theorem ygu_199 : eG (cn 199) = (0, 3, []) := by decide +kernel
theorem ygu_200 : eG (cn 200) = (0, 3, []) := by decide +kernel
theorem ygu_201 : eG (cn 201) = (0, 99, []) := by decide +kernel
theorem ygu_202 : eG (cn 202) = (0, 99, []) := by decide +kernel
theorem ygu_203 : eG (cn 203) = (0, 9, []) := by decide +kernel
theorem ygu_204 : eG (cn 204) = (0, 9999, []) := by decide +kernel
theorem ygu_205 : eG (cn 205) = ((-1), 3, []) := by decide +kernel
theorem ygu_206 : eG (cn 206) = (0, 31, []) := by decide +kernel
theorem ygu_207 : eG (cn 207) = (0, 31, []) := by decide +kernel
theorem ygu_208 : eG (cn 208) = (0, 31, []) := by decide +kernel
theorem ygu_209 : eG (cn 209) = (0, 31, []) := by decide +kernel
theorem ygu_210 : eG (cn 210) = ((-144), 143, []) := by decide +kernel
theorem ygu_241 : eG (cn 241) = ((-2147483648), 2147483647, []) := by decide +kernel
theorem ygu_242 : eG (cn 242) = (0, 3, []) := by decide +kernel
theorem ygu_243 : eG (cn 243) = (0, 3, []) := by decide +kernel
theorem ygu_244 : eG (cn 244) = (0, 99, []) := by decide +kernel
theorem ygu_245 : eG (cn 245) = (0, 99, []) := by decide +kernel
theorem ygu_246 : eG (cn 246) = (0, 9, []) := by decide +kernel
theorem ygu_247 : eG (cn 247) = (0, 9999, []) := by decide +kernel
theorem ygu_248 : eG (cn 248) = ((-1), 3, []) := by decide +kernel
theorem ygu_249 : eG (cn 249) = (0, 31, []) := by decide +kernel
theorem ygu_250 : eG (cn 250) = (0, 31, []) := by decide +kernel
theorem ygu_251 : eG (cn 251) = (0, 31, []) := by decide +kernel
theorem ygu_252 : eG (cn 252) = (0, 31, []) := by decide +kernel
theorem ygu_253 : eG (cn 253) = ((-144), 143, []) := by decide +kernel
theorem ygy_196_0 : eG (cn 196 + 0) = ((-2147483648), 2147483647, []) := by decide +kernel
theorem ygy_196_1 : eG (cn 196 + 1) = (0, 255, []) := by decide +kernel
theorem ygy_196_22 : eG (cn 196 + 22) = (0, 24, []) := by decide +kernel
theorem ygy_196_23 : eG (cn 196 + 23) = (0, 12, []) := by decide +kernel
theorem ygy_196_72 : eG (cn 196 + 72) = (0, 1, []) := by decide +kernel
theorem ygy_196_73 : eG (cn 196 + 73) = ((-2147483648), 2147483647, []) := by decide +kernel
theorem ygy_196_74 : eG (cn 196 + 74) = (0, 255, []) := by decide +kernel
theorem ygy_196_75 : eG (cn 196 + 75) = (0, 24, []) := by decide +kernel
theorem ygy_196_76 : eG (cn 196 + 76) = (0, 12, []) := by decide +kernel
theorem wm_vKW_199 : vKW.testBit (cn 199) = false := by decide +kernel
theorem wm_vKW_200 : vKW.testBit (cn 200) = false := by decide +kernel
theorem wm_vKW_201 : vKW.testBit (cn 201) = false := by decide +kernel
theorem wm_vKW_202 : vKW.testBit (cn 202) = false := by decide +kernel
theorem wm_vKW_210 : vKW.testBit (cn 210) = false := by decide +kernel
theorem wm_vUW_242 : vUW.testBit (cn 242) = false := by decide +kernel
theorem wm_vUW_243 : vUW.testBit (cn 243) = false := by decide +kernel
theorem wm_vUW_244 : vUW.testBit (cn 244) = false := by decide +kernel
theorem wm_vUW_245 : vUW.testBit (cn 245) = false := by decide +kernel
theorem wm_vUW_253 : vUW.testBit (cn 253) = false := by decide +kernel
theorem wm_vWs_211 : vWs.testBit (cn 211) = false := by decide +kernel
theorem ych_196_10 : (eG (cn 196 + 10)).2.2 = [206] := by decide +kernel
theorem ycq_196_10 {d i : Nat} {lv : List (Nat × pv)} {r : List pv} {g : pH} (hG : g_I eG g) : px_push eL d none (.getfield i) 12 10 lv (pvR 196 :: r) g = some (pvR 205 :: r) := pget yeo_196 (gI_r (r := 205) hG yeo_196 (Nat.le_of_ble_eq_true rfl) (y := 10) rfl ych_196_10)
theorem ych_196_11 : (eG (cn 196 + 11)).2.2 = [207] := by decide +kernel
theorem ycq_196_11 {d i : Nat} {lv : List (Nat × pv)} {r : List pv} {g : pH} (hG : g_I eG g) : px_push eL d none (.getfield i) 12 11 lv (pvR 196 :: r) g = some (pvR 206 :: r) := pget yeo_196 (gI_r (r := 206) hG yeo_196 (Nat.le_of_ble_eq_true rfl) (y := 11) rfl ych_196_11)
theorem ych_196_12 : (eG (cn 196 + 12)).2.2 = [208] := by decide +kernel
theorem ycq_196_12 {d i : Nat} {lv : List (Nat × pv)} {r : List pv} {g : pH} (hG : g_I eG g) : px_push eL d none (.getfield i) 12 12 lv (pvR 196 :: r) g = some (pvR 207 :: r) := pget yeo_196 (gI_r (r := 207) hG yeo_196 (Nat.le_of_ble_eq_true rfl) (y := 12) rfl ych_196_12)
theorem ych_196_13 : (eG (cn 196 + 13)).2.2 = [209] := by decide +kernel
theorem ycq_196_13 {d i : Nat} {lv : List (Nat × pv)} {r : List pv} {g : pH} (hG : g_I eG g) : px_push eL d none (.getfield i) 12 13 lv (pvR 196 :: r) g = some (pvR 208 :: r) := pget yeo_196 (gI_r (r := 208) hG yeo_196 (Nat.le_of_ble_eq_true rfl) (y := 13) rfl ych_196_13)
theorem ych_196_14 : (eG (cn 196 + 14)).2.2 = [210] := by decide +kernel
theorem ycq_196_14 {d i : Nat} {lv : List (Nat × pv)} {r : List pv} {g : pH} (hG : g_I eG g) : px_push eL d none (.getfield i) 12 14 lv (pvR 196 :: r) g = some (pvR 209 :: r) := pget yeo_196 (gI_r (r := 209) hG yeo_196 (Nat.le_of_ble_eq_true rfl) (y := 14) rfl ych_196_14)
theorem ych_196_15 : (eG (cn 196 + 15)).2.2 = [211] := by decide +kernel
theorem ycq_196_15 {d i : Nat} {lv : List (Nat × pv)} {r : List pv} {g : pH} (hG : g_I eG g) : px_push eL d none (.getfield i) 12 15 lv (pvR 196 :: r) g = some (pvR 210 :: r) := pget yeo_196 (gI_r (r := 210) hG yeo_196 (Nat.le_of_ble_eq_true rfl) (y := 15) rfl ych_196_15)
theorem ych_196_16 : (eG (cn 196 + 16)).2.2 = [212] := by decide +kernel
theorem ycq_196_16 {d i : Nat} {lv : List (Nat × pv)} {r : List pv} {g : pH} (hG : g_I eG g) : px_push eL d none (.getfield i) 12 16 lv (pvR 196 :: r) g = some (pvR 211 :: r) := pget yeo_196 (gI_r (r := 211) hG yeo_196 (Nat.le_of_ble_eq_true rfl) (y := 16) rfl ych_196_16)
theorem ych_196_2 : (eG (cn 196 + 2)).2.2 = [198] := by decide +kernel
theorem ycq_196_2 {d i : Nat} {lv : List (Nat × pv)} {r : List pv} {g : pH} (hG : g_I eG g) : px_push eL d none (.getfield i) 12 2 lv (pvR 196 :: r) g = some (pvR 197 :: r) := pget yeo_196 (gI_r (r := 197) hG yeo_196 (Nat.le_of_ble_eq_true rfl) (y := 2) rfl ych_196_2)
theorem ych_196_4 : (eG (cn 196 + 4)).2.2 = [200] := by decide +kernel
theorem ycq_196_4 {d i : Nat} {lv : List (Nat × pv)} {r : List pv} {g : pH} (hG : g_I eG g) : px_push eL d none (.getfield i) 12 4 lv (pvR 196 :: r) g = some (pvR 199 :: r) := pget yeo_196 (gI_r (r := 199) hG yeo_196 (Nat.le_of_ble_eq_true rfl) (y := 4) rfl ych_196_4)
theorem ych_196_5 : (eG (cn 196 + 5)).2.2 = [201] := by decide +kernel
theorem ycq_196_5 {d i : Nat} {lv : List (Nat × pv)} {r : List pv} {g : pH} (hG : g_I eG g) : px_push eL d none (.getfield i) 12 5 lv (pvR 196 :: r) g = some (pvR 200 :: r) := pget yeo_196 (gI_r (r := 200) hG yeo_196 (Nat.le_of_ble_eq_true rfl) (y := 5) rfl ych_196_5)
theorem ych_196_6 : (eG (cn 196 + 6)).2.2 = [202] := by decide +kernel
theorem ycq_196_6 {d i : Nat} {lv : List (Nat × pv)} {r : List pv} {g : pH} (hG : g_I eG g) : px_push eL d none (.getfield i) 12 6 lv (pvR 196 :: r) g = some (pvR 201 :: r) := pget yeo_196 (gI_r (r := 201) hG yeo_196 (Nat.le_of_ble_eq_true rfl) (y := 6) rfl ych_196_6)
theorem ych_196_7 : (eG (cn 196 + 7)).2.2 = [203] := by decide +kernel
theorem ycq_196_7 {d i : Nat} {lv : List (Nat × pv)} {r : List pv} {g : pH} (hG : g_I eG g) : px_push eL d none (.getfield i) 12 7 lv (pvR 196 :: r) g = some (pvR 202 :: r) := pget yeo_196 (gI_r (r := 202) hG yeo_196 (Nat.le_of_ble_eq_true rfl) (y := 7) rfl ych_196_7)
theorem ych_196_77 : (eG (cn 196 + 77)).2.2 = [242] := by decide +kernel
theorem ycq_196_77 {d i : Nat} {lv : List (Nat × pv)} {r : List pv} {g : pH} (hG : g_I eG g) : px_push eL d none (.getfield i) 12 77 lv (pvR 196 :: r) g = some (pvR 241 :: r) := pget yeo_196 (gI_r (r := 241) hG yeo_196 (Nat.le_of_ble_eq_true rfl) (y := 77) rfl ych_196_77)
theorem ych_196_78 : (eG (cn 196 + 78)).2.2 = [243] := by decide +kernel
theorem ycq_196_78 {d i : Nat} {lv : List (Nat × pv)} {r : List pv} {g : pH} (hG : g_I eG g) : px_push eL d none (.getfield i) 12 78 lv (pvR 196 :: r) g = some (pvR 242 :: r) := pget yeo_196 (gI_r (r := 242) hG yeo_196 (Nat.le_of_ble_eq_true rfl) (y := 78) rfl ych_196_78)
theorem ych_196_79 : (eG (cn 196 + 79)).2.2 = [244] := by decide +kernel
theorem ycq_196_79 {d i : Nat} {lv : List (Nat × pv)} {r : List pv} {g : pH} (hG : g_I eG g) : px_push eL d none (.getfield i) 12 79 lv (pvR 196 :: r) g = some (pvR 243 :: r) := pget yeo_196 (gI_r (r := 243) hG yeo_196 (Nat.le_of_ble_eq_true rfl) (y := 79) rfl ych_196_79)
theorem ych_196_8 : (eG (cn 196 + 8)).2.2 = [204] := by decide +kernel
theorem ycq_196_8 {d i : Nat} {lv : List (Nat × pv)} {r : List pv} {g : pH} (hG : g_I eG g) : px_push eL d none (.getfield i) 12 8 lv (pvR 196 :: r) g = some (pvR 203 :: r) := pget yeo_196 (gI_r (r := 203) hG yeo_196 (Nat.le_of_ble_eq_true rfl) (y := 8) rfl ych_196_8)
theorem ych_196_80 : (eG (cn 196 + 80)).2.2 = [245] := by decide +kernel
theorem ycq_196_80 {d i : Nat} {lv : List (Nat × pv)} {r : List pv} {g : pH} (hG : g_I eG g) : px_push eL d none (.getfield i) 12 80 lv (pvR 196 :: r) g = some (pvR 244 :: r) := pget yeo_196 (gI_r (r := 244) hG yeo_196 (Nat.le_of_ble_eq_true rfl) (y := 80) rfl ych_196_80)
theorem ych_196_81 : (eG (cn 196 + 81)).2.2 = [246] := by decide +kernel
theorem ycq_196_81 {d i : Nat} {lv : List (Nat × pv)} {r : List pv} {g : pH} (hG : g_I eG g) : px_push eL d none (.getfield i) 12 81 lv (pvR 196 :: r) g = some (pvR 245 :: r) := pget yeo_196 (gI_r (r := 245) hG yeo_196 (Nat.le_of_ble_eq_true rfl) (y := 81) rfl ych_196_81)
theorem ych_196_82 : (eG (cn 196 + 82)).2.2 = [247] := by decide +kernel
theorem ycq_196_82 {d i : Nat} {lv : List (Nat × pv)} {r : List pv} {g : pH} (hG : g_I eG g) : px_push eL d none (.getfield i) 12 82 lv (pvR 196 :: r) g = some (pvR 246 :: r) := pget yeo_196 (gI_r (r := 246) hG yeo_196 (Nat.le_of_ble_eq_true rfl) (y := 82) rfl ych_196_82)
theorem ych_196_83 : (eG (cn 196 + 83)).2.2 = [248] := by decide +kernel
theorem ycq_196_83 {d i : Nat} {lv : List (Nat × pv)} {r : List pv} {g : pH} (hG : g_I eG g) : px_push eL d none (.getfield i) 12 83 lv (pvR 196 :: r) g = some (pvR 247 :: r) := pget yeo_196 (gI_r (r := 247) hG yeo_196 (Nat.le_of_ble_eq_true rfl) (y := 83) rfl ych_196_83)
theorem ych_196_84 : (eG (cn 196 + 84)).2.2 = [249] := by decide +kernel
theorem ycq_196_84 {d i : Nat} {lv : List (Nat × pv)} {r : List pv} {g : pH} (hG : g_I eG g) : px_push eL d none (.getfield i) 12 84 lv (pvR 196 :: r) g = some (pvR 248 :: r) := pget yeo_196 (gI_r (r := 248) hG yeo_196 (Nat.le_of_ble_eq_true rfl) (y := 84) rfl ych_196_84)
theorem ych_196_85 : (eG (cn 196 + 85)).2.2 = [250] := by decide +kernel
theorem ycq_196_85 {d i : Nat} {lv : List (Nat × pv)} {r : List pv} {g : pH} (hG : g_I eG g) : px_push eL d none (.getfield i) 12 85 lv (pvR 196 :: r) g = some (pvR 249 :: r) := pget yeo_196 (gI_r (r := 249) hG yeo_196 (Nat.le_of_ble_eq_true rfl) (y := 85) rfl ych_196_85)
theorem ych_196_86 : (eG (cn 196 + 86)).2.2 = [251] := by decide +kernel
theorem ycq_196_86 {d i : Nat} {lv : List (Nat × pv)} {r : List pv} {g : pH} (hG : g_I eG g) : px_push eL d none (.getfield i) 12 86 lv (pvR 196 :: r) g = some (pvR 250 :: r) := pget yeo_196 (gI_r (r := 250) hG yeo_196 (Nat.le_of_ble_eq_true rfl) (y := 86) rfl ych_196_86)
theorem ych_196_87 : (eG (cn 196 + 87)).2.2 = [252] := by decide +kernel
theorem ycq_196_87 {d i : Nat} {lv : List (Nat × pv)} {r : List pv} {g : pH} (hG : g_I eG g) : px_push eL d none (.getfield i) 12 87 lv (pvR 196 :: r) g = some (pvR 251 :: r) := pget yeo_196 (gI_r (r := 251) hG yeo_196 (Nat.le_of_ble_eq_true rfl) (y := 87) rfl ych_196_87)
theorem ych_196_88 : (eG (cn 196 + 88)).2.2 = [253] := by decide +kernel
theorem ycq_196_88 {d i : Nat} {lv : List (Nat × pv)} {r : List pv} {g : pH} (hG : g_I eG g) : px_push eL d none (.getfield i) 12 88 lv (pvR 196 :: r) g = some (pvR 252 :: r) := pget yeo_196 (gI_r (r := 252) hG yeo_196 (Nat.le_of_ble_eq_true rfl) (y := 88) rfl ych_196_88)
theorem ych_196_89 : (eG (cn 196 + 89)).2.2 = [254] := by decide +kernel
theorem ycq_196_89 {d i : Nat} {lv : List (Nat × pv)} {r : List pv} {g : pH} (hG : g_I eG g) : px_push eL d none (.getfield i) 12 89 lv (pvR 196 :: r) g = some (pvR 253 :: r) := pget yeo_196 (gI_r (r := 253) hG yeo_196 (Nat.le_of_ble_eq_true rfl) (y := 89) rfl ych_196_89)
theorem ych_196_9 : (eG (cn 196 + 9)).2.2 = [205] := by decide +kernel
theorem ycq_196_9 {d i : Nat} {lv : List (Nat × pv)} {r : List pv} {g : pH} (hG : g_I eG g) : px_push eL d none (.getfield i) 12 9 lv (pvR 196 :: r) g = some (pvR 204 :: r) := pget yeo_196 (gI_r (r := 204) hG yeo_196 (Nat.le_of_ble_eq_true rfl) (y := 9) rfl ych_196_9)
theorem yez_197 : eL[197]? = some (1, 42) := by decide +kernel
theorem yez_199 : eL[199]? = some (1, 32) := by decide +kernel
theorem yez_200 : eL[200]? = some (1, 32) := by decide +kernel
theorem yez_201 : eL[201]? = some (1, 32) := by decide +kernel
theorem yez_202 : eL[202]? = some (1, 32) := by decide +kernel
theorem yez_203 : eL[203]? = some (1, 8) := by decide +kernel
theorem yez_204 : eL[204]? = some (1, 8) := by decide +kernel
theorem yez_205 : eL[205]? = some (1, 32) := by decide +kernel
theorem yez_206 : eL[206]? = some (1, 24) := by decide +kernel
theorem yez_207 : eL[207]? = some (1, 24) := by decide +kernel
theorem yez_208 : eL[208]? = some (1, 12) := by decide +kernel
theorem yez_209 : eL[209]? = some (1, 12) := by decide +kernel
theorem yez_210 : eL[210]? = some (2, 800) := by decide +kernel
theorem yez_211 : eL[211]? = some (2, 260) := by decide +kernel
theorem yez_241 : eL[241]? = some (1, 42) := by decide +kernel
theorem yez_242 : eL[242]? = some (1, 32) := by decide +kernel
theorem yez_243 : eL[243]? = some (1, 32) := by decide +kernel
theorem yez_244 : eL[244]? = some (1, 32) := by decide +kernel
theorem yez_245 : eL[245]? = some (1, 32) := by decide +kernel
theorem yez_246 : eL[246]? = some (1, 8) := by decide +kernel
theorem yez_247 : eL[247]? = some (1, 8) := by decide +kernel
theorem yez_248 : eL[248]? = some (1, 32) := by decide +kernel
theorem yez_249 : eL[249]? = some (1, 24) := by decide +kernel
theorem yez_250 : eL[250]? = some (1, 24) := by decide +kernel
theorem yez_251 : eL[251]? = some (1, 12) := by decide +kernel
theorem yez_252 : eL[252]? = some (1, 12) := by decide +kernel
theorem yez_253 : eL[253]? = some (2, 800) := by decide +kernel
theorem wt_vKW_196_72 : vKW.testBit (cn 196 + 72) = true := by decide +kernel
theorem wt_vKW_196_73 : vKW.testBit (cn 196 + 73) = true := by decide +kernel
theorem wt_vKW_196_74 : vKW.testBit (cn 196 + 74) = true := by decide +kernel
theorem wt_vKW_196_75 : vKW.testBit (cn 196 + 75) = true := by decide +kernel
theorem wt_vKW_196_76 : vKW.testBit (cn 196 + 76) = true := by decide +kernel
theorem wt_vUW_196_0 : vUW.testBit (cn 196 + 0) = true := by decide +kernel
theorem wt_vUW_196_1 : vUW.testBit (cn 196 + 1) = true := by decide +kernel
theorem wt_vUW_196_22 : vUW.testBit (cn 196 + 22) = true := by decide +kernel
theorem wt_vUW_196_23 : vUW.testBit (cn 196 + 23) = true := by decide +kernel
theorem wt_vWs_196_0 : vWs.testBit (cn 196 + 0) = true := by decide +kernel
theorem wu_vKW_241 : vKW.testBit (cn 241) = true := by decide +kernel
theorem wu_vKW_242 : vKW.testBit (cn 242) = true := by decide +kernel
theorem wu_vKW_243 : vKW.testBit (cn 243) = true := by decide +kernel
theorem wu_vKW_244 : vKW.testBit (cn 244) = true := by decide +kernel
theorem wu_vKW_245 : vKW.testBit (cn 245) = true := by decide +kernel
theorem wu_vKW_246 : vKW.testBit (cn 246) = true := by decide +kernel
theorem wu_vKW_247 : vKW.testBit (cn 247) = true := by decide +kernel
theorem wu_vKW_248 : vKW.testBit (cn 248) = true := by decide +kernel
theorem wu_vKW_249 : vKW.testBit (cn 249) = true := by decide +kernel
theorem wu_vKW_250 : vKW.testBit (cn 250) = true := by decide +kernel
theorem wu_vKW_251 : vKW.testBit (cn 251) = true := by decide +kernel
theorem wu_vKW_252 : vKW.testBit (cn 252) = true := by decide +kernel
theorem wu_vKW_253 : vKW.testBit (cn 253) = true := by decide +kernel
theorem wu_vUW_197 : vUW.testBit (cn 197) = true := by decide +kernel
theorem wu_vUW_199 : vUW.testBit (cn 199) = true := by decide +kernel
theorem wu_vUW_200 : vUW.testBit (cn 200) = true := by decide +kernel
theorem wu_vUW_201 : vUW.testBit (cn 201) = true := by decide +kernel
theorem wu_vUW_202 : vUW.testBit (cn 202) = true := by decide +kernel
theorem wu_vUW_203 : vUW.testBit (cn 203) = true := by decide +kernel
theorem wu_vUW_204 : vUW.testBit (cn 204) = true := by decide +kernel
theorem wu_vUW_205 : vUW.testBit (cn 205) = true := by decide +kernel
theorem wu_vUW_206 : vUW.testBit (cn 206) = true := by decide +kernel
theorem wu_vUW_207 : vUW.testBit (cn 207) = true := by decide +kernel
theorem wu_vUW_208 : vUW.testBit (cn 208) = true := by decide +kernel
theorem wu_vUW_209 : vUW.testBit (cn 209) = true := by decide +kernel
theorem wu_vUW_210 : vUW.testBit (cn 210) = true := by decide +kernel
theorem wu_vWd_202 : vWd.testBit (cn 202) = true := by decide +kernel
theorem wu_vWs_197 : vWs.testBit (cn 197) = true := by decide +kernel
theorem wu_vWs_199 : vWs.testBit (cn 199) = true := by decide +kernel
theorem wu_vWs_200 : vWs.testBit (cn 200) = true := by decide +kernel
theorem wu_vWs_201 : vWs.testBit (cn 201) = true := by decide +kernel
theorem wu_vWs_202 : vWs.testBit (cn 202) = true := by decide +kernel
theorem wu_vWs_210 : vWs.testBit (cn 210) = true := by decide +kernel
theorem cpm_loop {d W : Nat} {h0 g : pH} {a a0 na n0 : Nat} (ha : eL[a]? = some (1, na)) (ha0 : eL[a0]? = some (1, n0)) (hn : Nat.ble na 10000 = true) (hn0 : Nat.ble n0 10000 = true) (hne : a0 ≠ a) (hW : W.testBit (cn a) = true) {lo hi lo0 hi0 : Int} (hg : eG (cn a) = (lo, hi, [])) (hg0 : eG (cn a0) = (lo0, hi0, [])) (hb : lo ≤ lo0 ∧ hi0 ≤ hi) (hr : -2147483648 ≤ lo ∧ hi ≤ 2147483647) {e : Nat} (he : e ≤ na ∧ e ≤ n0) {P : Option pv × pH → Prop} (hP : ∀ g1 : pH, J_ W h0 g1 → fA g1 a = (fun k : Nat => if k < e then fA g a0 k else fA g a k) → (∀ K, K ≠ a → fA g1 K = fA g K) → g1.1 = g.1 → P (none, g1)) : ∀ (n m : Nat) (gc : pH) (lv : List (Nat × pv)), e - m ≤ n → m ≤ e → J_ W h0 gc → fA gc a = (fun k : Nat => if k < m then fA g a0 k else fA g a k) → (∀ K, K ≠ a → fA gc K = fA g K) → gc.1 = g.1 → px_lg lv 0 = some (pvR a0) → px_lg lv 1 = some (pvR a) → px_lg lv 2 = some (oI (e : Int)) → px_lg lv 3 = some (oI (m : Int)) → t_X d 179 2 lv [] gc P := by
  have hna := Nat.le_of_ble_eq_true hn
  have hna0 := Nat.le_of_ble_eq_true hn0
  intro n
  induction n with
  | zero =>
    intro m gc lv h1 h2 hJ hc hO hF l0 l1 l2 l3
    refine t_0 cpm_2 rfl (ld_i l3) ?_
    refine t_0 cpm_3 rfl (ld_i l2) ?_
    refine tb_ge cpm_4 (by decide) ⟨by omega, by omega⟩ ⟨by omega, by omega⟩ (fun c1 => ?_) (fun c1 => absurd c1 (by omega))
    show t_X d 179 19 lv [] gc P
    refine t_5 cpm_19 rfl rfl ?_
    exact hP _ hJ (by rw [hc]; funext k; rw [show m = e by omega]) hO hF
  | succ n ih =>
    intro m gc lv h1 h2 hJ hc hO hF l0 l1 l2 l3
    by_cases hm : m < e
    · skip
      refine t_0 cpm_2 rfl (ld_i l3) ?_
      refine t_0 cpm_3 rfl (ld_i l2) ?_
      refine tb_ge cpm_4 (by decide) ⟨by omega, by omega⟩ ⟨by omega, by omega⟩ (fun c1 => absurd c1 (by omega)) (fun c1 => ?_)
      show t_X d 179 7 lv [] gc P
      refine t_0 cpm_7 rfl (ld_a l1) ?_
      refine t_0 cpm_8 rfl (ld_i l3) ?_
      refine t_0 cpm_9 rfl (ld_a l0) ?_
      refine t_0 cpm_10 rfl (ld_i l3) ?_
      have r1 := pb_a hJ.1 ha0 (j := m) (by omega) hg0 (hO a0 hne)
      refine t_0 cpm_11 rfl (pq_iv ha0 hn0 ⟨by omega, by omega⟩ (hO a0 hne)) ?_
      show t_X d 179 12 lv [oI (fA g a0 m), oI ((m : Int)), pvR a] gc P
      show t_X d 179 12 lv [oI (fA g a0 m), oI ((m : Int)), pvR a] gc P
      refine tw_a cpm_12 hJ ha hn hW hg hr ⟨by omega, by omega⟩ ⟨by omega, by omega⟩ (fun g1 J1 f1 f2 f3 f4 => ?_)
      show t_X d 179 13 lv [] g1 P
      refine t_2 cpm_13 rfl (w := (px_s1 lv 3 (oI ((m : Int) + 1)), [])) (pq_inc l3 (by decide)) ?_
      replace l0 : px_lg (px_s1 lv 3 (oI ((m : Int) + 1))) 0 = some (pvR a0) := s1_ne (by decide) (fun _ => rfl) l0
      replace l1 : px_lg (px_s1 lv 3 (oI ((m : Int) + 1))) 1 = some (pvR a) := s1_ne (by decide) (fun _ => rfl) l1
      replace l2 : px_lg (px_s1 lv 3 (oI ((m : Int) + 1))) 2 = some (oI ((e : Int))) := s1_ne (by decide) (fun _ => rfl) l2
      have l3 : px_lg (px_s1 lv 3 (oI ((m : Int) + 1))) 3 = some (oI ((m : Int) + 1)) := s1_eq
      generalize px_s1 lv 3 (oI ((m : Int) + 1)) = lv2 at l0 l1 l2 l3 ⊢
      show t_X d 179 16 lv2 [] g1 P
      refine t_1 cpm_16 rfl (pb_goto (pc := 16) (by decide)) ?_
      show t_X d 179 2 lv2 [] g1 P
      refine ih (m + 1) _ _ (by omega) (by omega) J1 ?_ (fun K hK => (f1 K hK).trans (hO K hK)) (f4.trans hF) l0 l1 l2 l3
      funext k
      by_cases q : k = m
      · rw [if_pos (by omega), q]; exact f2
      · rw [f3 k (by show k ≠ ((m : Int)).toNat; omega), hc]; dsimp only; by_cases q2 : k < m
        · rw [if_pos q2, if_pos (by omega)]
        · rw [if_neg q2, if_neg (by omega)]
    · skip
      refine t_0 cpm_2 rfl (ld_i l3) ?_
      refine t_0 cpm_3 rfl (ld_i l2) ?_
      refine tb_ge cpm_4 (by decide) ⟨by omega, by omega⟩ ⟨by omega, by omega⟩ (fun c1 => ?_) (fun c1 => absurd c1 (by omega))
      show t_X d 179 19 lv [] gc P
      refine t_5 cpm_19 rfl rfl ?_
      exact hP _ hJ (by rw [hc]; funext k; rw [show m = e by omega]) hO hF
theorem cpm_run {d W : Nat} {h0 g : pH} {a a0 na n0 : Nat} (ha : eL[a]? = some (1, na)) (ha0 : eL[a0]? = some (1, n0)) (hn : Nat.ble na 10000 = true) (hn0 : Nat.ble n0 10000 = true) (hne : a0 ≠ a) (hW : W.testBit (cn a) = true) {lo hi lo0 hi0 : Int} (hg : eG (cn a) = (lo, hi, [])) (hg0 : eG (cn a0) = (lo0, hi0, [])) (hb : lo ≤ lo0 ∧ hi0 ≤ hi) (hr : -2147483648 ≤ lo ∧ hi ≤ 2147483647) {e : Nat} (he : e ≤ na ∧ e ≤ n0) {P : Option pv × pH → Prop} (hJ : J_ W h0 g) (hP : ∀ g1 : pH, J_ W h0 g1 → fA g1 a = (fun k : Nat => if k < e then fA g a0 k else fA g a k) → (∀ K, K ≠ a → fA g1 K = fA g K) → g1.1 = g.1 → P (none, g1)) {lv : List (Nat × pv)} (l0 : px_lg lv 0 = some (pvR a0)) (l1 : px_lg lv 1 = some (pvR a)) (l2 : px_lg lv 2 = some (oI (e : Int))) : t_X d 179 0 lv [] g P := by
  refine t_0 cpm_0 rfl rfl ?_
  refine t_2 cpm_1 rfl (w := (px_s1 lv 3 (oI 0), [])) rfl ?_
  replace l0 : px_lg (px_s1 lv 3 (oI 0)) 0 = some (pvR a0) := s1_ne (by decide) (fun _ => rfl) l0
  replace l1 : px_lg (px_s1 lv 3 (oI 0)) 1 = some (pvR a) := s1_ne (by decide) (fun _ => rfl) l1
  replace l2 : px_lg (px_s1 lv 3 (oI 0)) 2 = some (oI ((e : Int))) := s1_ne (by decide) (fun _ => rfl) l2
  have l3 : px_lg (px_s1 lv 3 (oI 0)) 3 = some (oI 0) := s1_eq
  generalize px_s1 lv 3 (oI 0) = lv1 at l0 l1 l2 l3 ⊢
  show t_X d 179 2 lv1 [] g P
  exact cpm_loop ha ha0 hn hn0 hne hW hg hg0 hb hr he hP e 0 _ _ (by omega) (by omega) hJ (by funext k; rw [if_neg (by omega)]) (fun _ _ => rfl) rfl l0 l1 l2 l3
theorem cpm_t {ks : List (Nat × Nat)} {as : List Nat} {vs : List Int} {cs : List (Nat → Int)} {n : Nat} {s c : tC} {d W : Nat} {h0 g : pH} {a a0 na n0 : Nat} (ha : eL[a]? = some (1, na)) (ha0 : eL[a0]? = some (1, n0)) (hn : Nat.ble na 10000 = true) (hn0 : Nat.ble n0 10000 = true) (hne : a0 ≠ a) (hW : W.testBit (cn a) = true) {lo hi lo0 hi0 : Int} (hg : eG (cn a) = (lo, hi, [])) (hg0 : eG (cn a0) = (lo0, hi0, [])) (hb : lo ≤ lo0 ∧ hi0 ≤ hi) (hr : -2147483648 ≤ lo ∧ hi ≤ 2147483647) {e : Nat} (he : e ≤ na ∧ e ≤ n0) {P : Option pv × pH → Prop} (h1 : Nat.blt n cs.length = true) (h2 : as.getD n 0 = a) (h3 : sEa as a n = true) (hS : sE ks as W h0 g vs cs) (hs : fA g a0 = s) (hc : fA g a = c) (hP : ∀ g1 : pH, sE ks as W h0 g1 vs (cs.set n (fun k : Nat => if k < e then s k else c k)) → P (none, g1)) {lv : List (Nat × pv)} (l0 : px_lg lv 0 = some (pvR a0)) (l1 : px_lg lv 1 = some (pvR a)) (l2 : px_lg lv 2 = some (oI (e : Int))) : t_X d 179 0 lv [] g P :=
  cpm_run ha ha0 hn hn0 hne hW hg hg0 hb hr he (S_J hS) (fun g1 J1 e1 e2 e3 => hP g1 ⟨J1, fun i hi => by
    have := hS.2.1 i hi
    unfold cF at this ⊢
    rw [e3]
    exact this, fun i hi => by
    rw [ls_set (Nat.le_of_ble_eq_true h1)]
    by_cases q : i = n
    · subst q
      rw [if_pos rfl, h2, e1, hs, hc]
    · rw [if_neg q, e2 _ (sEa_o h3 hi q)]
      exact hS.2.2 i hi⟩) l0 l1 l2
theorem cpm_u {ks : List (Nat × Nat)} {as : List Nat} {vs : List Int} {cs : List (Nat → Int)} {d W : Nat} {h0 g : pH} {a a0 na n0 : Nat} (ha : eL[a]? = some (1, na)) (ha0 : eL[a0]? = some (1, n0)) (hn : Nat.ble na 10000 = true) (hn0 : Nat.ble n0 10000 = true) (hne : a0 ≠ a) (hW : W.testBit (cn a) = true) {lo hi lo0 hi0 : Int} (hg : eG (cn a) = (lo, hi, [])) (hg0 : eG (cn a0) = (lo0, hi0, [])) (hb : lo ≤ lo0 ∧ hi0 ≤ hi) (hr : -2147483648 ≤ lo ∧ hi ≤ 2147483647) {e : Nat} (he : e ≤ na ∧ e ≤ n0) {P : Option pv × pH → Prop} (h3 : sEa as a as.length = true) (hS : sE ks as W h0 g vs cs) (hP : ∀ g1 : pH, sE ks as W h0 g1 vs cs → P (none, g1)) {lv : List (Nat × pv)} (l0 : px_lg lv 0 = some (pvR a0)) (l1 : px_lg lv 1 = some (pvR a)) (l2 : px_lg lv 2 = some (oI (e : Int))) : t_X d 179 0 lv [] g P :=
  cpm_run ha ha0 hn hn0 hne hW hg hg0 hb hr he (S_J hS) (fun g1 J1 e1 e2 e3 => hP g1 ⟨J1, fun i hi => by
    have := hS.2.1 i hi
    unfold cF at this ⊢
    rw [e3]
    exact this, fun i hi => by
    rw [e2 _ (sEa_o h3 hi (by omega))]
    exact hS.2.2 i hi⟩) l0 l1 l2
theorem vs_loop {d m : Nat} (hm : m < 32) {g0 : pH} (hp : picM g0) {a b c : Int} {s1 s2 s3 s4 : tC} {P : Option pv × pH → Prop} (hP : ∀ (g1 : pH) (p : tC), (∀ j : Nat, j < 25 → p (25 * m + j) = fA g0 211 j) → (∀ k : Nat, k < 25 * m ∨ 25 * m + 25 ≤ k → p k = fA g0 210 k) → vS g0 g1 p s1 s2 s3 s4 → ∀ lv : List (Nat × pv), px_lg lv 0 = some (pvR 196) → px_lg lv 1 = some (oI (m : Int)) → px_lg lv 2 = some (oI a) → px_lg lv 3 = some (oI b) → px_lg lv 4 = some (oI c) → t_X d 251 137 lv [] g1 P) : ∀ (n j : Nat) (p : tC) (g : pH) (lv : List (Nat × pv)), 25 - j ≤ n → j ≤ 25 → (∀ i : Nat, i < j → p (25 * m + i) = fA g0 211 i) → (∀ k : Nat, k < 25 * m ∨ 25 * m + 25 ≤ k → p k = fA g0 210 k) → vS g0 g p s1 s2 s3 s4 → px_lg lv 0 = some (pvR 196) → px_lg lv 1 = some (oI (m : Int)) → px_lg lv 2 = some (oI a) → px_lg lv 3 = some (oI b) → px_lg lv 4 = some (oI c) → px_lg lv 5 = some (oI (j : Int)) → t_X d 251 105 lv [] g P := by
  intro n
  induction n with
  | zero =>
    intro j p g lv h1 h2 hA hB hS l0 l1 l2 l3 l4 l5
    refine t_0 vmy_105 rfl (ld_i l5) ?_
    refine t_0 vmy_107 rfl (pq_b (by decide)) ?_
    refine tb_ge vmy_109 (by decide) ⟨by omega, by omega⟩ ⟨by omega, by omega⟩ (fun c1 => ?_) (fun c1 => absurd c1 (by omega))
    show t_X d 251 137 lv [] g P
    exact hP _ _ (fun i hi => hA i (by omega)) hB hS _ l0 l1 l2 l3 l4
  | succ n ih =>
    intro j p g lv h1 h2 hA hB hS l0 l1 l2 l3 l4 l5
    by_cases hj : j < 25
    · skip
      refine t_0 vmy_105 rfl (ld_i l5) ?_
      refine t_0 vmy_107 rfl (pq_b (by decide)) ?_
      refine tb_ge vmy_109 (by decide) ⟨by omega, by omega⟩ ⟨by omega, by omega⟩ (fun c1 => absurd c1 (by omega)) (fun c1 => ?_)
      show t_X d 251 112 lv [] g P
      refine t_0 vmy_112 rfl (ld_a l0) ?_
      refine t_0 vmy_113 rfl (ycq_196_15 (S_J hS).1) ?_
      show t_X d 251 116 lv [pvR 210] g P
      refine t_0 vmy_116 rfl (pq_b (by decide)) ?_
      refine t_0 vmy_118 rfl (ld_i l1) ?_
      refine t_0 vmy_119 rfl pq_mul ?_
      refine t_0 vmy_120 rfl (ld_i l5) ?_
      refine t_0 vmy_122 rfl pq_add ?_
      refine t_0 vmy_123 rfl (ld_a l0) ?_
      refine t_0 vmy_124 rfl (ycq_196_16 (S_J hS).1) ?_
      show t_X d 251 127 lv [pvR 211, oI ((25 * (m : Int)) + (j : Int)), pvR 210] g P
      refine t_0 vmy_127 rfl (ld_i l5) ?_
      refine t_0 vmy_129 rfl (pq_by yez_211 rfl ⟨by omega, by omega⟩ (fA_M (S_J hS).2 wm_vWs_211 : fA g 211 = fA g0 211)) ?_
      show t_X d 251 130 lv [oI ((fA g0 211) j), oI ((25 * (m : Int)) + (j : Int)), pvR 210] g P
      show t_X d 251 130 lv [oI ((fA g0 211) j), oI ((25 * (m : Int)) + (j : Int)), pvR 210] g P
      have q9 := hp j hj
      refine ts_y (n := 0) rfl rfl (by decide) vmy_130 hS yez_210 rfl wu_vWs_210 ygu_210 ⟨by omega, by omega⟩ ⟨by omega, by omega⟩ (fun g2 hS2 => ?_)
      replace hS2 : vS g0 g2 (updI p ((25 * (m : Int)) + (j : Int)).toNat ((fA g0 211) j)) s1 s2 s3 s4 := hS2
      show t_X d 251 131 lv [] g2 P
      refine t_2 vmy_131 rfl (w := (px_s1 lv 5 (oI ((j : Int) + 1)), [])) (pq_inc l5 (by decide)) ?_
      replace l0 : px_lg (px_s1 lv 5 (oI ((j : Int) + 1))) 0 = some (pvR 196) := s1_ne (by decide) (fun _ => rfl) l0
      replace l1 : px_lg (px_s1 lv 5 (oI ((j : Int) + 1))) 1 = some (oI ((m : Int))) := s1_ne (by decide) (fun _ => rfl) l1
      replace l2 : px_lg (px_s1 lv 5 (oI ((j : Int) + 1))) 2 = some (oI (a)) := s1_ne (by decide) (fun _ => rfl) l2
      replace l3 : px_lg (px_s1 lv 5 (oI ((j : Int) + 1))) 3 = some (oI (b)) := s1_ne (by decide) (fun _ => rfl) l3
      replace l4 : px_lg (px_s1 lv 5 (oI ((j : Int) + 1))) 4 = some (oI (c)) := s1_ne (by decide) (fun _ => rfl) l4
      have l5 : px_lg (px_s1 lv 5 (oI ((j : Int) + 1))) 5 = some (oI ((j : Int) + 1)) := s1_eq
      generalize px_s1 lv 5 (oI ((j : Int) + 1)) = lv3 at l0 l1 l2 l3 l4 l5 ⊢
      show t_X d 251 134 lv3 [] g2 P
      refine t_1 vmy_134 rfl (pb_goto (pc := 134) (by decide)) ?_
      show t_X d 251 105 lv3 [] g2 P
      refine ih (j + 1) _ _ _ (by omega) (by omega) (fun i hi => ?_) (fun k hk => ?_) hS2 l0 l1 l2 l3 l4 l5
      · unfold updI; by_cases q : i = j
        · rw [if_pos (by omega), q]
        · rw [if_neg (by omega)]; exact hA i (by omega)
      · unfold updI; rw [if_neg (by omega)]; exact hB k hk
    · skip
      refine t_0 vmy_105 rfl (ld_i l5) ?_
      refine t_0 vmy_107 rfl (pq_b (by decide)) ?_
      refine tb_ge vmy_109 (by decide) ⟨by omega, by omega⟩ ⟨by omega, by omega⟩ (fun c1 => ?_) (fun c1 => absurd c1 (by omega))
      show t_X d 251 137 lv [] g P
      exact hP _ _ (fun i hi => hA i (by omega)) hB hS _ l0 l1 l2 l3 l4
set_option maxHeartbeats 2000000 in
theorem vs_tail {d m : Nat} (hm : m < 32) {g0 : pH} (hG : g_I eG g0) (hp : picM g0) {a b c : Int} (ha : 0 ≤ a ∧ a ≤ 3) (hb : 0 ≤ b ∧ b ≤ 3) (hc : 0 ≤ c ∧ c ≤ 99) {P : Option pv × pH → Prop} (hP : ∀ (g1 : pH) (p : tC), (∀ j : Nat, j < 25 → p (25 * m + j) = fA g0 211 j) → (∀ k : Nat, k < 25 * m ∨ 25 * m + 25 ≤ k → p k = fA g0 210 k) → vS g0 g1 p (updI (fA g0 199) ((m : Int)).toNat a) (updI (fA g0 200) ((m : Int)).toNat b) (updI (fA g0 201) ((m : Int)).toNat c) (updI (fA g0 202) ((m : Int)).toNat 0) → P (some (oI 1), g1)) {lv : List (Nat × pv)} (l0 : px_lg lv 0 = some (pvR 196)) (l1 : px_lg lv 1 = some (oI (m : Int))) (l2 : px_lg lv 2 = some (oI a)) (l3 : px_lg lv 3 = some (oI b)) (l4 : px_lg lv 4 = some (oI c)) : t_X d 251 102 lv [] g0 P := by
  have hS : vS g0 g0 (fA g0 210) (fA g0 199) (fA g0 200) (fA g0 201) (fA g0 202) := S_0 hG
  refine t_0 vmy_102 rfl rfl ?_
  refine t_2 vmy_103 rfl (w := (px_s1 lv 5 (oI 0), [])) rfl ?_
  replace l0 : px_lg (px_s1 lv 5 (oI 0)) 0 = some (pvR 196) := s1_ne (by decide) (fun _ => rfl) l0
  replace l1 : px_lg (px_s1 lv 5 (oI 0)) 1 = some (oI ((m : Int))) := s1_ne (by decide) (fun _ => rfl) l1
  replace l2 : px_lg (px_s1 lv 5 (oI 0)) 2 = some (oI (a)) := s1_ne (by decide) (fun _ => rfl) l2
  replace l3 : px_lg (px_s1 lv 5 (oI 0)) 3 = some (oI (b)) := s1_ne (by decide) (fun _ => rfl) l3
  replace l4 : px_lg (px_s1 lv 5 (oI 0)) 4 = some (oI (c)) := s1_ne (by decide) (fun _ => rfl) l4
  have l5 : px_lg (px_s1 lv 5 (oI 0)) 5 = some (oI 0) := s1_eq
  generalize px_s1 lv 5 (oI 0) = lv1 at l0 l1 l2 l3 l4 l5 ⊢
  show t_X d 251 105 lv1 [] g0 P
  refine vs_loop hm hp (fun g1 p h1 h2 hS1 lv l0 l1 l2 l3 l4 => ?_) 25 0 _ _ _ (by omega) (by omega) (fun i hi => absurd hi (by omega)) (fun k hk => rfl) hS l0 l1 l2 l3 l4 l5
  show t_X d 251 137 lv [] g1 P
  refine t_0 vmy_137 rfl (ld_a l0) ?_
  refine t_0 vmy_138 rfl (ld_a l0) ?_
  have r1 := cb_i (S_J hS1).1 yeo_196 (Nat.le_of_ble_eq_true rfl) rfl ygy_196_0
  refine t_0 vmy_139 rfl (pq_cv yeo_196 rfl rfl) ?_
  show t_X d 251 142 lv [oI (cF g1 196 0), pvR 196] g1 P
  refine t_0 vmy_142 rfl rfl ?_
  refine t_0 vmy_143 rfl (ld_i l1) ?_
  refine t_0 vmy_144 rfl rfl ?_
  refine t_0 vmy_145 rfl rfl ?_
  refine ts_v0 (by decide) vmy_146 rfl yeo_196 hS1 wt_vWs_196_0 ygy_196_0 (fun g2 hS2 => ?_)
  replace hS2 : vS g0 g2 p (fA g0 199) (fA g0 200) (fA g0 201) (fA g0 202) := hS2
  show t_X d 251 149 lv [] g2 P
  refine t_0 vmy_149 rfl (ld_a l0) ?_
  refine t_0 vmy_150 rfl (ycq_196_4 (S_J hS2).1) ?_
  show t_X d 251 153 lv [pvR 199] g2 P
  refine t_0 vmy_153 rfl (ld_i l1) ?_
  refine t_0 vmy_154 rfl (ld_i l2) ?_
  refine ts_a (n := 1) rfl rfl (by decide) vmy_155 hS2 yez_199 rfl wu_vWs_199 ygu_199 (by decide) ⟨by omega, by omega⟩ ⟨by omega, by omega⟩ (fun g3 hS3 => ?_)
  replace hS3 : vS g0 g3 p (updI (fA g0 199) (m : Int).toNat a) (fA g0 200) (fA g0 201) (fA g0 202) := hS3
  show t_X d 251 156 lv [] g3 P
  refine t_0 vmy_156 rfl (ld_a l0) ?_
  refine t_0 vmy_157 rfl (ycq_196_5 (S_J hS3).1) ?_
  show t_X d 251 160 lv [pvR 200] g3 P
  refine t_0 vmy_160 rfl (ld_i l1) ?_
  refine t_0 vmy_161 rfl (ld_i l3) ?_
  refine ts_a (n := 2) rfl rfl (by decide) vmy_162 hS3 yez_200 rfl wu_vWs_200 ygu_200 (by decide) ⟨by omega, by omega⟩ ⟨by omega, by omega⟩ (fun g4 hS4 => ?_)
  replace hS4 : vS g0 g4 p (updI (fA g0 199) (m : Int).toNat a) (updI (fA g0 200) (m : Int).toNat b) (fA g0 201) (fA g0 202) := hS4
  show t_X d 251 163 lv [] g4 P
  refine t_0 vmy_163 rfl (ld_a l0) ?_
  refine t_0 vmy_164 rfl (ycq_196_6 (S_J hS4).1) ?_
  show t_X d 251 167 lv [pvR 201] g4 P
  refine t_0 vmy_167 rfl (ld_i l1) ?_
  refine t_0 vmy_168 rfl (ld_i l4) ?_
  refine ts_a (n := 3) rfl rfl (by decide) vmy_170 hS4 yez_201 rfl wu_vWs_201 ygu_201 (by decide) ⟨by omega, by omega⟩ ⟨by omega, by omega⟩ (fun g5 hS5 => ?_)
  replace hS5 : vS g0 g5 p (updI (fA g0 199) (m : Int).toNat a) (updI (fA g0 200) (m : Int).toNat b) (updI (fA g0 201) (m : Int).toNat c) (fA g0 202) := hS5
  show t_X d 251 171 lv [] g5 P
  refine t_0 vmy_171 rfl (ld_a l0) ?_
  refine t_0 vmy_172 rfl (ycq_196_7 (S_J hS5).1) ?_
  show t_X d 251 175 lv [pvR 202] g5 P
  refine t_0 vmy_175 rfl (ld_i l1) ?_
  refine t_0 vmy_176 rfl rfl ?_
  refine ts_a (n := 4) rfl rfl (by decide) vmy_177 hS5 yez_202 rfl wu_vWs_202 ygu_202 (by decide) ⟨by omega, by omega⟩ ⟨by omega, by omega⟩ (fun g6 hS6 => ?_)
  replace hS6 : vS g0 g6 p (updI (fA g0 199) (m : Int).toNat a) (updI (fA g0 200) (m : Int).toNat b) (updI (fA g0 201) (m : Int).toNat c) (updI (fA g0 202) (m : Int).toNat 0) := hS6
  show t_X d 251 178 lv [] g6 P
  refine t_0 vmy_178 rfl (ld_a l0) ?_
  refine t_0 vmy_179 rfl (ycq_196_2 (S_J hS6).1) ?_
  show t_X d 251 182 lv [pvR 197] g6 P
  refine t_0 vmy_182 rfl rfl ?_
  refine t_0 vmy_183 rfl (ld_i l1) ?_
  refine t_0 vmy_184 rfl pq_add ?_
  refine t_0 vmy_185 rfl rfl ?_
  refine ts_a0 (by decide) vmy_186 hS6 yez_197 rfl wu_vWs_197 ygu_197 (by decide) ⟨by omega, by omega⟩ ⟨by omega, by omega⟩ (fun g7 hS7 => ?_)
  replace hS7 : vS g0 g7 p (updI (fA g0 199) (m : Int).toNat a) (updI (fA g0 200) (m : Int).toNat b) (updI (fA g0 201) (m : Int).toNat c) (updI (fA g0 202) (m : Int).toNat 0) := hS7
  show t_X d 251 187 lv [] g7 P
  refine t_0 vmy_187 rfl rfl ?_
  refine t_5 vmy_188 rfl rfl ?_
  exact hP _ _ h1 h2 hS7
set_option maxHeartbeats 4000000 in
theorem vms_run {d : Nat} (hd : 6 ≤ d) (hd2 : d ≤ 1000000) {g : pH} (hG : g_I eG g) (hx : xL g) {i a b c : Int} (hi : -2147483648 ≤ i ∧ i ≤ 2147483647) (ha : -2147483648 ≤ a ∧ a ≤ 2147483647) (hb9 : -2147483648 ≤ b ∧ b ≤ 2147483647) (hc : -2147483648 ≤ c ∧ c ≤ 2147483647) {P : Option pv × pH → Prop} (hA : ∀ m : Nat, m < 32 → i = m → picM g → ∀ g1 : pH, f_M kk_3.2.2.2.1 g g1 → (∀ j : Nat, j < 25 → fA g1 210 (25 * m + j) = fA g 211 j) → (∀ k : Nat, k < 25 * m ∨ 25 * m + 25 ≤ k → fA g1 210 k = fA g 210 k) → fA g1 199 = updI (fA g 199) m a → fA g1 200 = updI (fA g 200) m b → fA g1 201 = updI (fA g 201) m c → fA g1 202 = updI (fA g 202) m 0 → P (some (oI 1), g1)) (hB : ∀ g1 : pH, f_M kk_3.2.2.2.1 g g1 → (∀ K, fA g1 K = fA g K) → P (some (oI 0), g1)) {lv : List (Nat × pv)} (l0 : px_lg lv 0 = some (pvR 196)) (l1 : px_lg lv 1 = some (oI i)) (l2 : px_lg lv 2 = some (oI a)) (l3 : px_lg lv 3 = some (oI b)) (l4 : px_lg lv 4 = some (oI c)) : t_X d 251 0 lv [] g P := by
  have hJ : J_ kk_3.2.2.2.1 g g := J_rf hG
  have w_17 := Wmsl.1
  have hb : 0 ≤ cF g 196 17 ∧ cF g 196 17 ≤ 260 := gk_17 hG
  have hb2 : cF g 196 17 = fF g 17 := rfl
  by_cases a0 : i < 0
  · refine mid_L (k := kmsl_1) emsl_1 hG hx (xs := [cv (pvR 196), cv (oI i), cv (oI a), cv (oI b), cv (oI c)]) (ys := []) ⟨by show 1 ≤ _; omega, ⟨⟨pvR 196, l0, rfl, rfl, ok_this⟩, ⟨oI i, l1, rfl, rfl, ok_oI (by omega) (by decide) (by decide)⟩, ⟨oI a, l2, rfl, rfl, ok_full32 _⟩, ⟨oI b, l3, rfl, rfl, ok_full32 _⟩, ⟨oI c, l4, rfl, rfl, ok_full32 _⟩, trivial⟩, trivial, fun c hc => absurd hc List.not_mem_nil⟩ (by omega) (fun o G1 X1 M1 P1 => ?_)
    obtain ⟨o1, o2⟩ := o
    obtain ⟨rfl, -⟩ := po_c P1
    exact hB _ (f_M_0 M1) (fun K => fA_M M1 (Nat.zero_testBit _))
  · skip
    by_cases a1 : 31 < i
    · refine mid_L (k := kmsl_2) emsl_2 hG hx (xs := [cv (pvR 196), cv (oI i), cv (oI a), cv (oI b), cv (oI c)]) (ys := []) ⟨by show 1 ≤ _; omega, ⟨⟨pvR 196, l0, rfl, rfl, ok_this⟩, ⟨oI i, l1, rfl, rfl, ok_oI (by omega) (by decide) (by decide)⟩, ⟨oI a, l2, rfl, rfl, ok_full32 _⟩, ⟨oI b, l3, rfl, rfl, ok_full32 _⟩, ⟨oI c, l4, rfl, rfl, ok_full32 _⟩, trivial⟩, trivial, fun c hc => absurd hc List.not_mem_nil⟩ (by omega) (fun o G1 X1 M1 P1 => ?_)
      obtain ⟨o1, o2⟩ := o
      obtain ⟨rfl, -⟩ := po_c P1
      exact hB _ (f_M_0 M1) (fun K => fA_M M1 (Nat.zero_testBit _))
    · skip
      by_cases a2 : a < 0
      · refine mid_L (k := kmsl_3) emsl_3 hG hx (xs := [cv (pvR 196), cv (oI i), cv (oI a), cv (oI b), cv (oI c)]) (ys := []) ⟨by show 1 ≤ _; omega, ⟨⟨pvR 196, l0, rfl, rfl, ok_this⟩, ⟨oI i, l1, rfl, rfl, ok_full32 _⟩, ⟨oI a, l2, rfl, rfl, ok_oI (by omega) (by decide) (by decide)⟩, ⟨oI b, l3, rfl, rfl, ok_full32 _⟩, ⟨oI c, l4, rfl, rfl, ok_full32 _⟩, trivial⟩, trivial, fun c hc => absurd hc List.not_mem_nil⟩ (by omega) (fun o G1 X1 M1 P1 => ?_)
        obtain ⟨o1, o2⟩ := o
        obtain ⟨rfl, -⟩ := po_c P1
        exact hB _ (f_M_0 M1) (fun K => fA_M M1 (Nat.zero_testBit _))
      · skip
        by_cases a3 : 3 < a
        · refine mid_L (k := kmsl_4) emsl_4 hG hx (xs := [cv (pvR 196), cv (oI i), cv (oI a), cv (oI b), cv (oI c)]) (ys := []) ⟨by show 1 ≤ _; omega, ⟨⟨pvR 196, l0, rfl, rfl, ok_this⟩, ⟨oI i, l1, rfl, rfl, ok_full32 _⟩, ⟨oI a, l2, rfl, rfl, ok_oI (by omega) (by decide) (by decide)⟩, ⟨oI b, l3, rfl, rfl, ok_full32 _⟩, ⟨oI c, l4, rfl, rfl, ok_full32 _⟩, trivial⟩, trivial, fun c hc => absurd hc List.not_mem_nil⟩ (by omega) (fun o G1 X1 M1 P1 => ?_)
          obtain ⟨o1, o2⟩ := o
          obtain ⟨rfl, -⟩ := po_c P1
          exact hB _ (f_M_0 M1) (fun K => fA_M M1 (Nat.zero_testBit _))
        · skip
          by_cases a4 : b < 0
          · refine mid_L (k := kmsl_5) emsl_5 hG hx (xs := [cv (pvR 196), cv (oI i), cv (oI a), cv (oI b), cv (oI c)]) (ys := []) ⟨by show 1 ≤ _; omega, ⟨⟨pvR 196, l0, rfl, rfl, ok_this⟩, ⟨oI i, l1, rfl, rfl, ok_full32 _⟩, ⟨oI a, l2, rfl, rfl, ok_full32 _⟩, ⟨oI b, l3, rfl, rfl, ok_oI (by omega) (by decide) (by decide)⟩, ⟨oI c, l4, rfl, rfl, ok_full32 _⟩, trivial⟩, trivial, fun c hc => absurd hc List.not_mem_nil⟩ (by omega) (fun o G1 X1 M1 P1 => ?_)
            obtain ⟨o1, o2⟩ := o
            obtain ⟨rfl, -⟩ := po_c P1
            exact hB _ (f_M_0 M1) (fun K => fA_M M1 (Nat.zero_testBit _))
          · skip
            by_cases a5 : 3 < b
            · refine mid_L (k := kmsl_6) emsl_6 hG hx (xs := [cv (pvR 196), cv (oI i), cv (oI a), cv (oI b), cv (oI c)]) (ys := []) ⟨by show 1 ≤ _; omega, ⟨⟨pvR 196, l0, rfl, rfl, ok_this⟩, ⟨oI i, l1, rfl, rfl, ok_full32 _⟩, ⟨oI a, l2, rfl, rfl, ok_full32 _⟩, ⟨oI b, l3, rfl, rfl, ok_oI (by omega) (by decide) (by decide)⟩, ⟨oI c, l4, rfl, rfl, ok_full32 _⟩, trivial⟩, trivial, fun c hc => absurd hc List.not_mem_nil⟩ (by omega) (fun o G1 X1 M1 P1 => ?_)
              obtain ⟨o1, o2⟩ := o
              obtain ⟨rfl, -⟩ := po_c P1
              exact hB _ (f_M_0 M1) (fun K => fA_M M1 (Nat.zero_testBit _))
            · skip
              by_cases a6 : c < 0
              · refine mid_L (k := kmsl_7) emsl_7 hG hx (xs := [cv (pvR 196), cv (oI i), cv (oI a), cv (oI b), cv (oI c)]) (ys := []) ⟨by show 1 ≤ _; omega, ⟨⟨pvR 196, l0, rfl, rfl, ok_this⟩, ⟨oI i, l1, rfl, rfl, ok_full32 _⟩, ⟨oI a, l2, rfl, rfl, ok_full32 _⟩, ⟨oI b, l3, rfl, rfl, ok_full32 _⟩, ⟨oI c, l4, rfl, rfl, ok_oI (by omega) (by decide) (by decide)⟩, trivial⟩, trivial, fun c hc => absurd hc List.not_mem_nil⟩ (by omega) (fun o G1 X1 M1 P1 => ?_)
                obtain ⟨o1, o2⟩ := o
                obtain ⟨rfl, -⟩ := po_c P1
                exact hB _ (f_M_0 M1) (fun K => fA_M M1 (Nat.zero_testBit _))
              · skip
                by_cases a7 : 99 < c
                · refine mid_L (k := kmsl_8) emsl_8 hG hx (xs := [cv (pvR 196), cv (oI i), cv (oI a), cv (oI b), cv (oI c)]) (ys := []) ⟨by show 1 ≤ _; omega, ⟨⟨pvR 196, l0, rfl, rfl, ok_this⟩, ⟨oI i, l1, rfl, rfl, ok_full32 _⟩, ⟨oI a, l2, rfl, rfl, ok_full32 _⟩, ⟨oI b, l3, rfl, rfl, ok_full32 _⟩, ⟨oI c, l4, rfl, rfl, ok_oI (by omega) (by decide) (by decide)⟩, trivial⟩, trivial, fun c hc => absurd hc List.not_mem_nil⟩ (by omega) (fun o G1 X1 M1 P1 => ?_)
                  obtain ⟨o1, o2⟩ := o
                  obtain ⟨rfl, -⟩ := po_c P1
                  exact hB _ (f_M_0 M1) (fun K => fA_M M1 (Nat.zero_testBit _))
                · skip
                  by_cases a8 : cF g 196 17 < 25
                  · refine mid_L (k := kmsl_9) emsl_9 hG hx (xs := [cv (pvR 196), cv (oI i), cv (oI a), cv (oI b), cv (oI c)]) (ys := [cF g 196 17]) ⟨by show 1 ≤ _; omega, ⟨⟨pvR 196, l0, rfl, rfl, ok_this⟩, ⟨oI i, l1, rfl, rfl, ok_oI (by omega) (by decide) (by decide)⟩, ⟨oI a, l2, rfl, rfl, ok_oI (by omega) (by decide) (by decide)⟩, ⟨oI b, l3, rfl, rfl, ok_oI (by omega) (by decide) (by decide)⟩, ⟨oI c, l4, rfl, rfl, ok_oI (by omega) (by decide) (by decide)⟩, trivial⟩, ⟨⟨.inl (g.1 196 17), hc_i el_196 (Nat.le_of_ble_eq_true rfl) rfl, rfl, rfl, ⟨hb.1, show cF g 196 17 ≤ 24 by omega, Or.inl rfl⟩⟩, trivial⟩, fun c hc => absurd hc List.not_mem_nil⟩ (by omega) (fun o G1 X1 M1 P1 => ?_)
                    obtain ⟨o1, o2⟩ := o
                    obtain ⟨rfl, -⟩ := po_c P1
                    exact hB _ (f_M_0 M1) (fun K => fA_M M1 (Nat.zero_testBit _))
                  · skip
                    obtain ⟨m, rfl⟩ : ∃ m : Nat, i = m := ⟨i.toNat, by omega⟩
                    have hm : m < 32 := by omega
                    refine t_0 qmy_0 rfl (ld_i l1) ?_
                    refine t_0 qmy_1 rfl rfl ?_
                    refine t_0 qmy_2 rfl (pq_b (by decide)) ?_
                    refine t_3 qmy_4 rfl (ar := ([oI ((m : Int)), oI (0), oI (31)], [])) (pcal_s ⟨Or.inl rfl, rfl, Nat.le_of_ble_eq_true rfl⟩) ⟨by omega, Nat.le_of_ble_eq_true rfl, Nat.le_of_ble_eq_true rfl, rfl⟩ ?_
                    refine in_run ⟨by omega, by omega⟩ ⟨by omega, by omega⟩ ⟨by omega, by omega⟩ rfl rfl rfl (fun t1 => ?_) (fun t1 => absurd t1 (by omega))
                    show t_X d 251 7 lv [oI (1)] g P
                    refine tz_eq qmy_7 (by decide) ⟨by omega, by omega⟩ (fun c2 => absurd c2 (by omega)) (fun c2 => ?_)
                    show t_X d 251 10 lv [] g P
                    refine t_0 qmy_10 rfl (ld_i l2) ?_
                    refine t_0 qmy_11 rfl rfl ?_
                    refine t_0 qmy_12 rfl rfl ?_
                    refine t_3 qmy_13 rfl (ar := ([oI (a), oI (0), oI (3)], [])) (pcal_s ⟨Or.inl rfl, rfl, Nat.le_of_ble_eq_true rfl⟩) ⟨by omega, Nat.le_of_ble_eq_true rfl, Nat.le_of_ble_eq_true rfl, rfl⟩ ?_
                    refine in_run ⟨by omega, by omega⟩ ⟨by omega, by omega⟩ ⟨by omega, by omega⟩ rfl rfl rfl (fun t3 => ?_) (fun t3 => absurd t3 (by omega))
                    show t_X d 251 16 lv [oI (1)] g P
                    refine tz_eq qmy_16 (by decide) ⟨by omega, by omega⟩ (fun c4 => absurd c4 (by omega)) (fun c4 => ?_)
                    show t_X d 251 19 lv [] g P
                    refine t_0 qmy_19 rfl (ld_i l3) ?_
                    refine t_0 qmy_20 rfl rfl ?_
                    refine t_0 qmy_21 rfl rfl ?_
                    refine t_3 qmy_22 rfl (ar := ([oI (b), oI (0), oI (3)], [])) (pcal_s ⟨Or.inl rfl, rfl, Nat.le_of_ble_eq_true rfl⟩) ⟨by omega, Nat.le_of_ble_eq_true rfl, Nat.le_of_ble_eq_true rfl, rfl⟩ ?_
                    refine in_run ⟨by omega, by omega⟩ ⟨by omega, by omega⟩ ⟨by omega, by omega⟩ rfl rfl rfl (fun t5 => ?_) (fun t5 => absurd t5 (by omega))
                    show t_X d 251 25 lv [oI (1)] g P
                    refine tz_eq qmy_25 (by decide) ⟨by omega, by omega⟩ (fun c6 => absurd c6 (by omega)) (fun c6 => ?_)
                    show t_X d 251 28 lv [] g P
                    refine t_0 qmy_28 rfl (ld_i l4) ?_
                    refine t_0 qmy_30 rfl rfl ?_
                    refine t_0 qmy_31 rfl (pq_b (by decide)) ?_
                    refine t_3 qmy_33 rfl (ar := ([oI (c), oI (0), oI (99)], [])) (pcal_s ⟨Or.inl rfl, rfl, Nat.le_of_ble_eq_true rfl⟩) ⟨by omega, Nat.le_of_ble_eq_true rfl, Nat.le_of_ble_eq_true rfl, rfl⟩ ?_
                    refine in_run ⟨by omega, by omega⟩ ⟨by omega, by omega⟩ ⟨by omega, by omega⟩ rfl rfl rfl (fun t7 => ?_) (fun t7 => absurd t7 (by omega))
                    show t_X d 251 36 lv [oI (1)] g P
                    refine tz_eq qmy_36 (by decide) ⟨by omega, by omega⟩ (fun c8 => absurd c8 (by omega)) (fun c8 => ?_)
                    show t_X d 251 39 lv [] g P
                    refine t_0 qmy_39 rfl (ld_a l0) ?_
                    have r9 := gb_f hJ.1 (y := 17) rfl rfl gf_17
                    refine t_0 qmy_40 rfl (pq_gf (y := 17) rfl) ?_
                    refine t_0 qmy_43 rfl (pq_b (by decide)) ?_
                    refine tb_ge qmy_45 (by decide) ⟨by omega, by omega⟩ ⟨by omega, by omega⟩ (fun c10 => ?_) (fun c10 => absurd c10 (by omega))
                    show t_X d 251 50 lv [] g P
                    refine t_0 qmy_50 rfl (ld_a l0) ?_
                    refine t_0 qmy_51 rfl rfl ?_
                    refine tw_c qmy_52 el_196 rfl hJ w_17 gf_17 (by decide) ⟨by omega, by omega⟩ (fun g11 hJ11 e11 => ?_)
                    show t_X d 251 55 lv [] g11 P
                    refine t_0 qmy_55 rfl rfl ?_
                    refine t_2 qmy_56 rfl (w := (px_s1 lv 5 (oI (0)), [])) rfl ?_
                    replace l0 : px_lg (px_s1 lv 5 (oI (0))) 0 = some (pvR 196) := s1_ne (by decide) (fun _ => rfl) l0
                    replace l1 : px_lg (px_s1 lv 5 (oI (0))) 1 = some (oI ((m : Int))) := s1_ne (by decide) (fun _ => rfl) l1
                    replace l2 : px_lg (px_s1 lv 5 (oI (0))) 2 = some (oI (a)) := s1_ne (by decide) (fun _ => rfl) l2
                    replace l3 : px_lg (px_s1 lv 5 (oI (0))) 3 = some (oI (b)) := s1_ne (by decide) (fun _ => rfl) l3
                    replace l4 : px_lg (px_s1 lv 5 (oI (0))) 4 = some (oI (c)) := s1_ne (by decide) (fun _ => rfl) l4
                    have l5 : px_lg (px_s1 lv 5 (oI (0))) 5 = some (oI (0)) := s1_eq
                    generalize px_s1 lv 5 (oI (0)) = lv12 at l0 l1 l2 l3 l4 l5 ⊢
                    show t_X d 251 58 lv12 [] g11 P
                    refine ms_loop (by omega) hJ11.1 (fun hp lv9 u0 u1 u2 u3 u4 => ?_) (fun hp => ?_) 25 0 _ (by omega) (by omega) (fun k hk => absurd hk (by omega)) l0 l1 l2 l3 l4 l5
                    · have eA : ∀ K, fA g11 K = fA g K := fun K => (congrArg (fun q : pH => fA q K) e11 : fA g11 K = fA (pu g.1 196 17 (Int32.ofInt 0), g.2) K).trans rfl
                      refine vs_tail hm hJ11.1 hp (by omega) (by omega) (by omega) (fun g1 p h1 h2 hS1 => ?_) u0 u1 u2 u3 u4
                      have z0 : fA g1 210 = p := S_a hS1 0 (Nat.le_of_ble_eq_true rfl)
                      have z1 : fA g1 199 = updI (fA g11 199) ((m : Int)).toNat a := S_a hS1 1 (Nat.le_of_ble_eq_true rfl)
                      have z2 : fA g1 200 = updI (fA g11 200) ((m : Int)).toNat b := S_a hS1 2 (Nat.le_of_ble_eq_true rfl)
                      have z3 : fA g1 201 = updI (fA g11 201) ((m : Int)).toNat c := S_a hS1 3 (Nat.le_of_ble_eq_true rfl)
                      have z4 : fA g1 202 = updI (fA g11 202) ((m : Int)).toNat 0 := S_a hS1 4 (Nat.le_of_ble_eq_true rfl)
                      refine hA m hm rfl (picM_2 e11 hp) g1 (f_M_tr (Nat.and_self _) hJ11.2 (S_J hS1).2) (fun j hj => ?_) (fun k hk => ?_) (z1.trans (congrArg (fun f => updI f m a) (eA 199))) (z2.trans (congrArg (fun f => updI f m b) (eA 200))) (z3.trans (congrArg (fun f => updI f m c) (eA 201))) (z4.trans (congrArg (fun f => updI f m 0) (eA 202)))
                      · rw [z0, h1 j hj, eA]
                      · rw [z0, h2 k hk, eA]
                    · exact hB _ hJ11.2 (fun K => (congrArg (fun q : pH => fA q K) e11 : fA g11 K = fA (pu g.1 196 17 (Int32.ofInt 0), g.2) K).trans rfl)
theorem qvk_loop {d : Nat} {g0 : pH} (hb : ∀ k : Nat, k < 800 → -128 ≤ fA g0 210 k ∧ fA g0 210 k ≤ 127) {s1 s2 s3 s4 : tC} {P : Option pv × pH → Prop} (hP : ∀ (g1 : pH) (p : tC), (∀ j : Nat, j < 800 → p j = fA g0 210 j) → vKS g0 g1 s1 s2 s3 s4 p → ∀ lv : List (Nat × pv), px_lg lv 0 = some (pvR 196) → t_X d 209 220 lv [] g1 P) : ∀ (n j : Nat) (p : tC) (g : pH) (lv : List (Nat × pv)), 800 - j ≤ n → j ≤ 800 → (∀ i : Nat, i < j → p i = fA g0 210 i) → vKS g0 g s1 s2 s3 s4 p → px_lg lv 0 = some (pvR 196) → px_lg lv 1 = some (oI (j : Int)) → t_X d 209 195 lv [] g P := by
  intro n
  induction n with
  | zero =>
    intro j p g lv h1 h2 hA hS l0 l1
    refine t_0 vky_195 rfl (ld_i l1) ?_
    refine t_0 vky_196 rfl (pq_s (by decide)) ?_
    refine tb_ge vky_199 (by decide) ⟨by omega, by omega⟩ ⟨by omega, by omega⟩ (fun c1 => ?_) (fun c1 => absurd c1 (by omega))
    show t_X d 209 220 lv [] g P
    exact hP _ _ (fun i hi => hA i (by omega)) hS _ l0
  | succ n ih =>
    intro j p g lv h1 h2 hA hS l0 l1
    by_cases hj : j < 800
    · skip
      refine t_0 vky_195 rfl (ld_i l1) ?_
      refine t_0 vky_196 rfl (pq_s (by decide)) ?_
      refine tb_ge vky_199 (by decide) ⟨by omega, by omega⟩ ⟨by omega, by omega⟩ (fun c1 => absurd c1 (by omega)) (fun c1 => ?_)
      show t_X d 209 202 lv [] g P
      refine t_0 vky_202 rfl (ld_a l0) ?_
      refine t_0 vky_203 rfl (ycq_196_89 (S_J hS).1) ?_
      show t_X d 209 206 lv [pvR 253] g P
      refine t_0 vky_206 rfl (ld_i l1) ?_
      refine t_0 vky_207 rfl (ld_a l0) ?_
      refine t_0 vky_208 rfl (ycq_196_15 (S_J hS).1) ?_
      show t_X d 209 211 lv [pvR 210, oI ((j : Int)), pvR 253] g P
      refine t_0 vky_211 rfl (ld_i l1) ?_
      refine t_0 vky_212 rfl (pq_by yez_210 rfl ⟨by omega, by omega⟩ (fA_M (S_J hS).2 wm_vKW_210 : fA g 210 = fA g0 210)) ?_
      show t_X d 209 213 lv [oI ((fA g0 210) j), oI ((j : Int)), pvR 253] g P
      show t_X d 209 213 lv [oI ((fA g0 210) j), oI ((j : Int)), pvR 253] g P
      have q9 := hb j hj
      refine ts_y (n := 4) rfl rfl (by decide) vky_213 hS yez_253 rfl wu_vKW_253 ygu_253 ⟨by omega, by omega⟩ ⟨by omega, by omega⟩ (fun g2 hS2 => ?_)
      replace hS2 : vKS g0 g2 s1 s2 s3 s4 (updI p (j : Int).toNat ((fA g0 210) j)) := hS2
      show t_X d 209 214 lv [] g2 P
      refine t_2 vky_214 rfl (w := (px_s1 lv 1 (oI ((j : Int) + 1)), [])) (pq_inc l1 (by decide)) ?_
      replace l0 : px_lg (px_s1 lv 1 (oI ((j : Int) + 1))) 0 = some (pvR 196) := s1_ne (by decide) (fun _ => rfl) l0
      have l1 : px_lg (px_s1 lv 1 (oI ((j : Int) + 1))) 1 = some (oI ((j : Int) + 1)) := s1_eq
      generalize px_s1 lv 1 (oI ((j : Int) + 1)) = lv3 at l0 l1 ⊢
      show t_X d 209 217 lv3 [] g2 P
      refine t_1 vky_217 rfl (pb_goto (pc := 217) (by decide)) ?_
      show t_X d 209 195 lv3 [] g2 P
      refine ih (j + 1) _ _ _ (by omega) (by omega) (fun i hi => ?_) hS2 l0 l1
      unfold updI; by_cases q : i = j
      · rw [if_pos (by omega), q]
      · rw [if_neg (by omega)]; exact hA i (by omega)
    · skip
      refine t_0 vky_195 rfl (ld_i l1) ?_
      refine t_0 vky_196 rfl (pq_s (by decide)) ?_
      refine tb_ge vky_199 (by decide) ⟨by omega, by omega⟩ ⟨by omega, by omega⟩ (fun c1 => ?_) (fun c1 => absurd c1 (by omega))
      show t_X d 209 220 lv [] g P
      exact hP _ _ (fun i hi => hA i (by omega)) hS _ l0
set_option maxHeartbeats 4000000 in
theorem qvk_run {d : Nat} (hd : 6 ≤ d) {g0 : pH} (hG : g_I eG g0) (hb : ∀ k : Nat, k < 800 → -128 ≤ fA g0 210 k ∧ fA g0 210 k ≤ 127) {P : Option pv × pH → Prop} (hP : ∀ (v : pv) (g1 : pH) (p : tC), (∀ j : Nat, j < 800 → p j = fA g0 210 j) → vKS g0 g1 (fun k : Nat => if k < 32 then fA g0 199 k else fA g0 242 k) (fun k : Nat => if k < 32 then fA g0 200 k else fA g0 243 k) (fun k : Nat => if k < 32 then fA g0 201 k else fA g0 244 k) (fun k : Nat => if k < 32 then fA g0 202 k else fA g0 245 k) p → P (some v, g1)) {lv : List (Nat × pv)} (l0 : px_lg lv 0 = some (pvR 196)) : t_X d 209 0 lv [] g0 P := by
  have hS : vKS g0 g0 (fA g0 242) (fA g0 243) (fA g0 244) (fA g0 245) (fA g0 253) := S_0 hG
  refine t_0 vky_0 rfl (ld_a l0) ?_
  refine t_0 vky_1 rfl rfl ?_
  refine ts_z0 (by decide) vky_2 rfl yeo_196 hS wt_vKW_196_72 ygy_196_72 (by decide) ⟨by omega, by omega⟩ (by omega) (fun g1 hS1 => ?_)
  replace hS1 : vKS g0 g1 (fA g0 242) (fA g0 243) (fA g0 244) (fA g0 245) (fA g0 253) := hS1
  show t_X d 209 5 lv [] g1 P
  refine t_0 vky_5 rfl (ld_a l0) ?_
  refine t_0 vky_6 rfl (ld_a l0) ?_
  have r2 := cb_i (S_J hS1).1 yeo_196 (Nat.le_of_ble_eq_true rfl) rfl ygy_196_0
  refine t_0 vky_7 rfl (pq_cv yeo_196 rfl rfl) ?_
  show t_X d 209 10 lv [oI (cF g1 196 0), pvR 196] g1 P
  refine ts_f0 (by decide) vky_10 rfl yeo_196 hS1 wt_vKW_196_73 ygy_196_73 (by decide) ⟨by omega, by omega⟩ (fun g3 hS3 => ?_)
  replace hS3 : vKS g0 g3 (fA g0 242) (fA g0 243) (fA g0 244) (fA g0 245) (fA g0 253) := hS3
  show t_X d 209 13 lv [] g3 P
  refine t_0 vky_13 rfl (ld_a l0) ?_
  refine t_0 vky_14 rfl (ld_a l0) ?_
  have r4 := cb_i (S_J hS3).1 yeo_196 (Nat.le_of_ble_eq_true rfl) rfl ygy_196_1
  refine t_0 vky_15 rfl (pq_cv yeo_196 rfl rfl) ?_
  show t_X d 209 18 lv [oI (cF g3 196 1), pvR 196] g3 P
  refine ts_f0 (by decide) vky_18 rfl yeo_196 hS3 wt_vKW_196_74 ygy_196_74 (by decide) ⟨by omega, by omega⟩ (fun g5 hS5 => ?_)
  replace hS5 : vKS g0 g5 (fA g0 242) (fA g0 243) (fA g0 244) (fA g0 245) (fA g0 253) := hS5
  show t_X d 209 21 lv [] g5 P
  refine t_0 vky_21 rfl (ld_a l0) ?_
  refine t_0 vky_22 rfl (ld_a l0) ?_
  have r6 := cb_i (S_J hS5).1 yeo_196 (Nat.le_of_ble_eq_true rfl) rfl ygy_196_22
  refine t_0 vky_23 rfl (pq_cv yeo_196 rfl rfl) ?_
  show t_X d 209 26 lv [oI (cF g5 196 22), pvR 196] g5 P
  refine ts_f0 (by decide) vky_26 rfl yeo_196 hS5 wt_vKW_196_75 ygy_196_75 (by decide) ⟨by omega, by omega⟩ (fun g7 hS7 => ?_)
  replace hS7 : vKS g0 g7 (fA g0 242) (fA g0 243) (fA g0 244) (fA g0 245) (fA g0 253) := hS7
  show t_X d 209 29 lv [] g7 P
  refine t_0 vky_29 rfl (ld_a l0) ?_
  refine t_0 vky_30 rfl (ld_a l0) ?_
  have r8 := cb_i (S_J hS7).1 yeo_196 (Nat.le_of_ble_eq_true rfl) rfl ygy_196_23
  refine t_0 vky_31 rfl (pq_cv yeo_196 rfl rfl) ?_
  show t_X d 209 34 lv [oI (cF g7 196 23), pvR 196] g7 P
  refine ts_f0 (by decide) vky_34 rfl yeo_196 hS7 wt_vKW_196_76 ygy_196_76 (by decide) ⟨by omega, by omega⟩ (fun g9 hS9 => ?_)
  replace hS9 : vKS g0 g9 (fA g0 242) (fA g0 243) (fA g0 244) (fA g0 245) (fA g0 253) := hS9
  show t_X d 209 37 lv [] g9 P
  refine t_0 vky_37 rfl (ld_a l0) ?_
  refine t_0 vky_38 rfl (ycq_196_2 (S_J hS9).1) ?_
  show t_X d 209 41 lv [pvR 197] g9 P
  refine t_0 vky_41 rfl (ld_a l0) ?_
  refine t_0 vky_42 rfl (ycq_196_77 (S_J hS9).1) ?_
  show t_X d 209 45 lv [pvR 241, pvR 197] g9 P
  refine t_0 vky_45 rfl (pq_b (by decide)) ?_
  refine t_3 vky_47 rfl (ar := ([pvR 197, pvR 241, oI 42], [])) (pcal_s ⟨Or.inl rfl, rfl, Nat.le_of_ble_eq_true rfl⟩) ⟨by omega, Nat.le_of_ble_eq_true rfl, Nat.le_of_ble_eq_true rfl, rfl⟩ ?_
  refine cpm_u (e := 42) yez_241 yez_197 rfl rfl (by decide) wu_vKW_241 ygu_241 ygu_197 (by decide) (by decide) (by decide) (by decide) hS9 (fun g10 hS10 => ?_) rfl rfl rfl
  replace hS10 : vKS g0 g10 (fA g0 242) (fA g0 243) (fA g0 244) (fA g0 245) (fA g0 253) := hS10
  show t_X d 209 50 lv [] g10 P
  refine t_0 vky_50 rfl (ld_a l0) ?_
  refine t_0 vky_51 rfl (ycq_196_4 (S_J hS10).1) ?_
  show t_X d 209 54 lv [pvR 199] g10 P
  refine t_0 vky_54 rfl (ld_a l0) ?_
  refine t_0 vky_55 rfl (ycq_196_78 (S_J hS10).1) ?_
  show t_X d 209 58 lv [pvR 242, pvR 199] g10 P
  refine t_0 vky_58 rfl (pq_b (by decide)) ?_
  refine t_3 vky_60 rfl (ar := ([pvR 199, pvR 242, oI 32], [])) (pcal_s ⟨Or.inl rfl, rfl, Nat.le_of_ble_eq_true rfl⟩) ⟨by omega, Nat.le_of_ble_eq_true rfl, Nat.le_of_ble_eq_true rfl, rfl⟩ ?_
  refine cpm_t (n := 0) (e := 32) yez_242 yez_199 rfl rfl (by decide) wu_vKW_242 ygu_242 ygu_199 (by decide) (by decide) (by decide) rfl rfl (by decide) hS10 (fA_M (S_J hS10).2 wm_vKW_199) (S_a hS10 0 (Nat.le_of_ble_eq_true rfl)) (fun g11 hS11 => ?_) rfl rfl rfl
  replace hS11 : vKS g0 g11 (fun k : Nat => if k < 32 then fA g0 199 k else (fA g0 242) k) (fA g0 243) (fA g0 244) (fA g0 245) (fA g0 253) := hS11
  show t_X d 209 63 lv [] g11 P
  refine t_0 vky_63 rfl (ld_a l0) ?_
  refine t_0 vky_64 rfl (ycq_196_5 (S_J hS11).1) ?_
  show t_X d 209 67 lv [pvR 200] g11 P
  refine t_0 vky_67 rfl (ld_a l0) ?_
  refine t_0 vky_68 rfl (ycq_196_79 (S_J hS11).1) ?_
  show t_X d 209 71 lv [pvR 243, pvR 200] g11 P
  refine t_0 vky_71 rfl (pq_b (by decide)) ?_
  refine t_3 vky_73 rfl (ar := ([pvR 200, pvR 243, oI 32], [])) (pcal_s ⟨Or.inl rfl, rfl, Nat.le_of_ble_eq_true rfl⟩) ⟨by omega, Nat.le_of_ble_eq_true rfl, Nat.le_of_ble_eq_true rfl, rfl⟩ ?_
  refine cpm_t (n := 1) (e := 32) yez_243 yez_200 rfl rfl (by decide) wu_vKW_243 ygu_243 ygu_200 (by decide) (by decide) (by decide) rfl rfl (by decide) hS11 (fA_M (S_J hS11).2 wm_vKW_200) (S_a hS11 1 (Nat.le_of_ble_eq_true rfl)) (fun g12 hS12 => ?_) rfl rfl rfl
  replace hS12 : vKS g0 g12 (fun k : Nat => if k < 32 then fA g0 199 k else (fA g0 242) k) (fun k : Nat => if k < 32 then fA g0 200 k else (fA g0 243) k) (fA g0 244) (fA g0 245) (fA g0 253) := hS12
  show t_X d 209 76 lv [] g12 P
  refine t_0 vky_76 rfl (ld_a l0) ?_
  refine t_0 vky_77 rfl (ycq_196_6 (S_J hS12).1) ?_
  show t_X d 209 80 lv [pvR 201] g12 P
  refine t_0 vky_80 rfl (ld_a l0) ?_
  refine t_0 vky_81 rfl (ycq_196_80 (S_J hS12).1) ?_
  show t_X d 209 84 lv [pvR 244, pvR 201] g12 P
  refine t_0 vky_84 rfl (pq_b (by decide)) ?_
  refine t_3 vky_86 rfl (ar := ([pvR 201, pvR 244, oI 32], [])) (pcal_s ⟨Or.inl rfl, rfl, Nat.le_of_ble_eq_true rfl⟩) ⟨by omega, Nat.le_of_ble_eq_true rfl, Nat.le_of_ble_eq_true rfl, rfl⟩ ?_
  refine cpm_t (n := 2) (e := 32) yez_244 yez_201 rfl rfl (by decide) wu_vKW_244 ygu_244 ygu_201 (by decide) (by decide) (by decide) rfl rfl (by decide) hS12 (fA_M (S_J hS12).2 wm_vKW_201) (S_a hS12 2 (Nat.le_of_ble_eq_true rfl)) (fun g13 hS13 => ?_) rfl rfl rfl
  replace hS13 : vKS g0 g13 (fun k : Nat => if k < 32 then fA g0 199 k else (fA g0 242) k) (fun k : Nat => if k < 32 then fA g0 200 k else (fA g0 243) k) (fun k : Nat => if k < 32 then fA g0 201 k else (fA g0 244) k) (fA g0 245) (fA g0 253) := hS13
  show t_X d 209 89 lv [] g13 P
  refine t_0 vky_89 rfl (ld_a l0) ?_
  refine t_0 vky_90 rfl (ycq_196_7 (S_J hS13).1) ?_
  show t_X d 209 93 lv [pvR 202] g13 P
  refine t_0 vky_93 rfl (ld_a l0) ?_
  refine t_0 vky_94 rfl (ycq_196_81 (S_J hS13).1) ?_
  show t_X d 209 97 lv [pvR 245, pvR 202] g13 P
  refine t_0 vky_97 rfl (pq_b (by decide)) ?_
  refine t_3 vky_99 rfl (ar := ([pvR 202, pvR 245, oI 32], [])) (pcal_s ⟨Or.inl rfl, rfl, Nat.le_of_ble_eq_true rfl⟩) ⟨by omega, Nat.le_of_ble_eq_true rfl, Nat.le_of_ble_eq_true rfl, rfl⟩ ?_
  refine cpm_t (n := 3) (e := 32) yez_245 yez_202 rfl rfl (by decide) wu_vKW_245 ygu_245 ygu_202 (by decide) (by decide) (by decide) rfl rfl (by decide) hS13 (fA_M (S_J hS13).2 wm_vKW_202) (S_a hS13 3 (Nat.le_of_ble_eq_true rfl)) (fun g14 hS14 => ?_) rfl rfl rfl
  replace hS14 : vKS g0 g14 (fun k : Nat => if k < 32 then fA g0 199 k else (fA g0 242) k) (fun k : Nat => if k < 32 then fA g0 200 k else (fA g0 243) k) (fun k : Nat => if k < 32 then fA g0 201 k else (fA g0 244) k) (fun k : Nat => if k < 32 then fA g0 202 k else (fA g0 245) k) (fA g0 253) := hS14
  show t_X d 209 102 lv [] g14 P
  refine t_0 vky_102 rfl (ld_a l0) ?_
  refine t_0 vky_103 rfl (ycq_196_8 (S_J hS14).1) ?_
  show t_X d 209 106 lv [pvR 203] g14 P
  refine t_0 vky_106 rfl (ld_a l0) ?_
  refine t_0 vky_107 rfl (ycq_196_82 (S_J hS14).1) ?_
  show t_X d 209 110 lv [pvR 246, pvR 203] g14 P
  refine t_0 vky_110 rfl (pq_b (by decide)) ?_
  refine t_3 vky_112 rfl (ar := ([pvR 203, pvR 246, oI 8], [])) (pcal_s ⟨Or.inl rfl, rfl, Nat.le_of_ble_eq_true rfl⟩) ⟨by omega, Nat.le_of_ble_eq_true rfl, Nat.le_of_ble_eq_true rfl, rfl⟩ ?_
  refine cpm_u (e := 8) yez_246 yez_203 rfl rfl (by decide) wu_vKW_246 ygu_246 ygu_203 (by decide) (by decide) (by decide) (by decide) hS14 (fun g15 hS15 => ?_) rfl rfl rfl
  replace hS15 : vKS g0 g15 (fun k : Nat => if k < 32 then fA g0 199 k else (fA g0 242) k) (fun k : Nat => if k < 32 then fA g0 200 k else (fA g0 243) k) (fun k : Nat => if k < 32 then fA g0 201 k else (fA g0 244) k) (fun k : Nat => if k < 32 then fA g0 202 k else (fA g0 245) k) (fA g0 253) := hS15
  show t_X d 209 115 lv [] g15 P
  refine t_0 vky_115 rfl (ld_a l0) ?_
  refine t_0 vky_116 rfl (ycq_196_9 (S_J hS15).1) ?_
  show t_X d 209 119 lv [pvR 204] g15 P
  refine t_0 vky_119 rfl (ld_a l0) ?_
  refine t_0 vky_120 rfl (ycq_196_83 (S_J hS15).1) ?_
  show t_X d 209 123 lv [pvR 247, pvR 204] g15 P
  refine t_0 vky_123 rfl (pq_b (by decide)) ?_
  refine t_3 vky_125 rfl (ar := ([pvR 204, pvR 247, oI 8], [])) (pcal_s ⟨Or.inl rfl, rfl, Nat.le_of_ble_eq_true rfl⟩) ⟨by omega, Nat.le_of_ble_eq_true rfl, Nat.le_of_ble_eq_true rfl, rfl⟩ ?_
  refine cpm_u (e := 8) yez_247 yez_204 rfl rfl (by decide) wu_vKW_247 ygu_247 ygu_204 (by decide) (by decide) (by decide) (by decide) hS15 (fun g16 hS16 => ?_) rfl rfl rfl
  replace hS16 : vKS g0 g16 (fun k : Nat => if k < 32 then fA g0 199 k else (fA g0 242) k) (fun k : Nat => if k < 32 then fA g0 200 k else (fA g0 243) k) (fun k : Nat => if k < 32 then fA g0 201 k else (fA g0 244) k) (fun k : Nat => if k < 32 then fA g0 202 k else (fA g0 245) k) (fA g0 253) := hS16
  show t_X d 209 128 lv [] g16 P
  refine t_0 vky_128 rfl (ld_a l0) ?_
  refine t_0 vky_129 rfl (ycq_196_10 (S_J hS16).1) ?_
  show t_X d 209 132 lv [pvR 205] g16 P
  refine t_0 vky_132 rfl (ld_a l0) ?_
  refine t_0 vky_133 rfl (ycq_196_84 (S_J hS16).1) ?_
  show t_X d 209 136 lv [pvR 248, pvR 205] g16 P
  refine t_0 vky_136 rfl (pq_b (by decide)) ?_
  refine t_3 vky_138 rfl (ar := ([pvR 205, pvR 248, oI 32], [])) (pcal_s ⟨Or.inl rfl, rfl, Nat.le_of_ble_eq_true rfl⟩) ⟨by omega, Nat.le_of_ble_eq_true rfl, Nat.le_of_ble_eq_true rfl, rfl⟩ ?_
  refine cpm_u (e := 32) yez_248 yez_205 rfl rfl (by decide) wu_vKW_248 ygu_248 ygu_205 (by decide) (by decide) (by decide) (by decide) hS16 (fun g17 hS17 => ?_) rfl rfl rfl
  replace hS17 : vKS g0 g17 (fun k : Nat => if k < 32 then fA g0 199 k else (fA g0 242) k) (fun k : Nat => if k < 32 then fA g0 200 k else (fA g0 243) k) (fun k : Nat => if k < 32 then fA g0 201 k else (fA g0 244) k) (fun k : Nat => if k < 32 then fA g0 202 k else (fA g0 245) k) (fA g0 253) := hS17
  show t_X d 209 141 lv [] g17 P
  refine t_0 vky_141 rfl (ld_a l0) ?_
  refine t_0 vky_142 rfl (ycq_196_11 (S_J hS17).1) ?_
  show t_X d 209 145 lv [pvR 206] g17 P
  refine t_0 vky_145 rfl (ld_a l0) ?_
  refine t_0 vky_146 rfl (ycq_196_85 (S_J hS17).1) ?_
  show t_X d 209 149 lv [pvR 249, pvR 206] g17 P
  refine t_0 vky_149 rfl (pq_b (by decide)) ?_
  refine t_3 vky_151 rfl (ar := ([pvR 206, pvR 249, oI 24], [])) (pcal_s ⟨Or.inl rfl, rfl, Nat.le_of_ble_eq_true rfl⟩) ⟨by omega, Nat.le_of_ble_eq_true rfl, Nat.le_of_ble_eq_true rfl, rfl⟩ ?_
  refine cpm_u (e := 24) yez_249 yez_206 rfl rfl (by decide) wu_vKW_249 ygu_249 ygu_206 (by decide) (by decide) (by decide) (by decide) hS17 (fun g18 hS18 => ?_) rfl rfl rfl
  replace hS18 : vKS g0 g18 (fun k : Nat => if k < 32 then fA g0 199 k else (fA g0 242) k) (fun k : Nat => if k < 32 then fA g0 200 k else (fA g0 243) k) (fun k : Nat => if k < 32 then fA g0 201 k else (fA g0 244) k) (fun k : Nat => if k < 32 then fA g0 202 k else (fA g0 245) k) (fA g0 253) := hS18
  show t_X d 209 154 lv [] g18 P
  refine t_0 vky_154 rfl (ld_a l0) ?_
  refine t_0 vky_155 rfl (ycq_196_12 (S_J hS18).1) ?_
  show t_X d 209 158 lv [pvR 207] g18 P
  refine t_0 vky_158 rfl (ld_a l0) ?_
  refine t_0 vky_159 rfl (ycq_196_86 (S_J hS18).1) ?_
  show t_X d 209 162 lv [pvR 250, pvR 207] g18 P
  refine t_0 vky_162 rfl (pq_b (by decide)) ?_
  refine t_3 vky_164 rfl (ar := ([pvR 207, pvR 250, oI 24], [])) (pcal_s ⟨Or.inl rfl, rfl, Nat.le_of_ble_eq_true rfl⟩) ⟨by omega, Nat.le_of_ble_eq_true rfl, Nat.le_of_ble_eq_true rfl, rfl⟩ ?_
  refine cpm_u (e := 24) yez_250 yez_207 rfl rfl (by decide) wu_vKW_250 ygu_250 ygu_207 (by decide) (by decide) (by decide) (by decide) hS18 (fun g19 hS19 => ?_) rfl rfl rfl
  replace hS19 : vKS g0 g19 (fun k : Nat => if k < 32 then fA g0 199 k else (fA g0 242) k) (fun k : Nat => if k < 32 then fA g0 200 k else (fA g0 243) k) (fun k : Nat => if k < 32 then fA g0 201 k else (fA g0 244) k) (fun k : Nat => if k < 32 then fA g0 202 k else (fA g0 245) k) (fA g0 253) := hS19
  show t_X d 209 167 lv [] g19 P
  refine t_0 vky_167 rfl (ld_a l0) ?_
  refine t_0 vky_168 rfl (ycq_196_13 (S_J hS19).1) ?_
  show t_X d 209 171 lv [pvR 208] g19 P
  refine t_0 vky_171 rfl (ld_a l0) ?_
  refine t_0 vky_172 rfl (ycq_196_87 (S_J hS19).1) ?_
  show t_X d 209 175 lv [pvR 251, pvR 208] g19 P
  refine t_0 vky_175 rfl (pq_b (by decide)) ?_
  refine t_3 vky_177 rfl (ar := ([pvR 208, pvR 251, oI 12], [])) (pcal_s ⟨Or.inl rfl, rfl, Nat.le_of_ble_eq_true rfl⟩) ⟨by omega, Nat.le_of_ble_eq_true rfl, Nat.le_of_ble_eq_true rfl, rfl⟩ ?_
  refine cpm_u (e := 12) yez_251 yez_208 rfl rfl (by decide) wu_vKW_251 ygu_251 ygu_208 (by decide) (by decide) (by decide) (by decide) hS19 (fun g20 hS20 => ?_) rfl rfl rfl
  replace hS20 : vKS g0 g20 (fun k : Nat => if k < 32 then fA g0 199 k else (fA g0 242) k) (fun k : Nat => if k < 32 then fA g0 200 k else (fA g0 243) k) (fun k : Nat => if k < 32 then fA g0 201 k else (fA g0 244) k) (fun k : Nat => if k < 32 then fA g0 202 k else (fA g0 245) k) (fA g0 253) := hS20
  show t_X d 209 180 lv [] g20 P
  refine t_0 vky_180 rfl (ld_a l0) ?_
  refine t_0 vky_181 rfl (ycq_196_14 (S_J hS20).1) ?_
  show t_X d 209 184 lv [pvR 209] g20 P
  refine t_0 vky_184 rfl (ld_a l0) ?_
  refine t_0 vky_185 rfl (ycq_196_88 (S_J hS20).1) ?_
  show t_X d 209 188 lv [pvR 252, pvR 209] g20 P
  refine t_0 vky_188 rfl (pq_b (by decide)) ?_
  refine t_3 vky_190 rfl (ar := ([pvR 209, pvR 252, oI 12], [])) (pcal_s ⟨Or.inl rfl, rfl, Nat.le_of_ble_eq_true rfl⟩) ⟨by omega, Nat.le_of_ble_eq_true rfl, Nat.le_of_ble_eq_true rfl, rfl⟩ ?_
  refine cpm_u (e := 12) yez_252 yez_209 rfl rfl (by decide) wu_vKW_252 ygu_252 ygu_209 (by decide) (by decide) (by decide) (by decide) hS20 (fun g21 hS21 => ?_) rfl rfl rfl
  replace hS21 : vKS g0 g21 (fun k : Nat => if k < 32 then fA g0 199 k else (fA g0 242) k) (fun k : Nat => if k < 32 then fA g0 200 k else (fA g0 243) k) (fun k : Nat => if k < 32 then fA g0 201 k else (fA g0 244) k) (fun k : Nat => if k < 32 then fA g0 202 k else (fA g0 245) k) (fA g0 253) := hS21
  show t_X d 209 193 lv [] g21 P
  refine t_0 vky_193 rfl rfl ?_
  refine t_2 vky_194 rfl (w := (px_s1 lv 1 (oI 0), [])) rfl ?_
  replace l0 : px_lg (px_s1 lv 1 (oI 0)) 0 = some (pvR 196) := s1_ne (by decide) (fun _ => rfl) l0
  have l1 : px_lg (px_s1 lv 1 (oI 0)) 1 = some (oI 0) := s1_eq
  generalize px_s1 lv 1 (oI 0) = lv22 at l0 l1 ⊢
  show t_X d 209 195 lv22 [] g21 P
  refine qvk_loop hb (fun g9 p h1 hS9 lv l0 => ?_) 800 0 _ _ _ (by omega) (by omega) (fun i hi => absurd hi (by omega)) hS21 l0 l1
  show t_X d 209 220 lv [] g9 P
  refine t_0 vky_220 rfl (ld_a l0) ?_
  have r1 := cb_i (S_J hS9).1 yeo_196 (Nat.le_of_ble_eq_true rfl) rfl ygy_196_0
  refine t_0 vky_221 rfl (pq_cv yeo_196 rfl rfl) ?_
  show t_X d 209 224 lv [oI (cF g9 196 0)] g9 P
  refine t_3 vky_224 rfl (ar := ([oI (cF g9 196 0)], [])) (pcal_s ⟨Or.inl rfl, rfl, Nat.le_of_ble_eq_true rfl⟩) ⟨by omega, Nat.le_of_ble_eq_true rfl, Nat.le_of_ble_eq_true rfl, rfl⟩ ?_
  refine bi_run ?_ rfl
  show t_X d 209 227 lv [oI (ctl (bz (Int32.ofInt (cF g9 196 0))) 32)] g9 P
  refine t_5 vky_227 rfl rfl ?_
  exact hP _ _ _ h1 hS9
theorem qvu_loop {d : Nat} {g0 : pH} (hb : ∀ k : Nat, k < 800 → -128 ≤ fA g0 253 k ∧ fA g0 253 k ≤ 127) {s1 s2 s3 s4 : tC} {P : Option pv × pH → Prop} (hP : ∀ (g1 : pH) (p : tC), (∀ j : Nat, j < 800 → p j = fA g0 253 j) → vUS g0 g1 s1 s2 s3 s4 p → ∀ lv : List (Nat × pv), px_lg lv 0 = some (pvR 196) → t_X d 270 224 lv [] g1 P) : ∀ (n j : Nat) (p : tC) (g : pH) (lv : List (Nat × pv)), 800 - j ≤ n → j ≤ 800 → (∀ i : Nat, i < j → p i = fA g0 253 i) → vUS g0 g s1 s2 s3 s4 p → px_lg lv 0 = some (pvR 196) → px_lg lv 1 = some (oI (j : Int)) → t_X d 270 199 lv [] g P := by
  intro n
  induction n with
  | zero =>
    intro j p g lv h1 h2 hA hS l0 l1
    refine t_0 vuy_199 rfl (ld_i l1) ?_
    refine t_0 vuy_200 rfl (pq_s (by decide)) ?_
    refine tb_ge vuy_203 (by decide) ⟨by omega, by omega⟩ ⟨by omega, by omega⟩ (fun c1 => ?_) (fun c1 => absurd c1 (by omega))
    show t_X d 270 224 lv [] g P
    exact hP _ _ (fun i hi => hA i (by omega)) hS _ l0
  | succ n ih =>
    intro j p g lv h1 h2 hA hS l0 l1
    by_cases hj : j < 800
    · skip
      refine t_0 vuy_199 rfl (ld_i l1) ?_
      refine t_0 vuy_200 rfl (pq_s (by decide)) ?_
      refine tb_ge vuy_203 (by decide) ⟨by omega, by omega⟩ ⟨by omega, by omega⟩ (fun c1 => absurd c1 (by omega)) (fun c1 => ?_)
      show t_X d 270 206 lv [] g P
      refine t_0 vuy_206 rfl (ld_a l0) ?_
      refine t_0 vuy_207 rfl (ycq_196_15 (S_J hS).1) ?_
      show t_X d 270 210 lv [pvR 210] g P
      refine t_0 vuy_210 rfl (ld_i l1) ?_
      refine t_0 vuy_211 rfl (ld_a l0) ?_
      refine t_0 vuy_212 rfl (ycq_196_89 (S_J hS).1) ?_
      show t_X d 270 215 lv [pvR 253, oI ((j : Int)), pvR 210] g P
      refine t_0 vuy_215 rfl (ld_i l1) ?_
      refine t_0 vuy_216 rfl (pq_by yez_253 rfl ⟨by omega, by omega⟩ (fA_M (S_J hS).2 wm_vUW_253 : fA g 253 = fA g0 253)) ?_
      show t_X d 270 217 lv [oI ((fA g0 253) j), oI ((j : Int)), pvR 210] g P
      show t_X d 270 217 lv [oI ((fA g0 253) j), oI ((j : Int)), pvR 210] g P
      have q9 := hb j hj
      refine ts_y (n := 4) rfl rfl (by decide) vuy_217 hS yez_210 rfl wu_vUW_210 ygu_210 ⟨by omega, by omega⟩ ⟨by omega, by omega⟩ (fun g2 hS2 => ?_)
      replace hS2 : vUS g0 g2 s1 s2 s3 s4 (updI p (j : Int).toNat ((fA g0 253) j)) := hS2
      show t_X d 270 218 lv [] g2 P
      refine t_2 vuy_218 rfl (w := (px_s1 lv 1 (oI ((j : Int) + 1)), [])) (pq_inc l1 (by decide)) ?_
      replace l0 : px_lg (px_s1 lv 1 (oI ((j : Int) + 1))) 0 = some (pvR 196) := s1_ne (by decide) (fun _ => rfl) l0
      have l1 : px_lg (px_s1 lv 1 (oI ((j : Int) + 1))) 1 = some (oI ((j : Int) + 1)) := s1_eq
      generalize px_s1 lv 1 (oI ((j : Int) + 1)) = lv3 at l0 l1 ⊢
      show t_X d 270 221 lv3 [] g2 P
      refine t_1 vuy_221 rfl (pb_goto (pc := 221) (by decide)) ?_
      show t_X d 270 199 lv3 [] g2 P
      refine ih (j + 1) _ _ _ (by omega) (by omega) (fun i hi => ?_) hS2 l0 l1
      unfold updI; by_cases q : i = j
      · rw [if_pos (by omega), q]
      · rw [if_neg (by omega)]; exact hA i (by omega)
    · skip
      refine t_0 vuy_199 rfl (ld_i l1) ?_
      refine t_0 vuy_200 rfl (pq_s (by decide)) ?_
      refine tb_ge vuy_203 (by decide) ⟨by omega, by omega⟩ ⟨by omega, by omega⟩ (fun c1 => ?_) (fun c1 => absurd c1 (by omega))
      show t_X d 270 224 lv [] g P
      exact hP _ _ (fun i hi => hA i (by omega)) hS _ l0
set_option maxHeartbeats 4000000 in
theorem qvu_run {d : Nat} (hd : 6 ≤ d) {g0 : pH} (hG : g_I eG g0) (hb : ∀ k : Nat, k < 800 → -128 ≤ fA g0 253 k ∧ fA g0 253 k ≤ 127) {P : Option pv × pH → Prop} (hP : ∀ (v : pv) (g1 : pH) (p : tC), cF g0 196 72 ≠ 0 → (∀ j : Nat, j < 800 → p j = fA g0 253 j) → vUS g0 g1 (fun k : Nat => if k < 32 then fA g0 242 k else fA g0 199 k) (fun k : Nat => if k < 32 then fA g0 243 k else fA g0 200 k) (fun k : Nat => if k < 32 then fA g0 244 k else fA g0 201 k) (fun k : Nat => if k < 32 then fA g0 245 k else fA g0 202 k) p → P (some v, g1)) (hR : cF g0 196 72 = 0 → P (some (oI 0), g0)) {lv : List (Nat × pv)} (l0 : px_lg lv 0 = some (pvR 196)) : t_X d 270 0 lv [] g0 P := by
  have hS : vUS g0 g0 (fA g0 199) (fA g0 200) (fA g0 201) (fA g0 202) (fA g0 210) := S_0 hG
  refine t_0 vuy_0 rfl (ld_a l0) ?_
  have r1 := cb_z (S_J hS).1 yeo_196 (Nat.le_of_ble_eq_true rfl) rfl ygy_196_72
  refine t_0 vuy_1 rfl (pq_zv yeo_196 rfl rfl) ?_
  show t_X d 270 4 lv [oI (cF g0 196 72)] g0 P
  refine tz_ne vuy_4 (by decide) ⟨by omega, by omega⟩ (fun c2 => ?_) (fun c2 => ?_)
  · show t_X d 270 9 lv [] g0 P
    refine t_0 vuy_9 rfl (ld_a l0) ?_
    refine t_0 vuy_10 rfl (ld_a l0) ?_
    have r3 := cb_i (S_J hS).1 yeo_196 (Nat.le_of_ble_eq_true rfl) rfl ygy_196_73
    refine t_0 vuy_11 rfl (pq_cv yeo_196 rfl rfl) ?_
    show t_X d 270 14 lv [oI (cF g0 196 73), pvR 196] g0 P
    refine ts_f0 (by decide) vuy_14 rfl yeo_196 hS wt_vUW_196_0 ygy_196_0 (by decide) ⟨by omega, by omega⟩ (fun g4 hS4 => ?_)
    replace hS4 : vUS g0 g4 (fA g0 199) (fA g0 200) (fA g0 201) (fA g0 202) (fA g0 210) := hS4
    show t_X d 270 17 lv [] g4 P
    refine t_0 vuy_17 rfl (ld_a l0) ?_
    refine t_0 vuy_18 rfl (ld_a l0) ?_
    have r5 := cb_i (S_J hS4).1 yeo_196 (Nat.le_of_ble_eq_true rfl) rfl ygy_196_74
    refine t_0 vuy_19 rfl (pq_cv yeo_196 rfl rfl) ?_
    show t_X d 270 22 lv [oI (cF g4 196 74), pvR 196] g4 P
    refine ts_f0 (by decide) vuy_22 rfl yeo_196 hS4 wt_vUW_196_1 ygy_196_1 (by decide) ⟨by omega, by omega⟩ (fun g6 hS6 => ?_)
    replace hS6 : vUS g0 g6 (fA g0 199) (fA g0 200) (fA g0 201) (fA g0 202) (fA g0 210) := hS6
    show t_X d 270 25 lv [] g6 P
    refine t_0 vuy_25 rfl (ld_a l0) ?_
    refine t_0 vuy_26 rfl (ld_a l0) ?_
    have r7 := cb_i (S_J hS6).1 yeo_196 (Nat.le_of_ble_eq_true rfl) rfl ygy_196_75
    refine t_0 vuy_27 rfl (pq_cv yeo_196 rfl rfl) ?_
    show t_X d 270 30 lv [oI (cF g6 196 75), pvR 196] g6 P
    refine ts_f0 (by decide) vuy_30 rfl yeo_196 hS6 wt_vUW_196_22 ygy_196_22 (by decide) ⟨by omega, by omega⟩ (fun g8 hS8 => ?_)
    replace hS8 : vUS g0 g8 (fA g0 199) (fA g0 200) (fA g0 201) (fA g0 202) (fA g0 210) := hS8
    show t_X d 270 33 lv [] g8 P
    refine t_0 vuy_33 rfl (ld_a l0) ?_
    refine t_0 vuy_34 rfl (ld_a l0) ?_
    have r9 := cb_i (S_J hS8).1 yeo_196 (Nat.le_of_ble_eq_true rfl) rfl ygy_196_76
    refine t_0 vuy_35 rfl (pq_cv yeo_196 rfl rfl) ?_
    show t_X d 270 38 lv [oI (cF g8 196 76), pvR 196] g8 P
    refine ts_f0 (by decide) vuy_38 rfl yeo_196 hS8 wt_vUW_196_23 ygy_196_23 (by decide) ⟨by omega, by omega⟩ (fun g10 hS10 => ?_)
    replace hS10 : vUS g0 g10 (fA g0 199) (fA g0 200) (fA g0 201) (fA g0 202) (fA g0 210) := hS10
    show t_X d 270 41 lv [] g10 P
    refine t_0 vuy_41 rfl (ld_a l0) ?_
    refine t_0 vuy_42 rfl (ycq_196_77 (S_J hS10).1) ?_
    show t_X d 270 45 lv [pvR 241] g10 P
    refine t_0 vuy_45 rfl (ld_a l0) ?_
    refine t_0 vuy_46 rfl (ycq_196_2 (S_J hS10).1) ?_
    show t_X d 270 49 lv [pvR 197, pvR 241] g10 P
    refine t_0 vuy_49 rfl (pq_b (by decide)) ?_
    refine t_3 vuy_51 rfl (ar := ([pvR 241, pvR 197, oI 42], [])) (pcal_s ⟨Or.inl rfl, rfl, Nat.le_of_ble_eq_true rfl⟩) ⟨by omega, Nat.le_of_ble_eq_true rfl, Nat.le_of_ble_eq_true rfl, rfl⟩ ?_
    refine cpm_u (e := 42) yez_197 yez_241 rfl rfl (by decide) wu_vUW_197 ygu_197 ygu_241 (by decide) (by decide) (by decide) (by decide) hS10 (fun g11 hS11 => ?_) rfl rfl rfl
    replace hS11 : vUS g0 g11 (fA g0 199) (fA g0 200) (fA g0 201) (fA g0 202) (fA g0 210) := hS11
    show t_X d 270 54 lv [] g11 P
    refine t_0 vuy_54 rfl (ld_a l0) ?_
    refine t_0 vuy_55 rfl (ycq_196_78 (S_J hS11).1) ?_
    show t_X d 270 58 lv [pvR 242] g11 P
    refine t_0 vuy_58 rfl (ld_a l0) ?_
    refine t_0 vuy_59 rfl (ycq_196_4 (S_J hS11).1) ?_
    show t_X d 270 62 lv [pvR 199, pvR 242] g11 P
    refine t_0 vuy_62 rfl (pq_b (by decide)) ?_
    refine t_3 vuy_64 rfl (ar := ([pvR 242, pvR 199, oI 32], [])) (pcal_s ⟨Or.inl rfl, rfl, Nat.le_of_ble_eq_true rfl⟩) ⟨by omega, Nat.le_of_ble_eq_true rfl, Nat.le_of_ble_eq_true rfl, rfl⟩ ?_
    refine cpm_t (n := 0) (e := 32) yez_199 yez_242 rfl rfl (by decide) wu_vUW_199 ygu_199 ygu_242 (by decide) (by decide) (by decide) rfl rfl (by decide) hS11 (fA_M (S_J hS11).2 wm_vUW_242) (S_a hS11 0 (Nat.le_of_ble_eq_true rfl)) (fun g12 hS12 => ?_) rfl rfl rfl
    replace hS12 : vUS g0 g12 (fun k : Nat => if k < 32 then fA g0 242 k else (fA g0 199) k) (fA g0 200) (fA g0 201) (fA g0 202) (fA g0 210) := hS12
    show t_X d 270 67 lv [] g12 P
    refine t_0 vuy_67 rfl (ld_a l0) ?_
    refine t_0 vuy_68 rfl (ycq_196_79 (S_J hS12).1) ?_
    show t_X d 270 71 lv [pvR 243] g12 P
    refine t_0 vuy_71 rfl (ld_a l0) ?_
    refine t_0 vuy_72 rfl (ycq_196_5 (S_J hS12).1) ?_
    show t_X d 270 75 lv [pvR 200, pvR 243] g12 P
    refine t_0 vuy_75 rfl (pq_b (by decide)) ?_
    refine t_3 vuy_77 rfl (ar := ([pvR 243, pvR 200, oI 32], [])) (pcal_s ⟨Or.inl rfl, rfl, Nat.le_of_ble_eq_true rfl⟩) ⟨by omega, Nat.le_of_ble_eq_true rfl, Nat.le_of_ble_eq_true rfl, rfl⟩ ?_
    refine cpm_t (n := 1) (e := 32) yez_200 yez_243 rfl rfl (by decide) wu_vUW_200 ygu_200 ygu_243 (by decide) (by decide) (by decide) rfl rfl (by decide) hS12 (fA_M (S_J hS12).2 wm_vUW_243) (S_a hS12 1 (Nat.le_of_ble_eq_true rfl)) (fun g13 hS13 => ?_) rfl rfl rfl
    replace hS13 : vUS g0 g13 (fun k : Nat => if k < 32 then fA g0 242 k else (fA g0 199) k) (fun k : Nat => if k < 32 then fA g0 243 k else (fA g0 200) k) (fA g0 201) (fA g0 202) (fA g0 210) := hS13
    show t_X d 270 80 lv [] g13 P
    refine t_0 vuy_80 rfl (ld_a l0) ?_
    refine t_0 vuy_81 rfl (ycq_196_80 (S_J hS13).1) ?_
    show t_X d 270 84 lv [pvR 244] g13 P
    refine t_0 vuy_84 rfl (ld_a l0) ?_
    refine t_0 vuy_85 rfl (ycq_196_6 (S_J hS13).1) ?_
    show t_X d 270 88 lv [pvR 201, pvR 244] g13 P
    refine t_0 vuy_88 rfl (pq_b (by decide)) ?_
    refine t_3 vuy_90 rfl (ar := ([pvR 244, pvR 201, oI 32], [])) (pcal_s ⟨Or.inl rfl, rfl, Nat.le_of_ble_eq_true rfl⟩) ⟨by omega, Nat.le_of_ble_eq_true rfl, Nat.le_of_ble_eq_true rfl, rfl⟩ ?_
    refine cpm_t (n := 2) (e := 32) yez_201 yez_244 rfl rfl (by decide) wu_vUW_201 ygu_201 ygu_244 (by decide) (by decide) (by decide) rfl rfl (by decide) hS13 (fA_M (S_J hS13).2 wm_vUW_244) (S_a hS13 2 (Nat.le_of_ble_eq_true rfl)) (fun g14 hS14 => ?_) rfl rfl rfl
    replace hS14 : vUS g0 g14 (fun k : Nat => if k < 32 then fA g0 242 k else (fA g0 199) k) (fun k : Nat => if k < 32 then fA g0 243 k else (fA g0 200) k) (fun k : Nat => if k < 32 then fA g0 244 k else (fA g0 201) k) (fA g0 202) (fA g0 210) := hS14
    show t_X d 270 93 lv [] g14 P
    refine t_0 vuy_93 rfl (ld_a l0) ?_
    refine t_0 vuy_94 rfl (ycq_196_81 (S_J hS14).1) ?_
    show t_X d 270 97 lv [pvR 245] g14 P
    refine t_0 vuy_97 rfl (ld_a l0) ?_
    refine t_0 vuy_98 rfl (ycq_196_7 (S_J hS14).1) ?_
    show t_X d 270 101 lv [pvR 202, pvR 245] g14 P
    refine t_0 vuy_101 rfl (pq_b (by decide)) ?_
    refine t_3 vuy_103 rfl (ar := ([pvR 245, pvR 202, oI 32], [])) (pcal_s ⟨Or.inl rfl, rfl, Nat.le_of_ble_eq_true rfl⟩) ⟨by omega, Nat.le_of_ble_eq_true rfl, Nat.le_of_ble_eq_true rfl, rfl⟩ ?_
    refine cpm_t (n := 3) (e := 32) yez_202 yez_245 rfl rfl (by decide) wu_vUW_202 ygu_202 ygu_245 (by decide) (by decide) (by decide) rfl rfl (by decide) hS14 (fA_M (S_J hS14).2 wm_vUW_245) (S_a hS14 3 (Nat.le_of_ble_eq_true rfl)) (fun g15 hS15 => ?_) rfl rfl rfl
    replace hS15 : vUS g0 g15 (fun k : Nat => if k < 32 then fA g0 242 k else (fA g0 199) k) (fun k : Nat => if k < 32 then fA g0 243 k else (fA g0 200) k) (fun k : Nat => if k < 32 then fA g0 244 k else (fA g0 201) k) (fun k : Nat => if k < 32 then fA g0 245 k else (fA g0 202) k) (fA g0 210) := hS15
    show t_X d 270 106 lv [] g15 P
    refine t_0 vuy_106 rfl (ld_a l0) ?_
    refine t_0 vuy_107 rfl (ycq_196_82 (S_J hS15).1) ?_
    show t_X d 270 110 lv [pvR 246] g15 P
    refine t_0 vuy_110 rfl (ld_a l0) ?_
    refine t_0 vuy_111 rfl (ycq_196_8 (S_J hS15).1) ?_
    show t_X d 270 114 lv [pvR 203, pvR 246] g15 P
    refine t_0 vuy_114 rfl (pq_b (by decide)) ?_
    refine t_3 vuy_116 rfl (ar := ([pvR 246, pvR 203, oI 8], [])) (pcal_s ⟨Or.inl rfl, rfl, Nat.le_of_ble_eq_true rfl⟩) ⟨by omega, Nat.le_of_ble_eq_true rfl, Nat.le_of_ble_eq_true rfl, rfl⟩ ?_
    refine cpm_u (e := 8) yez_203 yez_246 rfl rfl (by decide) wu_vUW_203 ygu_203 ygu_246 (by decide) (by decide) (by decide) (by decide) hS15 (fun g16 hS16 => ?_) rfl rfl rfl
    replace hS16 : vUS g0 g16 (fun k : Nat => if k < 32 then fA g0 242 k else (fA g0 199) k) (fun k : Nat => if k < 32 then fA g0 243 k else (fA g0 200) k) (fun k : Nat => if k < 32 then fA g0 244 k else (fA g0 201) k) (fun k : Nat => if k < 32 then fA g0 245 k else (fA g0 202) k) (fA g0 210) := hS16
    show t_X d 270 119 lv [] g16 P
    refine t_0 vuy_119 rfl (ld_a l0) ?_
    refine t_0 vuy_120 rfl (ycq_196_83 (S_J hS16).1) ?_
    show t_X d 270 123 lv [pvR 247] g16 P
    refine t_0 vuy_123 rfl (ld_a l0) ?_
    refine t_0 vuy_124 rfl (ycq_196_9 (S_J hS16).1) ?_
    show t_X d 270 127 lv [pvR 204, pvR 247] g16 P
    refine t_0 vuy_127 rfl (pq_b (by decide)) ?_
    refine t_3 vuy_129 rfl (ar := ([pvR 247, pvR 204, oI 8], [])) (pcal_s ⟨Or.inl rfl, rfl, Nat.le_of_ble_eq_true rfl⟩) ⟨by omega, Nat.le_of_ble_eq_true rfl, Nat.le_of_ble_eq_true rfl, rfl⟩ ?_
    refine cpm_u (e := 8) yez_204 yez_247 rfl rfl (by decide) wu_vUW_204 ygu_204 ygu_247 (by decide) (by decide) (by decide) (by decide) hS16 (fun g17 hS17 => ?_) rfl rfl rfl
    replace hS17 : vUS g0 g17 (fun k : Nat => if k < 32 then fA g0 242 k else (fA g0 199) k) (fun k : Nat => if k < 32 then fA g0 243 k else (fA g0 200) k) (fun k : Nat => if k < 32 then fA g0 244 k else (fA g0 201) k) (fun k : Nat => if k < 32 then fA g0 245 k else (fA g0 202) k) (fA g0 210) := hS17
    show t_X d 270 132 lv [] g17 P
    refine t_0 vuy_132 rfl (ld_a l0) ?_
    refine t_0 vuy_133 rfl (ycq_196_84 (S_J hS17).1) ?_
    show t_X d 270 136 lv [pvR 248] g17 P
    refine t_0 vuy_136 rfl (ld_a l0) ?_
    refine t_0 vuy_137 rfl (ycq_196_10 (S_J hS17).1) ?_
    show t_X d 270 140 lv [pvR 205, pvR 248] g17 P
    refine t_0 vuy_140 rfl (pq_b (by decide)) ?_
    refine t_3 vuy_142 rfl (ar := ([pvR 248, pvR 205, oI 32], [])) (pcal_s ⟨Or.inl rfl, rfl, Nat.le_of_ble_eq_true rfl⟩) ⟨by omega, Nat.le_of_ble_eq_true rfl, Nat.le_of_ble_eq_true rfl, rfl⟩ ?_
    refine cpm_u (e := 32) yez_205 yez_248 rfl rfl (by decide) wu_vUW_205 ygu_205 ygu_248 (by decide) (by decide) (by decide) (by decide) hS17 (fun g18 hS18 => ?_) rfl rfl rfl
    replace hS18 : vUS g0 g18 (fun k : Nat => if k < 32 then fA g0 242 k else (fA g0 199) k) (fun k : Nat => if k < 32 then fA g0 243 k else (fA g0 200) k) (fun k : Nat => if k < 32 then fA g0 244 k else (fA g0 201) k) (fun k : Nat => if k < 32 then fA g0 245 k else (fA g0 202) k) (fA g0 210) := hS18
    show t_X d 270 145 lv [] g18 P
    refine t_0 vuy_145 rfl (ld_a l0) ?_
    refine t_0 vuy_146 rfl (ycq_196_85 (S_J hS18).1) ?_
    show t_X d 270 149 lv [pvR 249] g18 P
    refine t_0 vuy_149 rfl (ld_a l0) ?_
    refine t_0 vuy_150 rfl (ycq_196_11 (S_J hS18).1) ?_
    show t_X d 270 153 lv [pvR 206, pvR 249] g18 P
    refine t_0 vuy_153 rfl (pq_b (by decide)) ?_
    refine t_3 vuy_155 rfl (ar := ([pvR 249, pvR 206, oI 24], [])) (pcal_s ⟨Or.inl rfl, rfl, Nat.le_of_ble_eq_true rfl⟩) ⟨by omega, Nat.le_of_ble_eq_true rfl, Nat.le_of_ble_eq_true rfl, rfl⟩ ?_
    refine cpm_u (e := 24) yez_206 yez_249 rfl rfl (by decide) wu_vUW_206 ygu_206 ygu_249 (by decide) (by decide) (by decide) (by decide) hS18 (fun g19 hS19 => ?_) rfl rfl rfl
    replace hS19 : vUS g0 g19 (fun k : Nat => if k < 32 then fA g0 242 k else (fA g0 199) k) (fun k : Nat => if k < 32 then fA g0 243 k else (fA g0 200) k) (fun k : Nat => if k < 32 then fA g0 244 k else (fA g0 201) k) (fun k : Nat => if k < 32 then fA g0 245 k else (fA g0 202) k) (fA g0 210) := hS19
    show t_X d 270 158 lv [] g19 P
    refine t_0 vuy_158 rfl (ld_a l0) ?_
    refine t_0 vuy_159 rfl (ycq_196_86 (S_J hS19).1) ?_
    show t_X d 270 162 lv [pvR 250] g19 P
    refine t_0 vuy_162 rfl (ld_a l0) ?_
    refine t_0 vuy_163 rfl (ycq_196_12 (S_J hS19).1) ?_
    show t_X d 270 166 lv [pvR 207, pvR 250] g19 P
    refine t_0 vuy_166 rfl (pq_b (by decide)) ?_
    refine t_3 vuy_168 rfl (ar := ([pvR 250, pvR 207, oI 24], [])) (pcal_s ⟨Or.inl rfl, rfl, Nat.le_of_ble_eq_true rfl⟩) ⟨by omega, Nat.le_of_ble_eq_true rfl, Nat.le_of_ble_eq_true rfl, rfl⟩ ?_
    refine cpm_u (e := 24) yez_207 yez_250 rfl rfl (by decide) wu_vUW_207 ygu_207 ygu_250 (by decide) (by decide) (by decide) (by decide) hS19 (fun g20 hS20 => ?_) rfl rfl rfl
    replace hS20 : vUS g0 g20 (fun k : Nat => if k < 32 then fA g0 242 k else (fA g0 199) k) (fun k : Nat => if k < 32 then fA g0 243 k else (fA g0 200) k) (fun k : Nat => if k < 32 then fA g0 244 k else (fA g0 201) k) (fun k : Nat => if k < 32 then fA g0 245 k else (fA g0 202) k) (fA g0 210) := hS20
    show t_X d 270 171 lv [] g20 P
    refine t_0 vuy_171 rfl (ld_a l0) ?_
    refine t_0 vuy_172 rfl (ycq_196_87 (S_J hS20).1) ?_
    show t_X d 270 175 lv [pvR 251] g20 P
    refine t_0 vuy_175 rfl (ld_a l0) ?_
    refine t_0 vuy_176 rfl (ycq_196_13 (S_J hS20).1) ?_
    show t_X d 270 179 lv [pvR 208, pvR 251] g20 P
    refine t_0 vuy_179 rfl (pq_b (by decide)) ?_
    refine t_3 vuy_181 rfl (ar := ([pvR 251, pvR 208, oI 12], [])) (pcal_s ⟨Or.inl rfl, rfl, Nat.le_of_ble_eq_true rfl⟩) ⟨by omega, Nat.le_of_ble_eq_true rfl, Nat.le_of_ble_eq_true rfl, rfl⟩ ?_
    refine cpm_u (e := 12) yez_208 yez_251 rfl rfl (by decide) wu_vUW_208 ygu_208 ygu_251 (by decide) (by decide) (by decide) (by decide) hS20 (fun g21 hS21 => ?_) rfl rfl rfl
    replace hS21 : vUS g0 g21 (fun k : Nat => if k < 32 then fA g0 242 k else (fA g0 199) k) (fun k : Nat => if k < 32 then fA g0 243 k else (fA g0 200) k) (fun k : Nat => if k < 32 then fA g0 244 k else (fA g0 201) k) (fun k : Nat => if k < 32 then fA g0 245 k else (fA g0 202) k) (fA g0 210) := hS21
    show t_X d 270 184 lv [] g21 P
    refine t_0 vuy_184 rfl (ld_a l0) ?_
    refine t_0 vuy_185 rfl (ycq_196_88 (S_J hS21).1) ?_
    show t_X d 270 188 lv [pvR 252] g21 P
    refine t_0 vuy_188 rfl (ld_a l0) ?_
    refine t_0 vuy_189 rfl (ycq_196_14 (S_J hS21).1) ?_
    show t_X d 270 192 lv [pvR 209, pvR 252] g21 P
    refine t_0 vuy_192 rfl (pq_b (by decide)) ?_
    refine t_3 vuy_194 rfl (ar := ([pvR 252, pvR 209, oI 12], [])) (pcal_s ⟨Or.inl rfl, rfl, Nat.le_of_ble_eq_true rfl⟩) ⟨by omega, Nat.le_of_ble_eq_true rfl, Nat.le_of_ble_eq_true rfl, rfl⟩ ?_
    refine cpm_u (e := 12) yez_209 yez_252 rfl rfl (by decide) wu_vUW_209 ygu_209 ygu_252 (by decide) (by decide) (by decide) (by decide) hS21 (fun g22 hS22 => ?_) rfl rfl rfl
    replace hS22 : vUS g0 g22 (fun k : Nat => if k < 32 then fA g0 242 k else (fA g0 199) k) (fun k : Nat => if k < 32 then fA g0 243 k else (fA g0 200) k) (fun k : Nat => if k < 32 then fA g0 244 k else (fA g0 201) k) (fun k : Nat => if k < 32 then fA g0 245 k else (fA g0 202) k) (fA g0 210) := hS22
    show t_X d 270 197 lv [] g22 P
    refine t_0 vuy_197 rfl rfl ?_
    refine t_2 vuy_198 rfl (w := (px_s1 lv 1 (oI 0), [])) rfl ?_
    replace l0 : px_lg (px_s1 lv 1 (oI 0)) 0 = some (pvR 196) := s1_ne (by decide) (fun _ => rfl) l0
    have l1 : px_lg (px_s1 lv 1 (oI 0)) 1 = some (oI 0) := s1_eq
    generalize px_s1 lv 1 (oI 0) = lv23 at l0 l1 ⊢
    show t_X d 270 199 lv23 [] g22 P
    refine qvu_loop hb (fun g9 p h1 hS9 lv l0 => ?_) 800 0 _ _ _ (by omega) (by omega) (fun i hi => absurd hi (by omega)) hS22 l0 l1
    show t_X d 270 224 lv [] g9 P
    refine t_0 vuy_224 rfl rfl ?_
    refine t_5 vuy_225 rfl rfl ?_
    exact hP _ _ _ (by omega) h1 hS9
  · show t_X d 270 7 lv [] g0 P
    refine t_0 vuy_7 rfl rfl ?_
    refine t_5 vuy_8 rfl rfl ?_
    exact hR (by omega)
theorem vmd_run {d : Nat} (hd : 3 ≤ d) {g0 : pH} (hG : g_I eG g0) {i b : Int} (hi : -2147483648 ≤ i ∧ i ≤ 2147483647) (hb : -2147483648 ≤ b ∧ b ≤ 2147483647) {P : Option pv × pH → Prop} (hA : ∀ m : Nat, m < 32 → i = m → 0 ≤ b ∧ b ≤ 99 → ∀ g1 : pH, vD g0 g1 (updI (fA g0 202) ((m : Int)).toNat b) → P (some (oI 1), g1)) (hR : P (some (oI 0), g0)) {lv : List (Nat × pv)} (l0 : px_lg lv 0 = some (pvR 196)) (l1 : px_lg lv 1 = some (oI i)) (l2 : px_lg lv 2 = some (oI b)) : t_X d 183 0 lv [] g0 P := by
  have hS : vD g0 g0 (fA g0 202) := S_0 hG
  refine t_0 vmd_0 rfl (ld_a l0) ?_
  refine t_0 vmd_1 rfl (ld_i l1) ?_
  refine t_3 vmd_2 rfl (ar := ([pvR 196, oI (i)], [])) (pcal_w (as := [oI (i)]) rfl rfl rfl yeo_196) ⟨by omega, Nat.le_of_ble_eq_true rfl, Nat.le_of_ble_eq_true rfl, rfl⟩ ?_
  refine it_run (by omega) (by omega) rfl rfl (fun m hm e1 c0 => ?_) (fun c0 => ?_)
  · subst e1
    show t_X d 183 5 lv [oI 1] g0 P
    refine tz_eq vmd_5 (by decide) ⟨by omega, by omega⟩ (fun c1 => absurd c1 (by omega)) (fun c1 => ?_)
    show t_X d 183 8 lv [] g0 P
    refine t_0 vmd_8 rfl (ld_i l2) ?_
    refine t_0 vmd_9 rfl rfl ?_
    refine t_0 vmd_10 rfl (pq_b (by decide)) ?_
    refine t_3 vmd_12 rfl (ar := ([oI (b), oI 0, oI 99], [])) (pcal_s ⟨Or.inl rfl, rfl, Nat.le_of_ble_eq_true rfl⟩) ⟨by omega, Nat.le_of_ble_eq_true rfl, Nat.le_of_ble_eq_true rfl, rfl⟩ ?_
    refine in_run ⟨by omega, by omega⟩ ⟨by omega, by omega⟩ ⟨by omega, by omega⟩ rfl rfl rfl (fun t2 => ?_) (fun t2 => ?_)
    · show t_X d 183 15 lv [oI 1] g0 P
      refine tz_ne vmd_15 (by decide) ⟨by omega, by omega⟩ (fun c3 => ?_) (fun c3 => absurd c3 (by omega))
      show t_X d 183 20 lv [] g0 P
      refine t_0 vmd_20 rfl (ld_a l0) ?_
      refine t_0 vmd_21 rfl (ycq_196_7 (S_J hS).1) ?_
      show t_X d 183 24 lv [pvR 202] g0 P
      refine t_0 vmd_24 rfl (ld_i l1) ?_
      refine t_0 vmd_25 rfl (ld_i l2) ?_
      refine ts_a (n := 0) rfl rfl (by decide) vmd_26 hS yez_202 rfl wu_vWd_202 ygu_202 (by decide) ⟨by omega, by omega⟩ ⟨by omega, by omega⟩ (fun g4 hS4 => ?_)
      replace hS4 : vD g0 g4 (updI (fA g0 202) (m : Int).toNat b) := hS4
      show t_X d 183 27 lv [] g4 P
      refine t_0 vmd_27 rfl rfl ?_
      refine t_5 vmd_28 rfl rfl ?_
      exact hA m hm rfl (by omega) _ hS4
    · show t_X d 183 15 lv [oI 0] g0 P
      refine tz_ne vmd_15 (by decide) ⟨by omega, by omega⟩ (fun c5 => absurd c5 (by omega)) (fun c5 => ?_)
      show t_X d 183 18 lv [] g0 P
      refine t_0 vmd_18 rfl rfl ?_
      refine t_5 vmd_19 rfl rfl ?_
      exact hR
  · show t_X d 183 5 lv [oI 0] g0 P
    refine tz_eq vmd_5 (by decide) ⟨by omega, by omega⟩ (fun c6 => ?_) (fun c6 => absurd c6 (by omega))
    show t_X d 183 18 lv [] g0 P
    refine t_0 vmd_18 rfl rfl ?_
    refine t_5 vmd_19 rfl rfl ?_
    exact hR
