/-! by hand: reckon, comesTo, byLaw (printed in part by wip/e2/bl.py) -/
theorem qbl_0 : xe_look (xc 173) 0 = some (.iconst 0, 1, 0, 0, 0) := by decide +kernel
theorem qbl_1 : xe_look (xc 173) 1 = some (.istore_n 3, 1, 0, 0, 0) := by decide +kernel
theorem qbl_2 : xe_look (xc 173) 2 = some (.iload_n 3, 1, 0, 0, 0) := by decide +kernel
theorem qbl_3 : xe_look (xc 173) 3 = some (.aload_n 0, 1, 0, 0, 0) := by decide +kernel
theorem qbl_4 : xe_look (xc 173) 4 = some (.getfield 362, 3, 12, 35, 1124) := by decide +kernel
theorem qbl_7 : xe_look (xc 173) 7 = some (.if_icmp .ge 82, 3, 0, 0, 0) := by decide +kernel
theorem qbl_10 : xe_look (xc 173) 10 = some (.aload_n 0, 1, 0, 0, 0) := by decide +kernel
theorem qbl_11 : xe_look (xc 173) 11 = some (.getfield 89, 3, 12, 43, 1125) := by decide +kernel
theorem qbl_14 : xe_look (xc 173) 14 = some (.iload_n 3, 1, 0, 0, 0) := by decide +kernel
theorem qbl_15 : xe_look (xc 173) 15 = some (.iaload, 1, 0, 0, 0) := by decide +kernel
theorem qbl_16 : xe_look (xc 173) 16 = some (.iload_n 1, 1, 0, 0, 0) := by decide +kernel
theorem qbl_17 : xe_look (xc 173) 17 = some (.if_icmp .ne 66, 3, 0, 0, 0) := by decide +kernel
theorem qbl_20 : xe_look (xc 173) 20 = some (.aload_n 0, 1, 0, 0, 0) := by decide +kernel
theorem qbl_21 : xe_look (xc 173) 21 = some (.aload_n 0, 1, 0, 0, 0) := by decide +kernel
theorem qbl_22 : xe_look (xc 173) 22 = some (.getfield 95, 3, 12, 45, 1126) := by decide +kernel
theorem qbl_25 : xe_look (xc 173) 25 = some (.iload_n 3, 1, 0, 0, 0) := by decide +kernel
theorem qbl_26 : xe_look (xc 173) 26 = some (.iaload, 1, 0, 0, 0) := by decide +kernel
theorem qbl_27 : xe_look (xc 173) 27 = some (.aload_n 0, 1, 0, 0, 0) := by decide +kernel
theorem qbl_28 : xe_look (xc 173) 28 = some (.getfield 98, 3, 12, 46, 1127) := by decide +kernel
theorem qbl_31 : xe_look (xc 173) 31 = some (.iload_n 3, 1, 0, 0, 0) := by decide +kernel
theorem qbl_32 : xe_look (xc 173) 32 = some (.iaload, 1, 0, 0, 0) := by decide +kernel
theorem qbl_33 : xe_look (xc 173) 33 = some (.invokevirtual 369, 3, 0, 178, 1128) := by decide +kernel
theorem qbl_36 : xe_look (xc 173) 36 = some (.iconst 1, 1, 0, 0, 0) := by decide +kernel
theorem qbl_37 : xe_look (xc 173) 37 = some (.if_icmp .eq 6, 3, 0, 0, 0) := by decide +kernel
theorem qbl_40 : xe_look (xc 173) 40 = some (.goto 43, 3, 0, 0, 0) := by decide +kernel
theorem qbl_43 : xe_look (xc 173) 43 = some (.aload_n 0, 1, 0, 0, 0) := by decide +kernel
theorem qbl_44 : xe_look (xc 173) 44 = some (.aload_n 0, 1, 0, 0, 0) := by decide +kernel
theorem qbl_45 : xe_look (xc 173) 45 = some (.getfield 92, 3, 12, 44, 1129) := by decide +kernel
theorem qbl_48 : xe_look (xc 173) 48 = some (.iload_n 3, 1, 0, 0, 0) := by decide +kernel
theorem qbl_49 : xe_look (xc 173) 49 = some (.iaload, 1, 0, 0, 0) := by decide +kernel
theorem qbl_50 : xe_look (xc 173) 50 = some (.aload_n 0, 1, 0, 0, 0) := by decide +kernel
theorem qbl_51 : xe_look (xc 173) 51 = some (.getfield 95, 3, 12, 45, 1126) := by decide +kernel
theorem qbl_54 : xe_look (xc 173) 54 = some (.iload_n 3, 1, 0, 0, 0) := by decide +kernel
theorem qbl_55 : xe_look (xc 173) 55 = some (.iaload, 1, 0, 0, 0) := by decide +kernel
theorem qbl_56 : xe_look (xc 173) 56 = some (.invokevirtual 369, 3, 0, 178, 1128) := by decide +kernel
theorem qbl_59 : xe_look (xc 173) 59 = some (.istore 4, 2, 0, 0, 0) := by decide +kernel
theorem qbl_61 : xe_look (xc 173) 61 = some (.iload 4, 2, 0, 0, 0) := by decide +kernel
theorem qbl_63 : xe_look (xc 173) 63 = some (.ifCond .ge 7, 3, 0, 0, 0) := by decide +kernel
theorem qbl_66 : xe_look (xc 173) 66 = some (.iconst 0, 1, 0, 0, 0) := by decide +kernel
theorem qbl_67 : xe_look (xc 173) 67 = some (.goto 15, 3, 0, 0, 0) := by decide +kernel
theorem qbl_70 : xe_look (xc 173) 70 = some (.iload 4, 2, 0, 0, 0) := by decide +kernel
theorem qbl_72 : xe_look (xc 173) 72 = some (.iload_n 2, 1, 0, 0, 0) := by decide +kernel
theorem qbl_73 : xe_look (xc 173) 73 = some (.if_icmp .le 7, 3, 0, 0, 0) := by decide +kernel
theorem qbl_76 : xe_look (xc 173) 76 = some (.iload_n 2, 1, 0, 0, 0) := by decide +kernel
theorem qbl_77 : xe_look (xc 173) 77 = some (.goto 5, 3, 0, 0, 0) := by decide +kernel
theorem qbl_80 : xe_look (xc 173) 80 = some (.iload 4, 2, 0, 0, 0) := by decide +kernel
theorem qbl_82 : xe_look (xc 173) 82 = some (.ireturn, 1, 0, 0, 0) := by decide +kernel
theorem qbl_83 : xe_look (xc 173) 83 = some (.iinc 3 1, 3, 0, 0, 0) := by decide +kernel
theorem qbl_86 : xe_look (xc 173) 86 = some (.goto (-84), 3, 0, 0, 0) := by decide +kernel
theorem qbl_89 : xe_look (xc 173) 89 = some (.iconst 0, 1, 0, 0, 0) := by decide +kernel
theorem qbl_90 : xe_look (xc 173) 90 = some (.ireturn, 1, 0, 0, 0) := by decide +kernel
theorem qct_0 : xe_look (xc 178) 0 = some (.iconst 0, 1, 0, 0, 0) := by decide +kernel
theorem qct_1 : xe_look (xc 178) 1 = some (.istore_n 3, 1, 0, 0, 0) := by decide +kernel
theorem qct_2 : xe_look (xc 178) 2 = some (.sipush 260, 3, 0, 0, 0) := by decide +kernel
theorem qct_5 : xe_look (xc 178) 5 = some (.iload_n 1, 1, 0, 0, 0) := by decide +kernel
theorem qct_6 : xe_look (xc 178) 6 = some (.sipush 260, 3, 0, 0, 0) := by decide +kernel
theorem qct_9 : xe_look (xc 178) 9 = some (.idiv, 1, 0, 0, 0) := by decide +kernel
theorem qct_10 : xe_look (xc 178) 10 = some (.imul, 1, 0, 0, 0) := by decide +kernel
theorem qct_11 : xe_look (xc 178) 11 = some (.istore 4, 2, 0, 0, 0) := by decide +kernel
theorem qct_13 : xe_look (xc 178) 13 = some (.iload_n 1, 1, 0, 0, 0) := by decide +kernel
theorem qct_14 : xe_look (xc 178) 14 = some (.istore 5, 2, 0, 0, 0) := by decide +kernel
theorem qct_16 : xe_look (xc 178) 16 = some (.iload 5, 2, 0, 0, 0) := by decide +kernel
theorem qct_18 : xe_look (xc 178) 18 = some (.iload_n 2, 1, 0, 0, 0) := by decide +kernel
theorem qct_19 : xe_look (xc 178) 19 = some (.if_icmp .ge 216, 3, 0, 0, 0) := by decide +kernel
theorem qct_22 : xe_look (xc 178) 22 = some (.aload_n 0, 1, 0, 0, 0) := by decide +kernel
theorem qct_23 : xe_look (xc 178) 23 = some (.getfield 86, 3, 12, 42, 1150) := by decide +kernel
theorem qct_26 : xe_look (xc 178) 26 = some (.iload 5, 2, 0, 0, 0) := by decide +kernel
theorem qct_28 : xe_look (xc 178) 28 = some (.iaload, 1, 0, 0, 0) := by decide +kernel
theorem qct_29 : xe_look (xc 178) 29 = some (.ldc_w 299, 3, 0, 2148532224, 1151) := by decide +kernel
theorem qct_32 : xe_look (xc 178) 32 = some (.idiv, 1, 0, 0, 0) := by decide +kernel
theorem qct_33 : xe_look (xc 178) 33 = some (.istore 6, 2, 0, 0, 0) := by decide +kernel
theorem qct_35 : xe_look (xc 178) 35 = some (.aload_n 0, 1, 0, 0, 0) := by decide +kernel
theorem qct_36 : xe_look (xc 178) 36 = some (.getfield 86, 3, 12, 42, 1150) := by decide +kernel
theorem qct_39 : xe_look (xc 178) 39 = some (.iload 5, 2, 0, 0, 0) := by decide +kernel
theorem qct_41 : xe_look (xc 178) 41 = some (.iaload, 1, 0, 0, 0) := by decide +kernel
theorem qct_42 : xe_look (xc 178) 42 = some (.ldc_w 299, 3, 0, 2148532224, 1151) := by decide +kernel
theorem qct_45 : xe_look (xc 178) 45 = some (.irem, 1, 0, 0, 0) := by decide +kernel
theorem qct_46 : xe_look (xc 178) 46 = some (.istore 7, 2, 0, 0, 0) := by decide +kernel
theorem qct_48 : xe_look (xc 178) 48 = some (.iload 5, 2, 0, 0, 0) := by decide +kernel
theorem qct_50 : xe_look (xc 178) 50 = some (.iconst 1, 1, 0, 0, 0) := by decide +kernel
theorem qct_51 : xe_look (xc 178) 51 = some (.iadd, 1, 0, 0, 0) := by decide +kernel
theorem qct_52 : xe_look (xc 178) 52 = some (.istore 5, 2, 0, 0, 0) := by decide +kernel
theorem qct_54 : xe_look (xc 178) 54 = some (.iload 6, 2, 0, 0, 0) := by decide +kernel
theorem qct_56 : xe_look (xc 178) 56 = some (.ifCond .eq 9, 3, 0, 0, 0) := by decide +kernel
theorem qct_59 : xe_look (xc 178) 59 = some (.iload 6, 2, 0, 0, 0) := by decide +kernel
theorem qct_61 : xe_look (xc 178) 61 = some (.iconst 1, 1, 0, 0, 0) := by decide +kernel
theorem qct_62 : xe_look (xc 178) 62 = some (.if_icmp .ne 33, 3, 0, 0, 0) := by decide +kernel
theorem qct_65 : xe_look (xc 178) 65 = some (.aload_n 0, 1, 0, 0, 0) := by decide +kernel
theorem qct_66 : xe_look (xc 178) 66 = some (.getfield 101, 3, 12, 47, 1152) := by decide +kernel
theorem qct_69 : xe_look (xc 178) 69 = some (.iload_n 3, 1, 0, 0, 0) := by decide +kernel
theorem qct_70 : xe_look (xc 178) 70 = some (.iload 6, 2, 0, 0, 0) := by decide +kernel
theorem qct_72 : xe_look (xc 178) 72 = some (.ifCond .ne 8, 3, 0, 0, 0) := by decide +kernel
theorem qct_75 : xe_look (xc 178) 75 = some (.iload 7, 2, 0, 0, 0) := by decide +kernel
theorem qct_77 : xe_look (xc 178) 77 = some (.goto 10, 3, 0, 0, 0) := by decide +kernel
theorem qct_80 : xe_look (xc 178) 80 = some (.aload_n 0, 1, 0, 0, 0) := by decide +kernel
theorem qct_81 : xe_look (xc 178) 81 = some (.getfield 104, 3, 12, 48, 1153) := by decide +kernel
theorem qct_84 : xe_look (xc 178) 84 = some (.iload 7, 2, 0, 0, 0) := by decide +kernel
theorem qct_86 : xe_look (xc 178) 86 = some (.iaload, 1, 0, 0, 0) := by decide +kernel
theorem qct_87 : xe_look (xc 178) 87 = some (.iastore, 1, 0, 0, 0) := by decide +kernel
theorem qct_88 : xe_look (xc 178) 88 = some (.iload_n 3, 1, 0, 0, 0) := by decide +kernel
theorem qct_89 : xe_look (xc 178) 89 = some (.iconst 1, 1, 0, 0, 0) := by decide +kernel
theorem qct_90 : xe_look (xc 178) 90 = some (.iadd, 1, 0, 0, 0) := by decide +kernel
theorem qct_91 : xe_look (xc 178) 91 = some (.istore_n 3, 1, 0, 0, 0) := by decide +kernel
theorem qct_92 : xe_look (xc 178) 92 = some (.goto 140, 3, 0, 0, 0) := by decide +kernel
theorem qct_95 : xe_look (xc 178) 95 = some (.iload 6, 2, 0, 0, 0) := by decide +kernel
theorem qct_97 : xe_look (xc 178) 97 = some (.bipush 10, 2, 0, 0, 0) := by decide +kernel
theorem qct_99 : xe_look (xc 178) 99 = some (.if_icmp .ne 24, 3, 0, 0, 0) := by decide +kernel
theorem qct_102 : xe_look (xc 178) 102 = some (.aload_n 0, 1, 0, 0, 0) := by decide +kernel
theorem qct_103 : xe_look (xc 178) 103 = some (.getfield 101, 3, 12, 47, 1152) := by decide +kernel
theorem qct_106 : xe_look (xc 178) 106 = some (.iload_n 3, 1, 0, 0, 0) := by decide +kernel
theorem qct_107 : xe_look (xc 178) 107 = some (.iconst 1, 1, 0, 0, 0) := by decide +kernel
theorem qct_108 : xe_look (xc 178) 108 = some (.isub, 1, 0, 0, 0) := by decide +kernel
theorem qct_109 : xe_look (xc 178) 109 = some (.iconst 1, 1, 0, 0, 0) := by decide +kernel
theorem qct_110 : xe_look (xc 178) 110 = some (.aload_n 0, 1, 0, 0, 0) := by decide +kernel
theorem qct_111 : xe_look (xc 178) 111 = some (.getfield 101, 3, 12, 47, 1152) := by decide +kernel
theorem qct_114 : xe_look (xc 178) 114 = some (.iload_n 3, 1, 0, 0, 0) := by decide +kernel
theorem qct_115 : xe_look (xc 178) 115 = some (.iconst 1, 1, 0, 0, 0) := by decide +kernel
theorem qct_116 : xe_look (xc 178) 116 = some (.isub, 1, 0, 0, 0) := by decide +kernel
theorem qct_117 : xe_look (xc 178) 117 = some (.iaload, 1, 0, 0, 0) := by decide +kernel
theorem qct_118 : xe_look (xc 178) 118 = some (.isub, 1, 0, 0, 0) := by decide +kernel
theorem qct_119 : xe_look (xc 178) 119 = some (.iastore, 1, 0, 0, 0) := by decide +kernel
theorem qct_120 : xe_look (xc 178) 120 = some (.goto 112, 3, 0, 0, 0) := by decide +kernel
theorem qct_123 : xe_look (xc 178) 123 = some (.iload 6, 2, 0, 0, 0) := by decide +kernel
theorem qct_125 : xe_look (xc 178) 125 = some (.bipush 11, 2, 0, 0, 0) := by decide +kernel
theorem qct_127 : xe_look (xc 178) 127 = some (.if_icmp .eq 10, 3, 0, 0, 0) := by decide +kernel
theorem qct_130 : xe_look (xc 178) 130 = some (.iload 6, 2, 0, 0, 0) := by decide +kernel
theorem qct_132 : xe_look (xc 178) 132 = some (.bipush 12, 2, 0, 0, 0) := by decide +kernel
theorem qct_134 : xe_look (xc 178) 134 = some (.if_icmp .ne 43, 3, 0, 0, 0) := by decide +kernel
theorem qct_137 : xe_look (xc 178) 137 = some (.aload_n 0, 1, 0, 0, 0) := by decide +kernel
theorem qct_138 : xe_look (xc 178) 138 = some (.getfield 101, 3, 12, 47, 1152) := by decide +kernel
theorem qct_141 : xe_look (xc 178) 141 = some (.iload_n 3, 1, 0, 0, 0) := by decide +kernel
theorem qct_142 : xe_look (xc 178) 142 = some (.iconst 1, 1, 0, 0, 0) := by decide +kernel
theorem qct_143 : xe_look (xc 178) 143 = some (.isub, 1, 0, 0, 0) := by decide +kernel
theorem qct_144 : xe_look (xc 178) 144 = some (.iaload, 1, 0, 0, 0) := by decide +kernel
theorem qct_145 : xe_look (xc 178) 145 = some (.iload 6, 2, 0, 0, 0) := by decide +kernel
theorem qct_147 : xe_look (xc 178) 147 = some (.bipush 12, 2, 0, 0, 0) := by decide +kernel
theorem qct_149 : xe_look (xc 178) 149 = some (.if_icmp .ne 7, 3, 0, 0, 0) := by decide +kernel
theorem qct_152 : xe_look (xc 178) 152 = some (.iconst 1, 1, 0, 0, 0) := by decide +kernel
theorem qct_153 : xe_look (xc 178) 153 = some (.goto 4, 3, 0, 0, 0) := by decide +kernel
theorem qct_156 : xe_look (xc 178) 156 = some (.iconst 0, 1, 0, 0, 0) := by decide +kernel
theorem qct_157 : xe_look (xc 178) 157 = some (.if_icmp .ne 13, 3, 0, 0, 0) := by decide +kernel
theorem qct_160 : xe_look (xc 178) 160 = some (.iload 4, 2, 0, 0, 0) := by decide +kernel
theorem qct_162 : xe_look (xc 178) 162 = some (.iload 7, 2, 0, 0, 0) := by decide +kernel
theorem qct_164 : xe_look (xc 178) 164 = some (.iadd, 1, 0, 0, 0) := by decide +kernel
theorem qct_165 : xe_look (xc 178) 165 = some (.istore 5, 2, 0, 0, 0) := by decide +kernel
theorem qct_167 : xe_look (xc 178) 167 = some (.goto 65, 3, 0, 0, 0) := by decide +kernel
theorem qct_170 : xe_look (xc 178) 170 = some (.iload_n 3, 1, 0, 0, 0) := by decide +kernel
theorem qct_171 : xe_look (xc 178) 171 = some (.iconst 1, 1, 0, 0, 0) := by decide +kernel
theorem qct_172 : xe_look (xc 178) 172 = some (.isub, 1, 0, 0, 0) := by decide +kernel
theorem qct_173 : xe_look (xc 178) 173 = some (.istore_n 3, 1, 0, 0, 0) := by decide +kernel
theorem qct_174 : xe_look (xc 178) 174 = some (.goto 58, 3, 0, 0, 0) := by decide +kernel
theorem qct_177 : xe_look (xc 178) 177 = some (.iload_n 3, 1, 0, 0, 0) := by decide +kernel
theorem qct_178 : xe_look (xc 178) 178 = some (.iconst 1, 1, 0, 0, 0) := by decide +kernel
theorem qct_179 : xe_look (xc 178) 179 = some (.isub, 1, 0, 0, 0) := by decide +kernel
theorem qct_180 : xe_look (xc 178) 180 = some (.istore_n 3, 1, 0, 0, 0) := by decide +kernel
theorem qct_181 : xe_look (xc 178) 181 = some (.iload 6, 2, 0, 0, 0) := by decide +kernel
theorem qct_183 : xe_look (xc 178) 183 = some (.iconst 5, 1, 0, 0, 0) := by decide +kernel
theorem qct_184 : xe_look (xc 178) 184 = some (.if_icmp .eq 10, 3, 0, 0, 0) := by decide +kernel
theorem qct_187 : xe_look (xc 178) 187 = some (.iload 6, 2, 0, 0, 0) := by decide +kernel
theorem qct_189 : xe_look (xc 178) 189 = some (.bipush 6, 2, 0, 0, 0) := by decide +kernel
theorem qct_191 : xe_look (xc 178) 191 = some (.if_icmp .ne 14, 3, 0, 0, 0) := by decide +kernel
theorem qct_194 : xe_look (xc 178) 194 = some (.aload_n 0, 1, 0, 0, 0) := by decide +kernel
theorem qct_195 : xe_look (xc 178) 195 = some (.getfield 101, 3, 12, 47, 1152) := by decide +kernel
theorem qct_198 : xe_look (xc 178) 198 = some (.iload_n 3, 1, 0, 0, 0) := by decide +kernel
theorem qct_199 : xe_look (xc 178) 199 = some (.iaload, 1, 0, 0, 0) := by decide +kernel
theorem qct_200 : xe_look (xc 178) 200 = some (.ifCond .ne 5, 3, 0, 0, 0) := by decide +kernel
theorem qct_203 : xe_look (xc 178) 203 = some (.iconst 0, 1, 0, 0, 0) := by decide +kernel
theorem qct_204 : xe_look (xc 178) 204 = some (.ireturn, 1, 0, 0, 0) := by decide +kernel
theorem qct_205 : xe_look (xc 178) 205 = some (.aload_n 0, 1, 0, 0, 0) := by decide +kernel
theorem qct_206 : xe_look (xc 178) 206 = some (.getfield 101, 3, 12, 47, 1152) := by decide +kernel
theorem qct_209 : xe_look (xc 178) 209 = some (.iload_n 3, 1, 0, 0, 0) := by decide +kernel
theorem qct_210 : xe_look (xc 178) 210 = some (.iconst 1, 1, 0, 0, 0) := by decide +kernel
theorem qct_211 : xe_look (xc 178) 211 = some (.isub, 1, 0, 0, 0) := by decide +kernel
theorem qct_212 : xe_look (xc 178) 212 = some (.iload 6, 2, 0, 0, 0) := by decide +kernel
theorem qct_214 : xe_look (xc 178) 214 = some (.aload_n 0, 1, 0, 0, 0) := by decide +kernel
theorem qct_215 : xe_look (xc 178) 215 = some (.getfield 101, 3, 12, 47, 1152) := by decide +kernel
theorem qct_218 : xe_look (xc 178) 218 = some (.iload_n 3, 1, 0, 0, 0) := by decide +kernel
theorem qct_219 : xe_look (xc 178) 219 = some (.iconst 1, 1, 0, 0, 0) := by decide +kernel
theorem qct_220 : xe_look (xc 178) 220 = some (.isub, 1, 0, 0, 0) := by decide +kernel
theorem qct_221 : xe_look (xc 178) 221 = some (.iaload, 1, 0, 0, 0) := by decide +kernel
theorem qct_222 : xe_look (xc 178) 222 = some (.aload_n 0, 1, 0, 0, 0) := by decide +kernel
theorem qct_223 : xe_look (xc 178) 223 = some (.getfield 101, 3, 12, 47, 1152) := by decide +kernel
theorem qct_226 : xe_look (xc 178) 226 = some (.iload_n 3, 1, 0, 0, 0) := by decide +kernel
theorem qct_227 : xe_look (xc 178) 227 = some (.iaload, 1, 0, 0, 0) := by decide +kernel
theorem qct_228 : xe_look (xc 178) 228 = some (.invokestatic 365, 3, 0, 242, 1154) := by decide +kernel
theorem qct_231 : xe_look (xc 178) 231 = some (.iastore, 1, 0, 0, 0) := by decide +kernel
theorem qct_232 : xe_look (xc 178) 232 = some (.goto (-216), 3, 0, 0, 0) := by decide +kernel
theorem qct_235 : xe_look (xc 178) 235 = some (.aload_n 0, 1, 0, 0, 0) := by decide +kernel
theorem qct_236 : xe_look (xc 178) 236 = some (.getfield 101, 3, 12, 47, 1152) := by decide +kernel
theorem qct_239 : xe_look (xc 178) 239 = some (.iconst 0, 1, 0, 0, 0) := by decide +kernel
theorem qct_240 : xe_look (xc 178) 240 = some (.iaload, 1, 0, 0, 0) := by decide +kernel
theorem qct_241 : xe_look (xc 178) 241 = some (.ireturn, 1, 0, 0, 0) := by decide +kernel
theorem qrk_0 : xe_look (xc 242) 0 = some (.iload_n 0, 1, 0, 0, 0) := by decide +kernel
theorem qrk_1 : xe_look (xc 242) 1 = some (.tableswitch 85 2 8 #[43, 47, 51, 55, 59, 63, 74], 43, 0, 0, 0) := by decide +kernel
theorem qrk_44 : xe_look (xc 242) 44 = some (.iload_n 1, 1, 0, 0, 0) := by decide +kernel
theorem qrk_45 : xe_look (xc 242) 45 = some (.iload_n 2, 1, 0, 0, 0) := by decide +kernel
theorem qrk_46 : xe_look (xc 242) 46 = some (.iadd, 1, 0, 0, 0) := by decide +kernel
theorem qrk_47 : xe_look (xc 242) 47 = some (.ireturn, 1, 0, 0, 0) := by decide +kernel
theorem qrk_48 : xe_look (xc 242) 48 = some (.iload_n 1, 1, 0, 0, 0) := by decide +kernel
theorem qrk_49 : xe_look (xc 242) 49 = some (.iload_n 2, 1, 0, 0, 0) := by decide +kernel
theorem qrk_50 : xe_look (xc 242) 50 = some (.isub, 1, 0, 0, 0) := by decide +kernel
theorem qrk_51 : xe_look (xc 242) 51 = some (.ireturn, 1, 0, 0, 0) := by decide +kernel
theorem qrk_52 : xe_look (xc 242) 52 = some (.iload_n 1, 1, 0, 0, 0) := by decide +kernel
theorem qrk_53 : xe_look (xc 242) 53 = some (.iload_n 2, 1, 0, 0, 0) := by decide +kernel
theorem qrk_54 : xe_look (xc 242) 54 = some (.imul, 1, 0, 0, 0) := by decide +kernel
theorem qrk_55 : xe_look (xc 242) 55 = some (.ireturn, 1, 0, 0, 0) := by decide +kernel
theorem qrk_56 : xe_look (xc 242) 56 = some (.iload_n 1, 1, 0, 0, 0) := by decide +kernel
theorem qrk_57 : xe_look (xc 242) 57 = some (.iload_n 2, 1, 0, 0, 0) := by decide +kernel
theorem qrk_58 : xe_look (xc 242) 58 = some (.idiv, 1, 0, 0, 0) := by decide +kernel
theorem qrk_59 : xe_look (xc 242) 59 = some (.ireturn, 1, 0, 0, 0) := by decide +kernel
theorem qrk_60 : xe_look (xc 242) 60 = some (.iload_n 1, 1, 0, 0, 0) := by decide +kernel
theorem qrk_61 : xe_look (xc 242) 61 = some (.iload_n 2, 1, 0, 0, 0) := by decide +kernel
theorem qrk_62 : xe_look (xc 242) 62 = some (.irem, 1, 0, 0, 0) := by decide +kernel
theorem qrk_63 : xe_look (xc 242) 63 = some (.ireturn, 1, 0, 0, 0) := by decide +kernel
theorem qrk_64 : xe_look (xc 242) 64 = some (.iload_n 1, 1, 0, 0, 0) := by decide +kernel
theorem qrk_65 : xe_look (xc 242) 65 = some (.iload_n 2, 1, 0, 0, 0) := by decide +kernel
theorem qrk_66 : xe_look (xc 242) 66 = some (.if_icmp .ge 7, 3, 0, 0, 0) := by decide +kernel
theorem qrk_69 : xe_look (xc 242) 69 = some (.iconst 1, 1, 0, 0, 0) := by decide +kernel
theorem qrk_70 : xe_look (xc 242) 70 = some (.goto 4, 3, 0, 0, 0) := by decide +kernel
theorem qrk_73 : xe_look (xc 242) 73 = some (.iconst 0, 1, 0, 0, 0) := by decide +kernel
theorem qrk_74 : xe_look (xc 242) 74 = some (.ireturn, 1, 0, 0, 0) := by decide +kernel
theorem qrk_75 : xe_look (xc 242) 75 = some (.iload_n 1, 1, 0, 0, 0) := by decide +kernel
theorem qrk_76 : xe_look (xc 242) 76 = some (.iload_n 2, 1, 0, 0, 0) := by decide +kernel
theorem qrk_77 : xe_look (xc 242) 77 = some (.if_icmp .le 7, 3, 0, 0, 0) := by decide +kernel
theorem qrk_80 : xe_look (xc 242) 80 = some (.iconst 1, 1, 0, 0, 0) := by decide +kernel
theorem qrk_81 : xe_look (xc 242) 81 = some (.goto 4, 3, 0, 0, 0) := by decide +kernel
theorem qrk_84 : xe_look (xc 242) 84 = some (.iconst 0, 1, 0, 0, 0) := by decide +kernel
theorem qrk_85 : xe_look (xc 242) 85 = some (.ireturn, 1, 0, 0, 0) := by decide +kernel
theorem qrk_86 : xe_look (xc 242) 86 = some (.iload_n 1, 1, 0, 0, 0) := by decide +kernel
theorem qrk_87 : xe_look (xc 242) 87 = some (.iload_n 2, 1, 0, 0, 0) := by decide +kernel
theorem qrk_88 : xe_look (xc 242) 88 = some (.if_icmp .ne 7, 3, 0, 0, 0) := by decide +kernel
theorem qrk_91 : xe_look (xc 242) 91 = some (.iconst 1, 1, 0, 0, 0) := by decide +kernel
theorem qrk_92 : xe_look (xc 242) 92 = some (.goto 4, 3, 0, 0, 0) := by decide +kernel
theorem qrk_95 : xe_look (xc 242) 95 = some (.iconst 0, 1, 0, 0, 0) := by decide +kernel
theorem qrk_96 : xe_look (xc 242) 96 = some (.ireturn, 1, 0, 0, 0) := by decide +kernel
theorem ga_227 : eG (cn 227) = ((-2147483648), 2147483647, []) := by decide +kernel
theorem gf_35 : eG (cn 196 + 35) = (0, 16, []) := by decide +kernel
def cSt (c : Int) (D : Nat → Nat) (k : Nat) (b : Int) : Prop := 0 ≤ c ∧ (((c / 1048576 = 0 ∨ (c / 1048576 = 1 ∧ c % 1048576 ≤ 10)) ∧ D (k + 1) = D k + 1) ∨ (c / 1048576 = 10 ∧ 1 ≤ D k ∧ D (k + 1) = D k) ∨ ((c / 1048576 = 11 ∨ c / 1048576 = 12) ∧ 1 ≤ D k ∧ D (k + 1) + 1 = D k ∧ (k : Int) < c % 1048576 ∧ c % 1048576 ≤ b ∧ D (c % 1048576).toNat = D k) ∨ (2 ≤ c / 1048576 ∧ c / 1048576 ≤ 9 ∧ 2 ≤ D k ∧ D (k + 1) + 1 = D k))
def cOK (c : Nat → Int) (D : Nat → Nat) (a b : Int) : Prop := 0 ≤ a ∧ a ≤ b ∧ b ≤ 250 ∧ D a.toNat = 0 ∧ ∀ k : Nat, a ≤ k → (k : Int) < b → cSt (c k) D k b ∧ (D k : Int) ≤ k - a
theorem reckon_run {d : Nat} {g : pH} {lv : List (Nat × pv)} {op : Int} {x y : Int32} {P : Option pv × pH → Prop} (ho : 2 ≤ op ∧ op ≤ 9) (hy : op = 5 ∨ op = 6 → ¬ y = 0) (l0 : px_lg lv 0 = some (oI op)) (l1 : px_lg lv 1 = some (.inl x)) (l2 : px_lg lv 2 = some (.inl y)) (hP : ∀ z : Int32, P (some (.inl z), g)) : t_X d 242 0 lv [] g P := by
  refine t_0 qrk_0 rfl (ld_i l0) ?_
  have h : op = 2 ∨ op = 3 ∨ op = 4 ∨ op = 5 ∨ op = 6 ∨ op = 7 ∨ op = 8 ∨ op = 9 := by omega
  rcases h with rfl | rfl | rfl | rfl | rfl | rfl | rfl | rfl
  · refine t_1 qrk_1 rfl (t := (44, [])) rfl ?_
    show t_X d 242 44 lv [] g P
    refine t_0 qrk_44 rfl (ld_i l1) ?_
    refine t_0 qrk_45 rfl (ld_i l2) ?_
    refine t_0 qrk_46 rfl rfl ?_
    refine t_5 qrk_47 rfl rfl ?_
    exact hP _
  · refine t_1 qrk_1 rfl (t := (48, [])) rfl ?_
    show t_X d 242 48 lv [] g P
    refine t_0 qrk_48 rfl (ld_i l1) ?_
    refine t_0 qrk_49 rfl (ld_i l2) ?_
    refine t_0 qrk_50 rfl rfl ?_
    refine t_5 qrk_51 rfl rfl ?_
    exact hP _
  · refine t_1 qrk_1 rfl (t := (52, [])) rfl ?_
    show t_X d 242 52 lv [] g P
    refine t_0 qrk_52 rfl (ld_i l1) ?_
    refine t_0 qrk_53 rfl (ld_i l2) ?_
    refine t_0 qrk_54 rfl rfl ?_
    refine t_5 qrk_55 rfl rfl ?_
    exact hP _
  · refine t_1 qrk_1 rfl (t := (56, [])) rfl ?_
    show t_X d 242 56 lv [] g P
    refine t_0 qrk_56 rfl (ld_i l1) ?_
    refine t_0 qrk_57 rfl (ld_i l2) ?_
    refine t_0 qrk_58 rfl (pidiv (hy (by omega))) ?_
    refine t_5 qrk_59 rfl rfl ?_
    exact hP _
  · refine t_1 qrk_1 rfl (t := (60, [])) rfl ?_
    show t_X d 242 60 lv [] g P
    refine t_0 qrk_60 rfl (ld_i l1) ?_
    refine t_0 qrk_61 rfl (ld_i l2) ?_
    refine t_0 qrk_62 rfl (pirem (hy (by omega))) ?_
    refine t_5 qrk_63 rfl rfl ?_
    exact hP _
  · refine t_1 qrk_1 rfl (t := (64, [])) rfl ?_
    show t_X d 242 64 lv [] g P
    refine t_0 qrk_64 rfl (ld_i l1) ?_
    refine t_0 qrk_65 rfl (ld_i l2) ?_
    by_cases k : x < y
    · refine t_1 qrk_66 rfl (pc_ge_f (pc := 66) (by decide) k) ?_
      show t_X d 242 69 lv [] g P
      refine t_0 qrk_69 rfl rfl ?_
      refine t_1 qrk_70 rfl (pb_goto (pc := 70) (by decide)) ?_
      refine t_5 qrk_74 rfl rfl ?_
      exact hP _
    · refine t_1 qrk_66 rfl (pc_ge_t (pc := 66) (by decide) k) ?_
      show t_X d 242 73 lv [] g P
      refine t_0 qrk_73 rfl rfl ?_
      refine t_5 qrk_74 rfl rfl ?_
      exact hP _
  · refine t_1 qrk_1 rfl (t := (75, [])) rfl ?_
    show t_X d 242 75 lv [] g P
    refine t_0 qrk_75 rfl (ld_i l1) ?_
    refine t_0 qrk_76 rfl (ld_i l2) ?_
    by_cases k : y < x
    · refine t_1 qrk_77 rfl (pc_le_f (pc := 77) (by decide) k) ?_
      show t_X d 242 80 lv [] g P
      refine t_0 qrk_80 rfl rfl ?_
      refine t_1 qrk_81 rfl (pb_goto (pc := 81) (by decide)) ?_
      refine t_5 qrk_85 rfl rfl ?_
      exact hP _
    · refine t_1 qrk_77 rfl (pc_le_t (pc := 77) (by decide) k) ?_
      show t_X d 242 84 lv [] g P
      refine t_0 qrk_84 rfl rfl ?_
      refine t_5 qrk_85 rfl rfl ?_
      exact hP _
  · refine t_1 qrk_1 rfl (t := (86, [])) rfl ?_
    show t_X d 242 86 lv [] g P
    refine t_0 qrk_86 rfl (ld_i l1) ?_
    refine t_0 qrk_87 rfl (ld_i l2) ?_
    by_cases k : x = y
    · refine t_1 qrk_88 rfl (pc_ne_f (pc := 88) (by decide) k) ?_
      show t_X d 242 91 lv [] g P
      refine t_0 qrk_91 rfl rfl ?_
      refine t_1 qrk_92 rfl (pb_goto (pc := 92) (by decide)) ?_
      refine t_5 qrk_96 rfl rfl ?_
      exact hP _
    · refine t_1 qrk_88 rfl (pc_ne_t (pc := 88) (by decide) k) ?_
      show t_X d 242 95 lv [] g P
      refine t_0 qrk_95 rfl rfl ?_
      refine t_5 qrk_96 rfl rfl ?_
      exact hP _
set_option maxHeartbeats 8000000 in
theorem ct_loop {d W : Nat} (hd : 1 ≤ d) (w_a227 : W.testBit (cn 227) = true) {h0 : pH} {c : Nat → Int} {a b : Int} {D : Nat → Nat} (hC : cOK c D a b) {P : Option pv × pH → Prop} (hP : ∀ (g : pH) (z : Int), -2147483648 ≤ z ∧ z ≤ 2147483647 → J_ W h0 g → P (some (oI z), g)) : ∀ (m k : Nat) (e n : Int) (g : pH) (lv : List (Nat × pv)), b - k ≤ m → a ≤ k → (k : Int) ≤ b → e = k → n = D k → J_ W h0 g → fA g 222 = c → px_lg lv 0 = some (pvR 196) → px_lg lv 2 = some (oI b) → px_lg lv 3 = some (oI n) → px_lg lv 4 = some (oI 0) → px_lg lv 5 = some (oI e) → t_X d 178 16 lv [] g P := by
  obtain ⟨hC1, hC2, hC3, hC4, hC5⟩ := hC
  intro m
  induction m with
  | zero =>
    intro k e n g lv hm hk1 hk2 he hn hJ hc l0 l2 l3 l4 l5
    subst he hn
    have hkb : (k : Int) = b := by omega
    refine t_0 qct_16 rfl (ld_i l5) ?_
    refine t_0 qct_18 rfl (ld_i l2) ?_
    refine tb_ge qct_19 (by decide) ⟨by omega, by omega⟩ ⟨by omega, by omega⟩ (fun c1 => ?_) (fun c1 => absurd c1 (by omega))
    show t_X d 178 235 lv [] g P
    refine t_0 qct_235 rfl (ld_a l0) ?_
    refine t_0 qct_236 rfl (ar_47 hJ.1) ?_
    refine t_0 qct_239 rfl rfl ?_
    refine t_0 qct_240 rfl (pq_ia (e := 0) el_227 rfl ⟨by omega, by omega⟩) ?_
    refine t_5 qct_241 rfl rfl ?_
    exact hP _ _ (fA_b _ _ _) hJ
  | succ m ih =>
    intro k e n g lv hm hk1 hk2 he hn hJ hc l0 l2 l3 l4 l5
    subst he hn
    have hS : (k : Int) < b → cSt (c k) D k b ∧ (D k : Int) ≤ k - a := hC5 k hk1
    have hk : fA g 222 k = c k := congrFun hc k
    by_cases hkb : (k : Int) < b
    · have hS2 := (hS hkb).2
      have hS1 : 0 ≤ c k ∧ (((c k / 1048576 = 0 ∨ (c k / 1048576 = 1 ∧ c k % 1048576 ≤ 10)) ∧ D (k + 1) = D k + 1) ∨ (c k / 1048576 = 10 ∧ 1 ≤ D k ∧ D (k + 1) = D k) ∨ ((c k / 1048576 = 11 ∨ c k / 1048576 = 12) ∧ 1 ≤ D k ∧ D (k + 1) + 1 = D k ∧ (k : Int) < c k % 1048576 ∧ c k % 1048576 ≤ b ∧ D (c k % 1048576).toNat = D k) ∨ (2 ≤ c k / 1048576 ∧ c k / 1048576 ≤ 9 ∧ 2 ≤ D k ∧ D (k + 1) + 1 = D k)) := (hS hkb).1
      rw [← hk] at hS1
      clear hS
      refine t_0 qct_16 rfl (ld_i l5) ?_
      refine t_0 qct_18 rfl (ld_i l2) ?_
      refine tb_ge qct_19 (by decide) ⟨by omega, by omega⟩ ⟨by omega, by omega⟩ (fun c1 => absurd c1 (by omega)) (fun c1 => ?_)
      show t_X d 178 22 lv [] g P
      refine t_0 qct_22 rfl (ld_a l0) ?_
      refine t_0 qct_23 rfl (ar_42 hJ.1) ?_
      refine t_0 qct_26 rfl (ld_i l5) ?_
      refine t_0 qct_28 rfl (pq_ia el_222 rfl ⟨by omega, by omega⟩) ?_
      show t_X d 178 29 lv [oI (fA g 222 k)] g P
      have r2 := fA_b g 222 k
      refine t_0 qct_29 rfl (pq_cw (n := 1048576) (by decide +kernel)) ?_
      refine t_0 qct_32 rfl (pq_div ⟨by omega, by omega⟩ ⟨by omega, by omega⟩) ?_
      refine t_2 qct_33 rfl (w := (px_s1 lv 6 (oI ((fA g 222 k) / 1048576)), [])) rfl ?_
      replace l0 : px_lg (px_s1 lv 6 (oI ((fA g 222 k) / 1048576))) 0 = some (pvR 196) := s1_ne (by decide) (fun _ => rfl) l0
      replace l2 : px_lg (px_s1 lv 6 (oI ((fA g 222 k) / 1048576))) 2 = some (oI (b)) := s1_ne (by decide) (fun _ => rfl) l2
      replace l3 : px_lg (px_s1 lv 6 (oI ((fA g 222 k) / 1048576))) 3 = some (oI ((D k : Int))) := s1_ne (by decide) (fun _ => rfl) l3
      replace l4 : px_lg (px_s1 lv 6 (oI ((fA g 222 k) / 1048576))) 4 = some (oI (0)) := s1_ne (by decide) (fun _ => rfl) l4
      replace l5 : px_lg (px_s1 lv 6 (oI ((fA g 222 k) / 1048576))) 5 = some (oI ((k : Int))) := s1_ne (by decide) (fun _ => rfl) l5
      have l6 : px_lg (px_s1 lv 6 (oI ((fA g 222 k) / 1048576))) 6 = some (oI ((fA g 222 k) / 1048576)) := s1_eq
      generalize px_s1 lv 6 (oI ((fA g 222 k) / 1048576)) = lv3 at l0 l2 l3 l4 l5 l6 ⊢
      show t_X d 178 35 lv3 [] g P
      refine t_0 qct_35 rfl (ld_a l0) ?_
      refine t_0 qct_36 rfl (ar_42 hJ.1) ?_
      refine t_0 qct_39 rfl (ld_i l5) ?_
      refine t_0 qct_41 rfl (pq_ia el_222 rfl ⟨by omega, by omega⟩) ?_
      show t_X d 178 42 lv3 [oI (fA g 222 k)] g P
      have r4 := fA_b g 222 k
      refine t_0 qct_42 rfl (pq_cw (n := 1048576) (by decide +kernel)) ?_
      refine t_0 qct_45 rfl (pq_rem ⟨by omega, by omega⟩ ⟨by omega, by omega⟩) ?_
      refine t_2 qct_46 rfl (w := (px_s1 lv3 7 (oI ((fA g 222 k) % 1048576)), [])) rfl ?_
      replace l0 : px_lg (px_s1 lv3 7 (oI ((fA g 222 k) % 1048576))) 0 = some (pvR 196) := s1_ne (by decide) (fun _ => rfl) l0
      replace l2 : px_lg (px_s1 lv3 7 (oI ((fA g 222 k) % 1048576))) 2 = some (oI (b)) := s1_ne (by decide) (fun _ => rfl) l2
      replace l3 : px_lg (px_s1 lv3 7 (oI ((fA g 222 k) % 1048576))) 3 = some (oI ((D k : Int))) := s1_ne (by decide) (fun _ => rfl) l3
      replace l4 : px_lg (px_s1 lv3 7 (oI ((fA g 222 k) % 1048576))) 4 = some (oI (0)) := s1_ne (by decide) (fun _ => rfl) l4
      replace l5 : px_lg (px_s1 lv3 7 (oI ((fA g 222 k) % 1048576))) 5 = some (oI ((k : Int))) := s1_ne (by decide) (fun _ => rfl) l5
      replace l6 : px_lg (px_s1 lv3 7 (oI ((fA g 222 k) % 1048576))) 6 = some (oI ((fA g 222 k) / 1048576)) := s1_ne (by decide) (fun _ => rfl) l6
      have l7 : px_lg (px_s1 lv3 7 (oI ((fA g 222 k) % 1048576))) 7 = some (oI ((fA g 222 k) % 1048576)) := s1_eq
      generalize px_s1 lv3 7 (oI ((fA g 222 k) % 1048576)) = lv5 at l0 l2 l3 l4 l5 l6 l7 ⊢
      show t_X d 178 48 lv5 [] g P
      refine t_0 qct_48 rfl (ld_i l5) ?_
      refine t_0 qct_50 rfl rfl ?_
      refine t_0 qct_51 rfl pq_add ?_
      refine t_2 qct_52 rfl (w := (px_s1 lv5 5 (oI ((k : Int) + 1)), [])) rfl ?_
      replace l0 : px_lg (px_s1 lv5 5 (oI ((k : Int) + 1))) 0 = some (pvR 196) := s1_ne (by decide) (fun _ => rfl) l0
      replace l2 : px_lg (px_s1 lv5 5 (oI ((k : Int) + 1))) 2 = some (oI (b)) := s1_ne (by decide) (fun _ => rfl) l2
      replace l3 : px_lg (px_s1 lv5 5 (oI ((k : Int) + 1))) 3 = some (oI ((D k : Int))) := s1_ne (by decide) (fun _ => rfl) l3
      replace l4 : px_lg (px_s1 lv5 5 (oI ((k : Int) + 1))) 4 = some (oI (0)) := s1_ne (by decide) (fun _ => rfl) l4
      replace l6 : px_lg (px_s1 lv5 5 (oI ((k : Int) + 1))) 6 = some (oI ((fA g 222 k) / 1048576)) := s1_ne (by decide) (fun _ => rfl) l6
      replace l7 : px_lg (px_s1 lv5 5 (oI ((k : Int) + 1))) 7 = some (oI ((fA g 222 k) % 1048576)) := s1_ne (by decide) (fun _ => rfl) l7
      have l5 : px_lg (px_s1 lv5 5 (oI ((k : Int) + 1))) 5 = some (oI ((k : Int) + 1)) := s1_eq
      generalize px_s1 lv5 5 (oI ((k : Int) + 1)) = lv6 at l0 l2 l3 l4 l6 l7 l5 ⊢
      show t_X d 178 54 lv6 [] g P
      refine t_0 qct_54 rfl (ld_i l6) ?_
      refine tz_eq qct_56 (by decide) ⟨by omega, by omega⟩ (fun c7 => ?_) (fun c7 => ?_)
      · show t_X d 178 65 lv6 [] g P
        refine t_0 qct_65 rfl (ld_a l0) ?_
        refine t_0 qct_66 rfl (ar_47 hJ.1) ?_
        refine t_0 qct_69 rfl (ld_i l3) ?_
        refine t_0 qct_70 rfl (ld_i l6) ?_
        refine tz_ne qct_72 (by decide) ⟨by omega, by omega⟩ (fun c8 => ?_) (fun c8 => ?_)
        · show t_X d 178 80 lv6 [oI ((D k : Int)), pvR 227] g P
          refine t_0 qct_80 rfl (ld_a l0) ?_
          refine t_0 qct_81 rfl (ar_48 hJ.1) ?_
          refine t_0 qct_84 rfl (ld_i l7) ?_
          refine t_0 qct_86 rfl (pq_ia el_228 rfl ⟨by omega, by omega⟩) ?_
          have r9 := fA_b g 228 ((fA g 222 k) % 1048576).toNat
          refine tw_a qct_87 hJ el_227 rfl w_a227 ga_227 (by decide) ⟨by omega, by omega⟩ ⟨by omega, by omega⟩ (fun g10 hJ10 a10 v10 b10 f10 => ?_)
          replace f10 := fF_1 f10
          show t_X d 178 88 lv6 [] g10 P
          refine t_0 qct_88 rfl (ld_i l3) ?_
          refine t_0 qct_89 rfl rfl ?_
          refine t_0 qct_90 rfl pq_add ?_
          refine t_2 qct_91 rfl (w := (px_s1 lv6 3 (oI ((D k : Int) + 1)), [])) rfl ?_
          replace l0 : px_lg (px_s1 lv6 3 (oI ((D k : Int) + 1))) 0 = some (pvR 196) := s1_ne (by decide) (fun _ => rfl) l0
          replace l2 : px_lg (px_s1 lv6 3 (oI ((D k : Int) + 1))) 2 = some (oI (b)) := s1_ne (by decide) (fun _ => rfl) l2
          replace l4 : px_lg (px_s1 lv6 3 (oI ((D k : Int) + 1))) 4 = some (oI (0)) := s1_ne (by decide) (fun _ => rfl) l4
          replace l6 : px_lg (px_s1 lv6 3 (oI ((D k : Int) + 1))) 6 = some (oI ((fA g 222 k) / 1048576)) := s1_ne (by decide) (fun _ => rfl) l6
          replace l7 : px_lg (px_s1 lv6 3 (oI ((D k : Int) + 1))) 7 = some (oI ((fA g 222 k) % 1048576)) := s1_ne (by decide) (fun _ => rfl) l7
          replace l5 : px_lg (px_s1 lv6 3 (oI ((D k : Int) + 1))) 5 = some (oI ((k : Int) + 1)) := s1_ne (by decide) (fun _ => rfl) l5
          have l3 : px_lg (px_s1 lv6 3 (oI ((D k : Int) + 1))) 3 = some (oI ((D k : Int) + 1)) := s1_eq
          generalize px_s1 lv6 3 (oI ((D k : Int) + 1)) = lv11 at l0 l2 l4 l6 l7 l5 l3 ⊢
          show t_X d 178 92 lv11 [] g10 P
          refine t_1 qct_92 rfl (pb_goto (pc := 92) (by decide)) ?_
          show t_X d 178 232 lv11 [] g10 P
          refine t_1 qct_232 rfl (pb_goto (pc := 232) (by decide)) ?_
          show t_X d 178 16 lv11 [] g10 P
          exact ih (k + 1) _ _ _ _ (by omega) (by omega) (by omega) (by omega) (by omega) hJ10 ((a10 222 (by decide)).trans hc) l0 l2 l3 l4 l5
        · show t_X d 178 75 lv6 [oI ((D k : Int)), pvR 227] g P
          refine t_0 qct_75 rfl (ld_i l7) ?_
          refine t_1 qct_77 rfl (pb_goto (pc := 77) (by decide)) ?_
          show t_X d 178 87 lv6 [oI ((fA g 222 k) % 1048576), oI ((D k : Int)), pvR 227] g P
          refine tw_a qct_87 hJ el_227 rfl w_a227 ga_227 (by decide) ⟨by omega, by omega⟩ ⟨by omega, by omega⟩ (fun g12 hJ12 a12 v12 b12 f12 => ?_)
          replace f12 := fF_1 f12
          show t_X d 178 88 lv6 [] g12 P
          refine t_0 qct_88 rfl (ld_i l3) ?_
          refine t_0 qct_89 rfl rfl ?_
          refine t_0 qct_90 rfl pq_add ?_
          refine t_2 qct_91 rfl (w := (px_s1 lv6 3 (oI ((D k : Int) + 1)), [])) rfl ?_
          replace l0 : px_lg (px_s1 lv6 3 (oI ((D k : Int) + 1))) 0 = some (pvR 196) := s1_ne (by decide) (fun _ => rfl) l0
          replace l2 : px_lg (px_s1 lv6 3 (oI ((D k : Int) + 1))) 2 = some (oI (b)) := s1_ne (by decide) (fun _ => rfl) l2
          replace l4 : px_lg (px_s1 lv6 3 (oI ((D k : Int) + 1))) 4 = some (oI (0)) := s1_ne (by decide) (fun _ => rfl) l4
          replace l6 : px_lg (px_s1 lv6 3 (oI ((D k : Int) + 1))) 6 = some (oI ((fA g 222 k) / 1048576)) := s1_ne (by decide) (fun _ => rfl) l6
          replace l7 : px_lg (px_s1 lv6 3 (oI ((D k : Int) + 1))) 7 = some (oI ((fA g 222 k) % 1048576)) := s1_ne (by decide) (fun _ => rfl) l7
          replace l5 : px_lg (px_s1 lv6 3 (oI ((D k : Int) + 1))) 5 = some (oI ((k : Int) + 1)) := s1_ne (by decide) (fun _ => rfl) l5
          have l3 : px_lg (px_s1 lv6 3 (oI ((D k : Int) + 1))) 3 = some (oI ((D k : Int) + 1)) := s1_eq
          generalize px_s1 lv6 3 (oI ((D k : Int) + 1)) = lv13 at l0 l2 l4 l6 l7 l5 l3 ⊢
          show t_X d 178 92 lv13 [] g12 P
          refine t_1 qct_92 rfl (pb_goto (pc := 92) (by decide)) ?_
          show t_X d 178 232 lv13 [] g12 P
          refine t_1 qct_232 rfl (pb_goto (pc := 232) (by decide)) ?_
          show t_X d 178 16 lv13 [] g12 P
          exact ih (k + 1) _ _ _ _ (by omega) (by omega) (by omega) (by omega) (by omega) hJ12 ((a12 222 (by decide)).trans hc) l0 l2 l3 l4 l5
      · show t_X d 178 59 lv6 [] g P
        refine t_0 qct_59 rfl (ld_i l6) ?_
        refine t_0 qct_61 rfl rfl ?_
        refine tb_ne qct_62 (by decide) ⟨by omega, by omega⟩ ⟨by omega, by omega⟩ (fun c14 => ?_) (fun c14 => ?_)
        · show t_X d 178 95 lv6 [] g P
          refine t_0 qct_95 rfl (ld_i l6) ?_
          refine t_0 qct_97 rfl (pq_b (by decide)) ?_
          refine tb_ne qct_99 (by decide) ⟨by omega, by omega⟩ ⟨by omega, by omega⟩ (fun c15 => ?_) (fun c15 => ?_)
          · show t_X d 178 123 lv6 [] g P
            refine t_0 qct_123 rfl (ld_i l6) ?_
            refine t_0 qct_125 rfl (pq_b (by decide)) ?_
            refine tb_eq qct_127 (by decide) ⟨by omega, by omega⟩ ⟨by omega, by omega⟩ (fun c16 => ?_) (fun c16 => ?_)
            · show t_X d 178 137 lv6 [] g P
              refine t_0 qct_137 rfl (ld_a l0) ?_
              refine t_0 qct_138 rfl (ar_47 hJ.1) ?_
              refine t_0 qct_141 rfl (ld_i l3) ?_
              refine t_0 qct_142 rfl rfl ?_
              refine t_0 qct_143 rfl pq_sub ?_
              refine t_0 qct_144 rfl (pq_ia el_227 rfl ⟨by omega, by omega⟩) ?_
              have r17 := fA_b g 227 ((D k : Int) - 1).toNat
              refine t_0 qct_145 rfl (ld_i l6) ?_
              refine t_0 qct_147 rfl (pq_b (by decide)) ?_
              refine tb_ne qct_149 (by decide) ⟨by omega, by omega⟩ ⟨by omega, by omega⟩ (fun c18 => ?_) (fun c18 => ?_)
              · show t_X d 178 156 lv6 [oI (fA g 227 ((D k : Int) - 1).toNat)] g P
                refine t_0 qct_156 rfl rfl ?_
                refine tb_ne qct_157 (by decide) ⟨by omega, by omega⟩ ⟨by omega, by omega⟩ (fun c19 => ?_) (fun c19 => ?_)
                · show t_X d 178 170 lv6 [] g P
                  refine t_0 qct_170 rfl (ld_i l3) ?_
                  refine t_0 qct_171 rfl rfl ?_
                  refine t_0 qct_172 rfl pq_sub ?_
                  refine t_2 qct_173 rfl (w := (px_s1 lv6 3 (oI ((D k : Int) - 1)), [])) rfl ?_
                  replace l0 : px_lg (px_s1 lv6 3 (oI ((D k : Int) - 1))) 0 = some (pvR 196) := s1_ne (by decide) (fun _ => rfl) l0
                  replace l2 : px_lg (px_s1 lv6 3 (oI ((D k : Int) - 1))) 2 = some (oI (b)) := s1_ne (by decide) (fun _ => rfl) l2
                  replace l4 : px_lg (px_s1 lv6 3 (oI ((D k : Int) - 1))) 4 = some (oI (0)) := s1_ne (by decide) (fun _ => rfl) l4
                  replace l6 : px_lg (px_s1 lv6 3 (oI ((D k : Int) - 1))) 6 = some (oI ((fA g 222 k) / 1048576)) := s1_ne (by decide) (fun _ => rfl) l6
                  replace l7 : px_lg (px_s1 lv6 3 (oI ((D k : Int) - 1))) 7 = some (oI ((fA g 222 k) % 1048576)) := s1_ne (by decide) (fun _ => rfl) l7
                  replace l5 : px_lg (px_s1 lv6 3 (oI ((D k : Int) - 1))) 5 = some (oI ((k : Int) + 1)) := s1_ne (by decide) (fun _ => rfl) l5
                  have l3 : px_lg (px_s1 lv6 3 (oI ((D k : Int) - 1))) 3 = some (oI ((D k : Int) - 1)) := s1_eq
                  generalize px_s1 lv6 3 (oI ((D k : Int) - 1)) = lv20 at l0 l2 l4 l6 l7 l5 l3 ⊢
                  show t_X d 178 174 lv20 [] g P
                  refine t_1 qct_174 rfl (pb_goto (pc := 174) (by decide)) ?_
                  show t_X d 178 232 lv20 [] g P
                  refine t_1 qct_232 rfl (pb_goto (pc := 232) (by decide)) ?_
                  show t_X d 178 16 lv20 [] g P
                  exact ih (k + 1) _ _ _ _ (by omega) (by omega) (by omega) (by omega) (by omega) hJ hc l0 l2 l3 l4 l5
                · show t_X d 178 160 lv6 [] g P
                  refine t_0 qct_160 rfl (ld_i l4) ?_
                  refine t_0 qct_162 rfl (ld_i l7) ?_
                  refine t_0 qct_164 rfl pq_add ?_
                  refine t_2 qct_165 rfl (w := (px_s1 lv6 5 (oI (0 + ((fA g 222 k) % 1048576))), [])) rfl ?_
                  replace l0 : px_lg (px_s1 lv6 5 (oI (0 + ((fA g 222 k) % 1048576)))) 0 = some (pvR 196) := s1_ne (by decide) (fun _ => rfl) l0
                  replace l2 : px_lg (px_s1 lv6 5 (oI (0 + ((fA g 222 k) % 1048576)))) 2 = some (oI (b)) := s1_ne (by decide) (fun _ => rfl) l2
                  replace l3 : px_lg (px_s1 lv6 5 (oI (0 + ((fA g 222 k) % 1048576)))) 3 = some (oI ((D k : Int))) := s1_ne (by decide) (fun _ => rfl) l3
                  replace l4 : px_lg (px_s1 lv6 5 (oI (0 + ((fA g 222 k) % 1048576)))) 4 = some (oI (0)) := s1_ne (by decide) (fun _ => rfl) l4
                  replace l6 : px_lg (px_s1 lv6 5 (oI (0 + ((fA g 222 k) % 1048576)))) 6 = some (oI ((fA g 222 k) / 1048576)) := s1_ne (by decide) (fun _ => rfl) l6
                  replace l7 : px_lg (px_s1 lv6 5 (oI (0 + ((fA g 222 k) % 1048576)))) 7 = some (oI ((fA g 222 k) % 1048576)) := s1_ne (by decide) (fun _ => rfl) l7
                  have l5 : px_lg (px_s1 lv6 5 (oI (0 + ((fA g 222 k) % 1048576)))) 5 = some (oI (0 + ((fA g 222 k) % 1048576))) := s1_eq
                  generalize px_s1 lv6 5 (oI (0 + ((fA g 222 k) % 1048576))) = lv21 at l0 l2 l3 l4 l6 l7 l5 ⊢
                  show t_X d 178 167 lv21 [] g P
                  refine t_1 qct_167 rfl (pb_goto (pc := 167) (by decide)) ?_
                  show t_X d 178 232 lv21 [] g P
                  refine t_1 qct_232 rfl (pb_goto (pc := 232) (by decide)) ?_
                  show t_X d 178 16 lv21 [] g P
                  exact ih (fA g 222 k % 1048576).toNat _ _ _ _ (by omega) (by omega) (by omega) (by omega) (by omega) hJ hc l0 l2 l3 l4 l5
              · show t_X d 178 152 lv6 [oI (fA g 227 ((D k : Int) - 1).toNat)] g P
                refine t_0 qct_152 rfl rfl ?_
                refine t_1 qct_153 rfl (pb_goto (pc := 153) (by decide)) ?_
                show t_X d 178 157 lv6 [oI (1), oI (fA g 227 ((D k : Int) - 1).toNat)] g P
                refine tb_ne qct_157 (by decide) ⟨by omega, by omega⟩ ⟨by omega, by omega⟩ (fun c22 => ?_) (fun c22 => ?_)
                · show t_X d 178 170 lv6 [] g P
                  refine t_0 qct_170 rfl (ld_i l3) ?_
                  refine t_0 qct_171 rfl rfl ?_
                  refine t_0 qct_172 rfl pq_sub ?_
                  refine t_2 qct_173 rfl (w := (px_s1 lv6 3 (oI ((D k : Int) - 1)), [])) rfl ?_
                  replace l0 : px_lg (px_s1 lv6 3 (oI ((D k : Int) - 1))) 0 = some (pvR 196) := s1_ne (by decide) (fun _ => rfl) l0
                  replace l2 : px_lg (px_s1 lv6 3 (oI ((D k : Int) - 1))) 2 = some (oI (b)) := s1_ne (by decide) (fun _ => rfl) l2
                  replace l4 : px_lg (px_s1 lv6 3 (oI ((D k : Int) - 1))) 4 = some (oI (0)) := s1_ne (by decide) (fun _ => rfl) l4
                  replace l6 : px_lg (px_s1 lv6 3 (oI ((D k : Int) - 1))) 6 = some (oI ((fA g 222 k) / 1048576)) := s1_ne (by decide) (fun _ => rfl) l6
                  replace l7 : px_lg (px_s1 lv6 3 (oI ((D k : Int) - 1))) 7 = some (oI ((fA g 222 k) % 1048576)) := s1_ne (by decide) (fun _ => rfl) l7
                  replace l5 : px_lg (px_s1 lv6 3 (oI ((D k : Int) - 1))) 5 = some (oI ((k : Int) + 1)) := s1_ne (by decide) (fun _ => rfl) l5
                  have l3 : px_lg (px_s1 lv6 3 (oI ((D k : Int) - 1))) 3 = some (oI ((D k : Int) - 1)) := s1_eq
                  generalize px_s1 lv6 3 (oI ((D k : Int) - 1)) = lv23 at l0 l2 l4 l6 l7 l5 l3 ⊢
                  show t_X d 178 174 lv23 [] g P
                  refine t_1 qct_174 rfl (pb_goto (pc := 174) (by decide)) ?_
                  show t_X d 178 232 lv23 [] g P
                  refine t_1 qct_232 rfl (pb_goto (pc := 232) (by decide)) ?_
                  show t_X d 178 16 lv23 [] g P
                  exact ih (k + 1) _ _ _ _ (by omega) (by omega) (by omega) (by omega) (by omega) hJ hc l0 l2 l3 l4 l5
                · show t_X d 178 160 lv6 [] g P
                  refine t_0 qct_160 rfl (ld_i l4) ?_
                  refine t_0 qct_162 rfl (ld_i l7) ?_
                  refine t_0 qct_164 rfl pq_add ?_
                  refine t_2 qct_165 rfl (w := (px_s1 lv6 5 (oI (0 + ((fA g 222 k) % 1048576))), [])) rfl ?_
                  replace l0 : px_lg (px_s1 lv6 5 (oI (0 + ((fA g 222 k) % 1048576)))) 0 = some (pvR 196) := s1_ne (by decide) (fun _ => rfl) l0
                  replace l2 : px_lg (px_s1 lv6 5 (oI (0 + ((fA g 222 k) % 1048576)))) 2 = some (oI (b)) := s1_ne (by decide) (fun _ => rfl) l2
                  replace l3 : px_lg (px_s1 lv6 5 (oI (0 + ((fA g 222 k) % 1048576)))) 3 = some (oI ((D k : Int))) := s1_ne (by decide) (fun _ => rfl) l3
                  replace l4 : px_lg (px_s1 lv6 5 (oI (0 + ((fA g 222 k) % 1048576)))) 4 = some (oI (0)) := s1_ne (by decide) (fun _ => rfl) l4
                  replace l6 : px_lg (px_s1 lv6 5 (oI (0 + ((fA g 222 k) % 1048576)))) 6 = some (oI ((fA g 222 k) / 1048576)) := s1_ne (by decide) (fun _ => rfl) l6
                  replace l7 : px_lg (px_s1 lv6 5 (oI (0 + ((fA g 222 k) % 1048576)))) 7 = some (oI ((fA g 222 k) % 1048576)) := s1_ne (by decide) (fun _ => rfl) l7
                  have l5 : px_lg (px_s1 lv6 5 (oI (0 + ((fA g 222 k) % 1048576)))) 5 = some (oI (0 + ((fA g 222 k) % 1048576))) := s1_eq
                  generalize px_s1 lv6 5 (oI (0 + ((fA g 222 k) % 1048576))) = lv24 at l0 l2 l3 l4 l6 l7 l5 ⊢
                  show t_X d 178 167 lv24 [] g P
                  refine t_1 qct_167 rfl (pb_goto (pc := 167) (by decide)) ?_
                  show t_X d 178 232 lv24 [] g P
                  refine t_1 qct_232 rfl (pb_goto (pc := 232) (by decide)) ?_
                  show t_X d 178 16 lv24 [] g P
                  exact ih (fA g 222 k % 1048576).toNat _ _ _ _ (by omega) (by omega) (by omega) (by omega) (by omega) hJ hc l0 l2 l3 l4 l5
            · show t_X d 178 130 lv6 [] g P
              refine t_0 qct_130 rfl (ld_i l6) ?_
              refine t_0 qct_132 rfl (pq_b (by decide)) ?_
              refine tb_ne qct_134 (by decide) ⟨by omega, by omega⟩ ⟨by omega, by omega⟩ (fun c25 => ?_) (fun c25 => ?_)
              · show t_X d 178 177 lv6 [] g P
                refine t_0 qct_177 rfl (ld_i l3) ?_
                refine t_0 qct_178 rfl rfl ?_
                refine t_0 qct_179 rfl pq_sub ?_
                refine t_2 qct_180 rfl (w := (px_s1 lv6 3 (oI ((D k : Int) - 1)), [])) rfl ?_
                replace l0 : px_lg (px_s1 lv6 3 (oI ((D k : Int) - 1))) 0 = some (pvR 196) := s1_ne (by decide) (fun _ => rfl) l0
                replace l2 : px_lg (px_s1 lv6 3 (oI ((D k : Int) - 1))) 2 = some (oI (b)) := s1_ne (by decide) (fun _ => rfl) l2
                replace l4 : px_lg (px_s1 lv6 3 (oI ((D k : Int) - 1))) 4 = some (oI (0)) := s1_ne (by decide) (fun _ => rfl) l4
                replace l6 : px_lg (px_s1 lv6 3 (oI ((D k : Int) - 1))) 6 = some (oI ((fA g 222 k) / 1048576)) := s1_ne (by decide) (fun _ => rfl) l6
                replace l7 : px_lg (px_s1 lv6 3 (oI ((D k : Int) - 1))) 7 = some (oI ((fA g 222 k) % 1048576)) := s1_ne (by decide) (fun _ => rfl) l7
                replace l5 : px_lg (px_s1 lv6 3 (oI ((D k : Int) - 1))) 5 = some (oI ((k : Int) + 1)) := s1_ne (by decide) (fun _ => rfl) l5
                have l3 : px_lg (px_s1 lv6 3 (oI ((D k : Int) - 1))) 3 = some (oI ((D k : Int) - 1)) := s1_eq
                generalize px_s1 lv6 3 (oI ((D k : Int) - 1)) = lv26 at l0 l2 l4 l6 l7 l5 l3 ⊢
                show t_X d 178 181 lv26 [] g P
                refine t_0 qct_181 rfl (ld_i l6) ?_
                refine t_0 qct_183 rfl rfl ?_
                refine tb_eq qct_184 (by decide) ⟨by omega, by omega⟩ ⟨by omega, by omega⟩ (fun c27 => ?_) (fun c27 => ?_)
                · show t_X d 178 194 lv26 [] g P
                  refine t_0 qct_194 rfl (ld_a l0) ?_
                  refine t_0 qct_195 rfl (ar_47 hJ.1) ?_
                  refine t_0 qct_198 rfl (ld_i l3) ?_
                  refine t_0 qct_199 rfl (pq_ia el_227 rfl ⟨by omega, by omega⟩) ?_
                  have r28 := fA_b g 227 ((D k : Int) - 1).toNat
                  refine tz_ne qct_200 (by decide) ⟨by omega, by omega⟩ (fun c29 => ?_) (fun c29 => ?_)
                  · show t_X d 178 205 lv26 [] g P
                    refine t_0 qct_205 rfl (ld_a l0) ?_
                    refine t_0 qct_206 rfl (ar_47 hJ.1) ?_
                    refine t_0 qct_209 rfl (ld_i l3) ?_
                    refine t_0 qct_210 rfl rfl ?_
                    refine t_0 qct_211 rfl pq_sub ?_
                    refine t_0 qct_212 rfl (ld_i l6) ?_
                    refine t_0 qct_214 rfl (ld_a l0) ?_
                    refine t_0 qct_215 rfl (ar_47 hJ.1) ?_
                    refine t_0 qct_218 rfl (ld_i l3) ?_
                    refine t_0 qct_219 rfl rfl ?_
                    refine t_0 qct_220 rfl pq_sub ?_
                    refine t_0 qct_221 rfl (pq_ia el_227 rfl ⟨by omega, by omega⟩) ?_
                    have r30 := fA_b g 227 (((D k : Int) - 1) - 1).toNat
                    refine t_0 qct_222 rfl (ld_a l0) ?_
                    refine t_0 qct_223 rfl (ar_47 hJ.1) ?_
                    refine t_0 qct_226 rfl (ld_i l3) ?_
                    refine t_0 qct_227 rfl (pq_ia el_227 rfl ⟨by omega, by omega⟩) ?_
                    have r31 := fA_b g 227 ((D k : Int) - 1).toNat
                    refine t_3 qct_228 rfl (ar := ([oI ((fA g 222 k) / 1048576), oI (fA g 227 (((D k : Int) - 1) - 1).toNat), oI (fA g 227 ((D k : Int) - 1).toNat)], [oI (((D k : Int) - 1) - 1), pvR 227])) (pcal_s ⟨Or.inl rfl, rfl, Nat.le_of_ble_eq_true rfl⟩) ⟨by omega, Nat.le_of_ble_eq_true rfl, Nat.le_of_ble_eq_true rfl, rfl⟩ ?_
                    refine reckon_run ⟨by omega, by omega⟩ (fun z => ne_oI ⟨by omega, by omega⟩ (by omega)) rfl rfl rfl (fun z32 => ?_)
                    show t_X d 178 231 lv26 [.inl (z32), oI (((D k : Int) - 1) - 1), pvR 227] g P
                    refine tw_ax qct_231 hJ el_227 rfl w_a227 ga_227 ⟨by omega, by omega⟩ (fun g33 hJ33 a33 f33 => ?_)
                    replace f33 := fF_1 f33
                    show t_X d 178 232 lv26 [] g33 P
                    refine t_1 qct_232 rfl (pb_goto (pc := 232) (by decide)) ?_
                    show t_X d 178 16 lv26 [] g33 P
                    exact ih (k + 1) _ _ _ _ (by omega) (by omega) (by omega) (by omega) (by omega) hJ33 ((a33 222 (by decide)).trans hc) l0 l2 l3 l4 l5
                  · show t_X d 178 203 lv26 [] g P
                    refine t_0 qct_203 rfl rfl ?_
                    refine t_5 qct_204 rfl rfl ?_
                    exact hP _ _ ⟨by omega, by omega⟩ hJ
                · show t_X d 178 187 lv26 [] g P
                  refine t_0 qct_187 rfl (ld_i l6) ?_
                  refine t_0 qct_189 rfl (pq_b (by decide)) ?_
                  refine tb_ne qct_191 (by decide) ⟨by omega, by omega⟩ ⟨by omega, by omega⟩ (fun c34 => ?_) (fun c34 => ?_)
                  · show t_X d 178 205 lv26 [] g P
                    refine t_0 qct_205 rfl (ld_a l0) ?_
                    refine t_0 qct_206 rfl (ar_47 hJ.1) ?_
                    refine t_0 qct_209 rfl (ld_i l3) ?_
                    refine t_0 qct_210 rfl rfl ?_
                    refine t_0 qct_211 rfl pq_sub ?_
                    refine t_0 qct_212 rfl (ld_i l6) ?_
                    refine t_0 qct_214 rfl (ld_a l0) ?_
                    refine t_0 qct_215 rfl (ar_47 hJ.1) ?_
                    refine t_0 qct_218 rfl (ld_i l3) ?_
                    refine t_0 qct_219 rfl rfl ?_
                    refine t_0 qct_220 rfl pq_sub ?_
                    refine t_0 qct_221 rfl (pq_ia el_227 rfl ⟨by omega, by omega⟩) ?_
                    have r35 := fA_b g 227 (((D k : Int) - 1) - 1).toNat
                    refine t_0 qct_222 rfl (ld_a l0) ?_
                    refine t_0 qct_223 rfl (ar_47 hJ.1) ?_
                    refine t_0 qct_226 rfl (ld_i l3) ?_
                    refine t_0 qct_227 rfl (pq_ia el_227 rfl ⟨by omega, by omega⟩) ?_
                    have r36 := fA_b g 227 ((D k : Int) - 1).toNat
                    refine t_3 qct_228 rfl (ar := ([oI ((fA g 222 k) / 1048576), oI (fA g 227 (((D k : Int) - 1) - 1).toNat), oI (fA g 227 ((D k : Int) - 1).toNat)], [oI (((D k : Int) - 1) - 1), pvR 227])) (pcal_s ⟨Or.inl rfl, rfl, Nat.le_of_ble_eq_true rfl⟩) ⟨by omega, Nat.le_of_ble_eq_true rfl, Nat.le_of_ble_eq_true rfl, rfl⟩ ?_
                    refine reckon_run ⟨by omega, by omega⟩ (fun z => ne_oI ⟨by omega, by omega⟩ (by omega)) rfl rfl rfl (fun z37 => ?_)
                    show t_X d 178 231 lv26 [.inl (z37), oI (((D k : Int) - 1) - 1), pvR 227] g P
                    refine tw_ax qct_231 hJ el_227 rfl w_a227 ga_227 ⟨by omega, by omega⟩ (fun g38 hJ38 a38 f38 => ?_)
                    replace f38 := fF_1 f38
                    show t_X d 178 232 lv26 [] g38 P
                    refine t_1 qct_232 rfl (pb_goto (pc := 232) (by decide)) ?_
                    show t_X d 178 16 lv26 [] g38 P
                    exact ih (k + 1) _ _ _ _ (by omega) (by omega) (by omega) (by omega) (by omega) hJ38 ((a38 222 (by decide)).trans hc) l0 l2 l3 l4 l5
                  · show t_X d 178 194 lv26 [] g P
                    refine t_0 qct_194 rfl (ld_a l0) ?_
                    refine t_0 qct_195 rfl (ar_47 hJ.1) ?_
                    refine t_0 qct_198 rfl (ld_i l3) ?_
                    refine t_0 qct_199 rfl (pq_ia el_227 rfl ⟨by omega, by omega⟩) ?_
                    have r39 := fA_b g 227 ((D k : Int) - 1).toNat
                    refine tz_ne qct_200 (by decide) ⟨by omega, by omega⟩ (fun c40 => ?_) (fun c40 => ?_)
                    · show t_X d 178 205 lv26 [] g P
                      refine t_0 qct_205 rfl (ld_a l0) ?_
                      refine t_0 qct_206 rfl (ar_47 hJ.1) ?_
                      refine t_0 qct_209 rfl (ld_i l3) ?_
                      refine t_0 qct_210 rfl rfl ?_
                      refine t_0 qct_211 rfl pq_sub ?_
                      refine t_0 qct_212 rfl (ld_i l6) ?_
                      refine t_0 qct_214 rfl (ld_a l0) ?_
                      refine t_0 qct_215 rfl (ar_47 hJ.1) ?_
                      refine t_0 qct_218 rfl (ld_i l3) ?_
                      refine t_0 qct_219 rfl rfl ?_
                      refine t_0 qct_220 rfl pq_sub ?_
                      refine t_0 qct_221 rfl (pq_ia el_227 rfl ⟨by omega, by omega⟩) ?_
                      have r41 := fA_b g 227 (((D k : Int) - 1) - 1).toNat
                      refine t_0 qct_222 rfl (ld_a l0) ?_
                      refine t_0 qct_223 rfl (ar_47 hJ.1) ?_
                      refine t_0 qct_226 rfl (ld_i l3) ?_
                      refine t_0 qct_227 rfl (pq_ia el_227 rfl ⟨by omega, by omega⟩) ?_
                      have r42 := fA_b g 227 ((D k : Int) - 1).toNat
                      refine t_3 qct_228 rfl (ar := ([oI ((fA g 222 k) / 1048576), oI (fA g 227 (((D k : Int) - 1) - 1).toNat), oI (fA g 227 ((D k : Int) - 1).toNat)], [oI (((D k : Int) - 1) - 1), pvR 227])) (pcal_s ⟨Or.inl rfl, rfl, Nat.le_of_ble_eq_true rfl⟩) ⟨by omega, Nat.le_of_ble_eq_true rfl, Nat.le_of_ble_eq_true rfl, rfl⟩ ?_
                      refine reckon_run ⟨by omega, by omega⟩ (fun z => ne_oI ⟨by omega, by omega⟩ (by omega)) rfl rfl rfl (fun z43 => ?_)
                      show t_X d 178 231 lv26 [.inl (z43), oI (((D k : Int) - 1) - 1), pvR 227] g P
                      refine tw_ax qct_231 hJ el_227 rfl w_a227 ga_227 ⟨by omega, by omega⟩ (fun g44 hJ44 a44 f44 => ?_)
                      replace f44 := fF_1 f44
                      show t_X d 178 232 lv26 [] g44 P
                      refine t_1 qct_232 rfl (pb_goto (pc := 232) (by decide)) ?_
                      show t_X d 178 16 lv26 [] g44 P
                      exact ih (k + 1) _ _ _ _ (by omega) (by omega) (by omega) (by omega) (by omega) hJ44 ((a44 222 (by decide)).trans hc) l0 l2 l3 l4 l5
                    · show t_X d 178 203 lv26 [] g P
                      refine t_0 qct_203 rfl rfl ?_
                      refine t_5 qct_204 rfl rfl ?_
                      exact hP _ _ ⟨by omega, by omega⟩ hJ
              · show t_X d 178 137 lv6 [] g P
                refine t_0 qct_137 rfl (ld_a l0) ?_
                refine t_0 qct_138 rfl (ar_47 hJ.1) ?_
                refine t_0 qct_141 rfl (ld_i l3) ?_
                refine t_0 qct_142 rfl rfl ?_
                refine t_0 qct_143 rfl pq_sub ?_
                refine t_0 qct_144 rfl (pq_ia el_227 rfl ⟨by omega, by omega⟩) ?_
                have r45 := fA_b g 227 ((D k : Int) - 1).toNat
                refine t_0 qct_145 rfl (ld_i l6) ?_
                refine t_0 qct_147 rfl (pq_b (by decide)) ?_
                refine tb_ne qct_149 (by decide) ⟨by omega, by omega⟩ ⟨by omega, by omega⟩ (fun c46 => ?_) (fun c46 => ?_)
                · show t_X d 178 156 lv6 [oI (fA g 227 ((D k : Int) - 1).toNat)] g P
                  refine t_0 qct_156 rfl rfl ?_
                  refine tb_ne qct_157 (by decide) ⟨by omega, by omega⟩ ⟨by omega, by omega⟩ (fun c47 => ?_) (fun c47 => ?_)
                  · show t_X d 178 170 lv6 [] g P
                    refine t_0 qct_170 rfl (ld_i l3) ?_
                    refine t_0 qct_171 rfl rfl ?_
                    refine t_0 qct_172 rfl pq_sub ?_
                    refine t_2 qct_173 rfl (w := (px_s1 lv6 3 (oI ((D k : Int) - 1)), [])) rfl ?_
                    replace l0 : px_lg (px_s1 lv6 3 (oI ((D k : Int) - 1))) 0 = some (pvR 196) := s1_ne (by decide) (fun _ => rfl) l0
                    replace l2 : px_lg (px_s1 lv6 3 (oI ((D k : Int) - 1))) 2 = some (oI (b)) := s1_ne (by decide) (fun _ => rfl) l2
                    replace l4 : px_lg (px_s1 lv6 3 (oI ((D k : Int) - 1))) 4 = some (oI (0)) := s1_ne (by decide) (fun _ => rfl) l4
                    replace l6 : px_lg (px_s1 lv6 3 (oI ((D k : Int) - 1))) 6 = some (oI ((fA g 222 k) / 1048576)) := s1_ne (by decide) (fun _ => rfl) l6
                    replace l7 : px_lg (px_s1 lv6 3 (oI ((D k : Int) - 1))) 7 = some (oI ((fA g 222 k) % 1048576)) := s1_ne (by decide) (fun _ => rfl) l7
                    replace l5 : px_lg (px_s1 lv6 3 (oI ((D k : Int) - 1))) 5 = some (oI ((k : Int) + 1)) := s1_ne (by decide) (fun _ => rfl) l5
                    have l3 : px_lg (px_s1 lv6 3 (oI ((D k : Int) - 1))) 3 = some (oI ((D k : Int) - 1)) := s1_eq
                    generalize px_s1 lv6 3 (oI ((D k : Int) - 1)) = lv48 at l0 l2 l4 l6 l7 l5 l3 ⊢
                    show t_X d 178 174 lv48 [] g P
                    refine t_1 qct_174 rfl (pb_goto (pc := 174) (by decide)) ?_
                    show t_X d 178 232 lv48 [] g P
                    refine t_1 qct_232 rfl (pb_goto (pc := 232) (by decide)) ?_
                    show t_X d 178 16 lv48 [] g P
                    exact ih (k + 1) _ _ _ _ (by omega) (by omega) (by omega) (by omega) (by omega) hJ hc l0 l2 l3 l4 l5
                  · show t_X d 178 160 lv6 [] g P
                    refine t_0 qct_160 rfl (ld_i l4) ?_
                    refine t_0 qct_162 rfl (ld_i l7) ?_
                    refine t_0 qct_164 rfl pq_add ?_
                    refine t_2 qct_165 rfl (w := (px_s1 lv6 5 (oI (0 + ((fA g 222 k) % 1048576))), [])) rfl ?_
                    replace l0 : px_lg (px_s1 lv6 5 (oI (0 + ((fA g 222 k) % 1048576)))) 0 = some (pvR 196) := s1_ne (by decide) (fun _ => rfl) l0
                    replace l2 : px_lg (px_s1 lv6 5 (oI (0 + ((fA g 222 k) % 1048576)))) 2 = some (oI (b)) := s1_ne (by decide) (fun _ => rfl) l2
                    replace l3 : px_lg (px_s1 lv6 5 (oI (0 + ((fA g 222 k) % 1048576)))) 3 = some (oI ((D k : Int))) := s1_ne (by decide) (fun _ => rfl) l3
                    replace l4 : px_lg (px_s1 lv6 5 (oI (0 + ((fA g 222 k) % 1048576)))) 4 = some (oI (0)) := s1_ne (by decide) (fun _ => rfl) l4
                    replace l6 : px_lg (px_s1 lv6 5 (oI (0 + ((fA g 222 k) % 1048576)))) 6 = some (oI ((fA g 222 k) / 1048576)) := s1_ne (by decide) (fun _ => rfl) l6
                    replace l7 : px_lg (px_s1 lv6 5 (oI (0 + ((fA g 222 k) % 1048576)))) 7 = some (oI ((fA g 222 k) % 1048576)) := s1_ne (by decide) (fun _ => rfl) l7
                    have l5 : px_lg (px_s1 lv6 5 (oI (0 + ((fA g 222 k) % 1048576)))) 5 = some (oI (0 + ((fA g 222 k) % 1048576))) := s1_eq
                    generalize px_s1 lv6 5 (oI (0 + ((fA g 222 k) % 1048576))) = lv49 at l0 l2 l3 l4 l6 l7 l5 ⊢
                    show t_X d 178 167 lv49 [] g P
                    refine t_1 qct_167 rfl (pb_goto (pc := 167) (by decide)) ?_
                    show t_X d 178 232 lv49 [] g P
                    refine t_1 qct_232 rfl (pb_goto (pc := 232) (by decide)) ?_
                    show t_X d 178 16 lv49 [] g P
                    exact ih (fA g 222 k % 1048576).toNat _ _ _ _ (by omega) (by omega) (by omega) (by omega) (by omega) hJ hc l0 l2 l3 l4 l5
                · show t_X d 178 152 lv6 [oI (fA g 227 ((D k : Int) - 1).toNat)] g P
                  refine t_0 qct_152 rfl rfl ?_
                  refine t_1 qct_153 rfl (pb_goto (pc := 153) (by decide)) ?_
                  show t_X d 178 157 lv6 [oI (1), oI (fA g 227 ((D k : Int) - 1).toNat)] g P
                  refine tb_ne qct_157 (by decide) ⟨by omega, by omega⟩ ⟨by omega, by omega⟩ (fun c50 => ?_) (fun c50 => ?_)
                  · show t_X d 178 170 lv6 [] g P
                    refine t_0 qct_170 rfl (ld_i l3) ?_
                    refine t_0 qct_171 rfl rfl ?_
                    refine t_0 qct_172 rfl pq_sub ?_
                    refine t_2 qct_173 rfl (w := (px_s1 lv6 3 (oI ((D k : Int) - 1)), [])) rfl ?_
                    replace l0 : px_lg (px_s1 lv6 3 (oI ((D k : Int) - 1))) 0 = some (pvR 196) := s1_ne (by decide) (fun _ => rfl) l0
                    replace l2 : px_lg (px_s1 lv6 3 (oI ((D k : Int) - 1))) 2 = some (oI (b)) := s1_ne (by decide) (fun _ => rfl) l2
                    replace l4 : px_lg (px_s1 lv6 3 (oI ((D k : Int) - 1))) 4 = some (oI (0)) := s1_ne (by decide) (fun _ => rfl) l4
                    replace l6 : px_lg (px_s1 lv6 3 (oI ((D k : Int) - 1))) 6 = some (oI ((fA g 222 k) / 1048576)) := s1_ne (by decide) (fun _ => rfl) l6
                    replace l7 : px_lg (px_s1 lv6 3 (oI ((D k : Int) - 1))) 7 = some (oI ((fA g 222 k) % 1048576)) := s1_ne (by decide) (fun _ => rfl) l7
                    replace l5 : px_lg (px_s1 lv6 3 (oI ((D k : Int) - 1))) 5 = some (oI ((k : Int) + 1)) := s1_ne (by decide) (fun _ => rfl) l5
                    have l3 : px_lg (px_s1 lv6 3 (oI ((D k : Int) - 1))) 3 = some (oI ((D k : Int) - 1)) := s1_eq
                    generalize px_s1 lv6 3 (oI ((D k : Int) - 1)) = lv51 at l0 l2 l4 l6 l7 l5 l3 ⊢
                    show t_X d 178 174 lv51 [] g P
                    refine t_1 qct_174 rfl (pb_goto (pc := 174) (by decide)) ?_
                    show t_X d 178 232 lv51 [] g P
                    refine t_1 qct_232 rfl (pb_goto (pc := 232) (by decide)) ?_
                    show t_X d 178 16 lv51 [] g P
                    exact ih (k + 1) _ _ _ _ (by omega) (by omega) (by omega) (by omega) (by omega) hJ hc l0 l2 l3 l4 l5
                  · show t_X d 178 160 lv6 [] g P
                    refine t_0 qct_160 rfl (ld_i l4) ?_
                    refine t_0 qct_162 rfl (ld_i l7) ?_
                    refine t_0 qct_164 rfl pq_add ?_
                    refine t_2 qct_165 rfl (w := (px_s1 lv6 5 (oI (0 + ((fA g 222 k) % 1048576))), [])) rfl ?_
                    replace l0 : px_lg (px_s1 lv6 5 (oI (0 + ((fA g 222 k) % 1048576)))) 0 = some (pvR 196) := s1_ne (by decide) (fun _ => rfl) l0
                    replace l2 : px_lg (px_s1 lv6 5 (oI (0 + ((fA g 222 k) % 1048576)))) 2 = some (oI (b)) := s1_ne (by decide) (fun _ => rfl) l2
                    replace l3 : px_lg (px_s1 lv6 5 (oI (0 + ((fA g 222 k) % 1048576)))) 3 = some (oI ((D k : Int))) := s1_ne (by decide) (fun _ => rfl) l3
                    replace l4 : px_lg (px_s1 lv6 5 (oI (0 + ((fA g 222 k) % 1048576)))) 4 = some (oI (0)) := s1_ne (by decide) (fun _ => rfl) l4
                    replace l6 : px_lg (px_s1 lv6 5 (oI (0 + ((fA g 222 k) % 1048576)))) 6 = some (oI ((fA g 222 k) / 1048576)) := s1_ne (by decide) (fun _ => rfl) l6
                    replace l7 : px_lg (px_s1 lv6 5 (oI (0 + ((fA g 222 k) % 1048576)))) 7 = some (oI ((fA g 222 k) % 1048576)) := s1_ne (by decide) (fun _ => rfl) l7
                    have l5 : px_lg (px_s1 lv6 5 (oI (0 + ((fA g 222 k) % 1048576)))) 5 = some (oI (0 + ((fA g 222 k) % 1048576))) := s1_eq
                    generalize px_s1 lv6 5 (oI (0 + ((fA g 222 k) % 1048576))) = lv52 at l0 l2 l3 l4 l6 l7 l5 ⊢
                    show t_X d 178 167 lv52 [] g P
                    refine t_1 qct_167 rfl (pb_goto (pc := 167) (by decide)) ?_
                    show t_X d 178 232 lv52 [] g P
                    refine t_1 qct_232 rfl (pb_goto (pc := 232) (by decide)) ?_
                    show t_X d 178 16 lv52 [] g P
                    exact ih (fA g 222 k % 1048576).toNat _ _ _ _ (by omega) (by omega) (by omega) (by omega) (by omega) hJ hc l0 l2 l3 l4 l5
          · show t_X d 178 102 lv6 [] g P
            refine t_0 qct_102 rfl (ld_a l0) ?_
            refine t_0 qct_103 rfl (ar_47 hJ.1) ?_
            refine t_0 qct_106 rfl (ld_i l3) ?_
            refine t_0 qct_107 rfl rfl ?_
            refine t_0 qct_108 rfl pq_sub ?_
            refine t_0 qct_109 rfl rfl ?_
            refine t_0 qct_110 rfl (ld_a l0) ?_
            refine t_0 qct_111 rfl (ar_47 hJ.1) ?_
            refine t_0 qct_114 rfl (ld_i l3) ?_
            refine t_0 qct_115 rfl rfl ?_
            refine t_0 qct_116 rfl pq_sub ?_
            refine t_0 qct_117 rfl (pq_ia el_227 rfl ⟨by omega, by omega⟩) ?_
            have r53 := fA_b g 227 ((D k : Int) - 1).toNat
            refine t_0 qct_118 rfl pq_sub ?_
            refine tw_ax qct_119 hJ el_227 rfl w_a227 ga_227 ⟨by omega, by omega⟩ (fun g54 hJ54 a54 f54 => ?_)
            replace f54 := fF_1 f54
            show t_X d 178 120 lv6 [] g54 P
            refine t_1 qct_120 rfl (pb_goto (pc := 120) (by decide)) ?_
            show t_X d 178 232 lv6 [] g54 P
            refine t_1 qct_232 rfl (pb_goto (pc := 232) (by decide)) ?_
            show t_X d 178 16 lv6 [] g54 P
            exact ih (k + 1) _ _ _ _ (by omega) (by omega) (by omega) (by omega) (by omega) hJ54 ((a54 222 (by decide)).trans hc) l0 l2 l3 l4 l5
        · show t_X d 178 65 lv6 [] g P
          refine t_0 qct_65 rfl (ld_a l0) ?_
          refine t_0 qct_66 rfl (ar_47 hJ.1) ?_
          refine t_0 qct_69 rfl (ld_i l3) ?_
          refine t_0 qct_70 rfl (ld_i l6) ?_
          refine tz_ne qct_72 (by decide) ⟨by omega, by omega⟩ (fun c55 => ?_) (fun c55 => ?_)
          · show t_X d 178 80 lv6 [oI ((D k : Int)), pvR 227] g P
            refine t_0 qct_80 rfl (ld_a l0) ?_
            refine t_0 qct_81 rfl (ar_48 hJ.1) ?_
            refine t_0 qct_84 rfl (ld_i l7) ?_
            refine t_0 qct_86 rfl (pq_ia el_228 rfl ⟨by omega, by omega⟩) ?_
            have r56 := fA_b g 228 ((fA g 222 k) % 1048576).toNat
            refine tw_a qct_87 hJ el_227 rfl w_a227 ga_227 (by decide) ⟨by omega, by omega⟩ ⟨by omega, by omega⟩ (fun g57 hJ57 a57 v57 b57 f57 => ?_)
            replace f57 := fF_1 f57
            show t_X d 178 88 lv6 [] g57 P
            refine t_0 qct_88 rfl (ld_i l3) ?_
            refine t_0 qct_89 rfl rfl ?_
            refine t_0 qct_90 rfl pq_add ?_
            refine t_2 qct_91 rfl (w := (px_s1 lv6 3 (oI ((D k : Int) + 1)), [])) rfl ?_
            replace l0 : px_lg (px_s1 lv6 3 (oI ((D k : Int) + 1))) 0 = some (pvR 196) := s1_ne (by decide) (fun _ => rfl) l0
            replace l2 : px_lg (px_s1 lv6 3 (oI ((D k : Int) + 1))) 2 = some (oI (b)) := s1_ne (by decide) (fun _ => rfl) l2
            replace l4 : px_lg (px_s1 lv6 3 (oI ((D k : Int) + 1))) 4 = some (oI (0)) := s1_ne (by decide) (fun _ => rfl) l4
            replace l6 : px_lg (px_s1 lv6 3 (oI ((D k : Int) + 1))) 6 = some (oI ((fA g 222 k) / 1048576)) := s1_ne (by decide) (fun _ => rfl) l6
            replace l7 : px_lg (px_s1 lv6 3 (oI ((D k : Int) + 1))) 7 = some (oI ((fA g 222 k) % 1048576)) := s1_ne (by decide) (fun _ => rfl) l7
            replace l5 : px_lg (px_s1 lv6 3 (oI ((D k : Int) + 1))) 5 = some (oI ((k : Int) + 1)) := s1_ne (by decide) (fun _ => rfl) l5
            have l3 : px_lg (px_s1 lv6 3 (oI ((D k : Int) + 1))) 3 = some (oI ((D k : Int) + 1)) := s1_eq
            generalize px_s1 lv6 3 (oI ((D k : Int) + 1)) = lv58 at l0 l2 l4 l6 l7 l5 l3 ⊢
            show t_X d 178 92 lv58 [] g57 P
            refine t_1 qct_92 rfl (pb_goto (pc := 92) (by decide)) ?_
            show t_X d 178 232 lv58 [] g57 P
            refine t_1 qct_232 rfl (pb_goto (pc := 232) (by decide)) ?_
            show t_X d 178 16 lv58 [] g57 P
            exact ih (k + 1) _ _ _ _ (by omega) (by omega) (by omega) (by omega) (by omega) hJ57 ((a57 222 (by decide)).trans hc) l0 l2 l3 l4 l5
          · show t_X d 178 75 lv6 [oI ((D k : Int)), pvR 227] g P
            refine t_0 qct_75 rfl (ld_i l7) ?_
            refine t_1 qct_77 rfl (pb_goto (pc := 77) (by decide)) ?_
            show t_X d 178 87 lv6 [oI ((fA g 222 k) % 1048576), oI ((D k : Int)), pvR 227] g P
            refine tw_a qct_87 hJ el_227 rfl w_a227 ga_227 (by decide) ⟨by omega, by omega⟩ ⟨by omega, by omega⟩ (fun g59 hJ59 a59 v59 b59 f59 => ?_)
            replace f59 := fF_1 f59
            show t_X d 178 88 lv6 [] g59 P
            refine t_0 qct_88 rfl (ld_i l3) ?_
            refine t_0 qct_89 rfl rfl ?_
            refine t_0 qct_90 rfl pq_add ?_
            refine t_2 qct_91 rfl (w := (px_s1 lv6 3 (oI ((D k : Int) + 1)), [])) rfl ?_
            replace l0 : px_lg (px_s1 lv6 3 (oI ((D k : Int) + 1))) 0 = some (pvR 196) := s1_ne (by decide) (fun _ => rfl) l0
            replace l2 : px_lg (px_s1 lv6 3 (oI ((D k : Int) + 1))) 2 = some (oI (b)) := s1_ne (by decide) (fun _ => rfl) l2
            replace l4 : px_lg (px_s1 lv6 3 (oI ((D k : Int) + 1))) 4 = some (oI (0)) := s1_ne (by decide) (fun _ => rfl) l4
            replace l6 : px_lg (px_s1 lv6 3 (oI ((D k : Int) + 1))) 6 = some (oI ((fA g 222 k) / 1048576)) := s1_ne (by decide) (fun _ => rfl) l6
            replace l7 : px_lg (px_s1 lv6 3 (oI ((D k : Int) + 1))) 7 = some (oI ((fA g 222 k) % 1048576)) := s1_ne (by decide) (fun _ => rfl) l7
            replace l5 : px_lg (px_s1 lv6 3 (oI ((D k : Int) + 1))) 5 = some (oI ((k : Int) + 1)) := s1_ne (by decide) (fun _ => rfl) l5
            have l3 : px_lg (px_s1 lv6 3 (oI ((D k : Int) + 1))) 3 = some (oI ((D k : Int) + 1)) := s1_eq
            generalize px_s1 lv6 3 (oI ((D k : Int) + 1)) = lv60 at l0 l2 l4 l6 l7 l5 l3 ⊢
            show t_X d 178 92 lv60 [] g59 P
            refine t_1 qct_92 rfl (pb_goto (pc := 92) (by decide)) ?_
            show t_X d 178 232 lv60 [] g59 P
            refine t_1 qct_232 rfl (pb_goto (pc := 232) (by decide)) ?_
            show t_X d 178 16 lv60 [] g59 P
            exact ih (k + 1) _ _ _ _ (by omega) (by omega) (by omega) (by omega) (by omega) hJ59 ((a59 222 (by decide)).trans hc) l0 l2 l3 l4 l5
    · have hkb2 : (k : Int) = b := by omega
      refine t_0 qct_16 rfl (ld_i l5) ?_
      refine t_0 qct_18 rfl (ld_i l2) ?_
      refine tb_ge qct_19 (by decide) ⟨by omega, by omega⟩ ⟨by omega, by omega⟩ (fun c1 => ?_) (fun c1 => absurd c1 (by omega))
      show t_X d 178 235 lv [] g P
      refine t_0 qct_235 rfl (ld_a l0) ?_
      refine t_0 qct_236 rfl (ar_47 hJ.1) ?_
      refine t_0 qct_239 rfl rfl ?_
      refine t_0 qct_240 rfl (pq_ia (e := 0) el_227 rfl ⟨by omega, by omega⟩) ?_
      refine t_5 qct_241 rfl rfl ?_
      exact hP _ _ (fA_b _ _ _) hJ
set_option maxHeartbeats 4000000 in
theorem ct_run {d W : Nat} (hd : 1 ≤ d) (w_a227 : W.testBit (cn 227) = true) {h0 g : pH} {c : Nat → Int} {a b : Int} {D : Nat → Nat} (hC : cOK c D a b) {P : Option pv × pH → Prop} (hP : ∀ (g : pH) (z : Int), -2147483648 ≤ z ∧ z ≤ 2147483647 → J_ W h0 g → P (some (oI z), g)) {lv : List (Nat × pv)} (hJ : J_ W h0 g) (hc : fA g 222 = c) (l0 : px_lg lv 0 = some (pvR 196)) (l1 : px_lg lv 1 = some (oI a)) (l2 : px_lg lv 2 = some (oI b)) : t_X d 178 0 lv [] g P := by
  have hC1 := hC.1
  have hC2 := hC.2.1
  have hC3 := hC.2.2.1
  have hC4 := hC.2.2.2.1
  have hb0 : 260 * (a / 260) = 0 := by omega
  refine t_0 qct_0 rfl rfl ?_
  refine t_2 qct_1 rfl (w := (px_s1 lv 3 (oI (0)), [])) rfl ?_
  replace l0 : px_lg (px_s1 lv 3 (oI (0))) 0 = some (pvR 196) := s1_ne (by decide) (fun _ => rfl) l0
  replace l1 : px_lg (px_s1 lv 3 (oI (0))) 1 = some (oI (a)) := s1_ne (by decide) (fun _ => rfl) l1
  replace l2 : px_lg (px_s1 lv 3 (oI (0))) 2 = some (oI (b)) := s1_ne (by decide) (fun _ => rfl) l2
  have l3 : px_lg (px_s1 lv 3 (oI (0))) 3 = some (oI (0)) := s1_eq
  generalize px_s1 lv 3 (oI (0)) = lv1 at l0 l1 l2 l3 ⊢
  show t_X d 178 2 lv1 [] g P
  refine t_0 qct_2 rfl (pq_s (by decide)) ?_
  refine t_0 qct_5 rfl (ld_i l1) ?_
  refine t_0 qct_6 rfl (pq_s (by decide)) ?_
  refine t_0 qct_9 rfl (pq_div ⟨by omega, by omega⟩ ⟨by omega, by omega⟩) ?_
  refine t_0 qct_10 rfl pq_mul ?_
  refine t_2 qct_11 rfl (w := (px_s1 lv1 4 (oI (260 * (a / 260))), [])) rfl ?_
  replace l0 : px_lg (px_s1 lv1 4 (oI (260 * (a / 260)))) 0 = some (pvR 196) := s1_ne (by decide) (fun _ => rfl) l0
  replace l1 : px_lg (px_s1 lv1 4 (oI (260 * (a / 260)))) 1 = some (oI (a)) := s1_ne (by decide) (fun _ => rfl) l1
  replace l2 : px_lg (px_s1 lv1 4 (oI (260 * (a / 260)))) 2 = some (oI (b)) := s1_ne (by decide) (fun _ => rfl) l2
  replace l3 : px_lg (px_s1 lv1 4 (oI (260 * (a / 260)))) 3 = some (oI (0)) := s1_ne (by decide) (fun _ => rfl) l3
  have l4 : px_lg (px_s1 lv1 4 (oI (260 * (a / 260)))) 4 = some (oI (260 * (a / 260))) := s1_eq
  generalize px_s1 lv1 4 (oI (260 * (a / 260))) = lv2 at l0 l1 l2 l3 l4 ⊢
  show t_X d 178 13 lv2 [] g P
  refine t_0 qct_13 rfl (ld_i l1) ?_
  refine t_2 qct_14 rfl (w := (px_s1 lv2 5 (oI (a)), [])) rfl ?_
  replace l0 : px_lg (px_s1 lv2 5 (oI (a))) 0 = some (pvR 196) := s1_ne (by decide) (fun _ => rfl) l0
  replace l1 : px_lg (px_s1 lv2 5 (oI (a))) 1 = some (oI (a)) := s1_ne (by decide) (fun _ => rfl) l1
  replace l2 : px_lg (px_s1 lv2 5 (oI (a))) 2 = some (oI (b)) := s1_ne (by decide) (fun _ => rfl) l2
  replace l3 : px_lg (px_s1 lv2 5 (oI (a))) 3 = some (oI (0)) := s1_ne (by decide) (fun _ => rfl) l3
  replace l4 : px_lg (px_s1 lv2 5 (oI (a))) 4 = some (oI (260 * (a / 260))) := s1_ne (by decide) (fun _ => rfl) l4
  have l5 : px_lg (px_s1 lv2 5 (oI (a))) 5 = some (oI (a)) := s1_eq
  generalize px_s1 lv2 5 (oI (a)) = lv3 at l0 l1 l2 l3 l4 l5 ⊢
  show t_X d 178 16 lv3 [] g P
  exact ct_loop hd w_a227 hC hP b.toNat a.toNat _ _ _ _ (by omega) (by omega) (by omega) (by omega) (by rw [hC4]; rfl) hJ hc l0 l2 l3 (by rw [l4]; exact congrArg (fun u => some (oI u)) hb0) l5
def xL (h : pH) : Prop := ∀ q : Nat, (q : Int) < fF h 35 → ∃ D1 D2 : Nat → Nat, cOK (fA h 222) D1 (fA h 224 q) (fA h 225 q) ∧ cOK (fA h 222) D2 (fA h 225 q) (fA h 226 q)
theorem dx_t : eDX.testBit (cn 196 + 35) = true ∧ eDX.testBit (cn 222) = true ∧ eDX.testBit (cn 224) = true ∧ eDX.testBit (cn 225) = true ∧ eDX.testBit (cn 226) = true := by decide +kernel
theorem dx_f {V i : Nat} (h : V &&& eDX = 0) (hi : eDX.testBit i = true) : V.testBit i = false := by
  have : (V &&& eDX).testBit i = false := by rw [h, Nat.zero_testBit]
  rw [Nat.testBit_and, hi, Bool.and_true] at this
  exact this
theorem fF_M {V : Nat} {h h' : pH} (hM : f_M V h h') {y : Nat} (hy : V.testBit (cn 196 + y) = false) : fF h' y = fF h y := congrArg Int32.toInt (hM.1 196 y hy).1
theorem fA_M {V : Nat} {h h' : pH} (hM : f_M V h h') {k : Nat} (hy : V.testBit (cn k) = false) : fA h' k = fA h k := by
  funext j
  show (h'.2.2.2.1 k j).toInt = (h.2.2.2.1 k j).toInt
  rw [(hM.2 k hy).1]
theorem xL_e {h h' : pH} (e0 : fF h' 35 = fF h 35) (e1 : fA h' 222 = fA h 222) (e2 : fA h' 224 = fA h 224) (e3 : fA h' 225 = fA h 225) (e4 : fA h' 226 = fA h 226) (hx : xL h) : xL h' := by
  intro q hq
  rw [e0] at hq
  rw [e1, e2, e3, e4]
  exact hx q hq
theorem xL_K : x_K xL eDX := fun V h h' hM hV hx => xL_e (fF_M hM (dx_f hV dx_t.1)) (fA_M hM (dx_f hV dx_t.2.1)) (fA_M hM (dx_f hV dx_t.2.2.1)) (fA_M hM (dx_f hV dx_t.2.2.2.1)) (fA_M hM (dx_f hV dx_t.2.2.2.2)) hx
set_option maxHeartbeats 8000000 in
theorem bl_loop {d W : Nat} (hd : 2 ≤ d) (w_a227 : W.testBit (cn 227) = true) (hDX : W &&& eDX = 0) {h0 : pH} (hx0 : xL h0) {a b : Int} (ha : -2147483648 ≤ a ∧ a ≤ 2147483647) (hb : 0 ≤ b ∧ b ≤ 999) {P : Option pv × pH → Prop} (hP : ∀ (g : pH) (z : Int), 0 ≤ z → z ≤ b → J_ W h0 g → P (some (oI z), g)) (s_35 : ∀ g : pH, J_ W h0 g → fF g 35 = fF h0 35) : ∀ (m q : Nat) (g : pH) (lv : List (Nat × pv)), fF h0 35 - q ≤ m → (q : Int) ≤ 16 → J_ W h0 g → px_lg lv 0 = some (pvR 196) → px_lg lv 1 = some (oI a) → px_lg lv 2 = some (oI b) → px_lg lv 3 = some (oI (q : Int)) → t_X d 173 2 lv [] g P := by
  intro m
  induction m with
  | zero =>
    intro q g lv hm hq hJ l0 l1 l2 l3
    have h35 := s_35 g hJ
    refine t_0 qbl_2 rfl (ld_i l3) ?_
    refine t_0 qbl_3 rfl (ld_a l0) ?_
    have r1 := gb_f hJ.1 (y := 35) rfl rfl gf_35
    refine t_0 qbl_4 rfl (pq_gf (y := 35) rfl) ?_
    refine tb_ge qbl_7 (by decide) ⟨by omega, by omega⟩ ⟨by omega, by omega⟩ (fun c2 => ?_) (fun c2 => absurd c2 (by omega))
    show t_X d 173 89 lv [] g P
    refine t_0 qbl_89 rfl rfl ?_
    refine t_5 qbl_90 rfl rfl ?_
    exact hP _ _ (by omega) (by omega) hJ
  | succ m ih =>
    intro q g lv hm hq hJ l0 l1 l2 l3
    have h35 := s_35 g hJ
    have hb35 := gb_f hJ.1 (y := 35) rfl rfl gf_35
    by_cases hlt : fF g 35 ≤ q
    · refine t_0 qbl_2 rfl (ld_i l3) ?_
      refine t_0 qbl_3 rfl (ld_a l0) ?_
      have r1 := gb_f hJ.1 (y := 35) rfl rfl gf_35
      refine t_0 qbl_4 rfl (pq_gf (y := 35) rfl) ?_
      refine tb_ge qbl_7 (by decide) ⟨by omega, by omega⟩ ⟨by omega, by omega⟩ (fun c2 => ?_) (fun c2 => absurd c2 (by omega))
      show t_X d 173 89 lv [] g P
      refine t_0 qbl_89 rfl rfl ?_
      refine t_5 qbl_90 rfl rfl ?_
      exact hP _ _ (by omega) (by omega) hJ
    have hxg : xL g := xL_K _ _ _ hJ.2 hDX hx0
    obtain ⟨D1, D2, hx1, hx2⟩ := hxg q (by omega)
    refine t_0 qbl_2 rfl (ld_i l3) ?_
    refine t_0 qbl_3 rfl (ld_a l0) ?_
    have r1 := gb_f hJ.1 (y := 35) rfl rfl gf_35
    refine t_0 qbl_4 rfl (pq_gf (y := 35) rfl) ?_
    refine tb_ge qbl_7 (by decide) ⟨by omega, by omega⟩ ⟨by omega, by omega⟩ (fun c2 => absurd c2 (by omega)) (fun c2 => ?_)
    show t_X d 173 10 lv [] g P
    refine t_0 qbl_10 rfl (ld_a l0) ?_
    refine t_0 qbl_11 rfl (ar_43 hJ.1) ?_
    refine t_0 qbl_14 rfl (ld_i l3) ?_
    refine t_0 qbl_15 rfl (pq_ia el_223 rfl ⟨by omega, by omega⟩) ?_
    show t_X d 173 16 lv [oI (fA g 223 q)] g P
    have r3 := fA_b g 223 q
    refine t_0 qbl_16 rfl (ld_i l1) ?_
    refine tb_ne qbl_17 (by decide) ⟨by omega, by omega⟩ ⟨by omega, by omega⟩ (fun c4 => ?_) (fun c4 => ?_)
    · show t_X d 173 83 lv [] g P
      refine t_2 qbl_83 rfl (w := (px_s1 lv 3 (oI ((q : Int) + 1)), [])) (pq_inc l3 (by decide)) ?_
      replace l0 : px_lg (px_s1 lv 3 (oI ((q : Int) + 1))) 0 = some (pvR 196) := s1_ne (by decide) (fun _ => rfl) l0
      replace l1 : px_lg (px_s1 lv 3 (oI ((q : Int) + 1))) 1 = some (oI (a)) := s1_ne (by decide) (fun _ => rfl) l1
      replace l2 : px_lg (px_s1 lv 3 (oI ((q : Int) + 1))) 2 = some (oI (b)) := s1_ne (by decide) (fun _ => rfl) l2
      have l3 : px_lg (px_s1 lv 3 (oI ((q : Int) + 1))) 3 = some (oI ((q : Int) + 1)) := s1_eq
      generalize px_s1 lv 3 (oI ((q : Int) + 1)) = lv5 at l0 l1 l2 l3 ⊢
      show t_X d 173 86 lv5 [] g P
      refine t_1 qbl_86 rfl (pb_goto (pc := 86) (by decide)) ?_
      show t_X d 173 2 lv5 [] g P
      exact ih (q + 1) _ _ (by have := s_35 _ hJ; omega) (by omega) hJ l0 l1 l2 l3
    · show t_X d 173 20 lv [] g P
      refine t_0 qbl_20 rfl (ld_a l0) ?_
      refine t_0 qbl_21 rfl (ld_a l0) ?_
      refine t_0 qbl_22 rfl (ar_45 hJ.1) ?_
      refine t_0 qbl_25 rfl (ld_i l3) ?_
      refine t_0 qbl_26 rfl (pq_ia el_225 rfl ⟨by omega, by omega⟩) ?_
      show t_X d 173 27 lv [oI (fA g 225 q), pvR 196] g P
      have r6 := fA_b g 225 q
      refine t_0 qbl_27 rfl (ld_a l0) ?_
      refine t_0 qbl_28 rfl (ar_46 hJ.1) ?_
      refine t_0 qbl_31 rfl (ld_i l3) ?_
      refine t_0 qbl_32 rfl (pq_ia el_226 rfl ⟨by omega, by omega⟩) ?_
      show t_X d 173 33 lv [oI (fA g 226 q), oI (fA g 225 q), pvR 196] g P
      have r7 := fA_b g 226 q
      refine t_3 qbl_33 rfl (ar := ([pvR 196, oI (fA g 225 q), oI (fA g 226 q)], [])) (pcal_v2 rfl rfl el_196) ⟨by omega, Nat.le_of_ble_eq_true rfl, Nat.le_of_ble_eq_true rfl, rfl⟩ ?_
      refine ct_run (by omega) w_a227 hx2 (P := _) (fun g8 z8 hz8 hJ8 => ?_) hJ rfl rfl rfl rfl
      show t_X d 173 36 lv [oI (z8)] g8 P
      obtain ⟨D3, D4, hy1, hy2⟩ := xL_K _ _ _ hJ8.2 hDX hx0 q (by have := s_35 _ hJ8; omega)
      refine t_0 qbl_36 rfl rfl ?_
      refine tb_eq qbl_37 (by decide) ⟨by omega, by omega⟩ ⟨by omega, by omega⟩ (fun c9 => ?_) (fun c9 => ?_)
      · show t_X d 173 43 lv [] g8 P
        refine t_0 qbl_43 rfl (ld_a l0) ?_
        refine t_0 qbl_44 rfl (ld_a l0) ?_
        refine t_0 qbl_45 rfl (ar_44 hJ8.1) ?_
        refine t_0 qbl_48 rfl (ld_i l3) ?_
        refine t_0 qbl_49 rfl (pq_ia el_224 rfl ⟨by omega, by omega⟩) ?_
        show t_X d 173 50 lv [oI (fA g8 224 q), pvR 196] g8 P
        have r10 := fA_b g8 224 q
        refine t_0 qbl_50 rfl (ld_a l0) ?_
        refine t_0 qbl_51 rfl (ar_45 hJ8.1) ?_
        refine t_0 qbl_54 rfl (ld_i l3) ?_
        refine t_0 qbl_55 rfl (pq_ia el_225 rfl ⟨by omega, by omega⟩) ?_
        show t_X d 173 56 lv [oI (fA g8 225 q), oI (fA g8 224 q), pvR 196] g8 P
        have r11 := fA_b g8 225 q
        refine t_3 qbl_56 rfl (ar := ([pvR 196, oI (fA g8 224 q), oI (fA g8 225 q)], [])) (pcal_v2 rfl rfl el_196) ⟨by omega, Nat.le_of_ble_eq_true rfl, Nat.le_of_ble_eq_true rfl, rfl⟩ ?_
        refine ct_run (by omega) w_a227 hy1 (P := _) (fun g12 z12 hz12 hJ12 => ?_) hJ8 rfl rfl rfl rfl
        show t_X d 173 59 lv [oI (z12)] g12 P
        refine t_2 qbl_59 rfl (w := (px_s1 lv 4 (oI (z12)), [])) rfl ?_
        replace l0 : px_lg (px_s1 lv 4 (oI (z12))) 0 = some (pvR 196) := s1_ne (by decide) (fun _ => rfl) l0
        replace l1 : px_lg (px_s1 lv 4 (oI (z12))) 1 = some (oI (a)) := s1_ne (by decide) (fun _ => rfl) l1
        replace l2 : px_lg (px_s1 lv 4 (oI (z12))) 2 = some (oI (b)) := s1_ne (by decide) (fun _ => rfl) l2
        replace l3 : px_lg (px_s1 lv 4 (oI (z12))) 3 = some (oI ((q : Int))) := s1_ne (by decide) (fun _ => rfl) l3
        have l4 : px_lg (px_s1 lv 4 (oI (z12))) 4 = some (oI (z12)) := s1_eq
        generalize px_s1 lv 4 (oI (z12)) = lv13 at l0 l1 l2 l3 l4 ⊢
        show t_X d 173 61 lv13 [] g12 P
        refine t_0 qbl_61 rfl (ld_i l4) ?_
        refine tz_ge qbl_63 (by decide) ⟨by omega, by omega⟩ (fun c14 => ?_) (fun c14 => ?_)
        · show t_X d 173 70 lv13 [] g12 P
          refine t_0 qbl_70 rfl (ld_i l4) ?_
          refine t_0 qbl_72 rfl (ld_i l2) ?_
          refine tb_le qbl_73 (by decide) ⟨by omega, by omega⟩ ⟨by omega, by omega⟩ (fun c15 => ?_) (fun c15 => ?_)
          · show t_X d 173 80 lv13 [] g12 P
            refine t_0 qbl_80 rfl (ld_i l4) ?_
            refine t_5 qbl_82 rfl rfl ?_
            exact hP _ _ (by omega) (by omega) hJ12
          · show t_X d 173 76 lv13 [] g12 P
            refine t_0 qbl_76 rfl (ld_i l2) ?_
            refine t_1 qbl_77 rfl (pb_goto (pc := 77) (by decide)) ?_
            show t_X d 173 82 lv13 [oI (b)] g12 P
            refine t_5 qbl_82 rfl rfl ?_
            exact hP _ _ (by omega) (by omega) hJ12
        · show t_X d 173 66 lv13 [] g12 P
          refine t_0 qbl_66 rfl rfl ?_
          refine t_1 qbl_67 rfl (pb_goto (pc := 67) (by decide)) ?_
          show t_X d 173 82 lv13 [oI (0)] g12 P
          refine t_5 qbl_82 rfl rfl ?_
          exact hP _ _ (by omega) (by omega) hJ12
      · show t_X d 173 40 lv [] g8 P
        refine t_1 qbl_40 rfl (pb_goto (pc := 40) (by decide)) ?_
        show t_X d 173 83 lv [] g8 P
        refine t_2 qbl_83 rfl (w := (px_s1 lv 3 (oI ((q : Int) + 1)), [])) (pq_inc l3 (by decide)) ?_
        replace l0 : px_lg (px_s1 lv 3 (oI ((q : Int) + 1))) 0 = some (pvR 196) := s1_ne (by decide) (fun _ => rfl) l0
        replace l1 : px_lg (px_s1 lv 3 (oI ((q : Int) + 1))) 1 = some (oI (a)) := s1_ne (by decide) (fun _ => rfl) l1
        replace l2 : px_lg (px_s1 lv 3 (oI ((q : Int) + 1))) 2 = some (oI (b)) := s1_ne (by decide) (fun _ => rfl) l2
        have l3 : px_lg (px_s1 lv 3 (oI ((q : Int) + 1))) 3 = some (oI ((q : Int) + 1)) := s1_eq
        generalize px_s1 lv 3 (oI ((q : Int) + 1)) = lv16 at l0 l1 l2 l3 ⊢
        show t_X d 173 86 lv16 [] g8 P
        refine t_1 qbl_86 rfl (pb_goto (pc := 86) (by decide)) ?_
        show t_X d 173 2 lv16 [] g8 P
        exact ih (q + 1) _ _ (by have := s_35 _ hJ8; omega) (by omega) hJ8 l0 l1 l2 l3
set_option maxHeartbeats 4000000 in
theorem bl_run {d W : Nat} (hd : 2 ≤ d) (w_a227 : W.testBit (cn 227) = true) (hDX : W &&& eDX = 0) {h0 g : pH} (hx0 : xL h0) {a b : Int} (ha : -2147483648 ≤ a ∧ a ≤ 2147483647) (hb : 0 ≤ b ∧ b ≤ 999) {P : Option pv × pH → Prop} (hP : ∀ (g : pH) (z : Int), 0 ≤ z → z ≤ b → J_ W h0 g → P (some (oI z), g)) {lv : List (Nat × pv)} (hJ : J_ W h0 g) (l0 : px_lg lv 0 = some (pvR 196)) (l1 : px_lg lv 1 = some (oI a)) (l2 : px_lg lv 2 = some (oI b)) : t_X d 173 0 lv [] g P := by
  refine t_0 qbl_0 rfl rfl ?_
  refine t_2 qbl_1 rfl (w := (px_s1 lv 3 (oI (0)), [])) rfl ?_
  replace l0 : px_lg (px_s1 lv 3 (oI (0))) 0 = some (pvR 196) := s1_ne (by decide) (fun _ => rfl) l0
  replace l1 : px_lg (px_s1 lv 3 (oI (0))) 1 = some (oI (a)) := s1_ne (by decide) (fun _ => rfl) l1
  replace l2 : px_lg (px_s1 lv 3 (oI (0))) 2 = some (oI (b)) := s1_ne (by decide) (fun _ => rfl) l2
  have l3 : px_lg (px_s1 lv 3 (oI (0))) 3 = some (oI (0)) := s1_eq
  generalize px_s1 lv 3 (oI (0)) = lv1 at l0 l1 l2 l3 ⊢
  show t_X d 173 2 lv1 [] g P
  exact bl_loop hd w_a227 hDX hx0 ha hb hP (fun g hg => fF_M hg.2 (dx_f hDX dx_t.1)) 16 0 _ _ (by have := gb_f hJ.1 (y := 35) rfl rfl gf_35; have := fF_M hJ.2 (dx_f hDX dx_t.1); omega) (by omega) hJ l0 l1 l2 l3
theorem kk187_w : kk_187.2.2.2.1.testBit (cn 227) = true := by decide +kernel
theorem kk187_x : kk_187.2.2.2.1 &&& eDX = 0 := by decide +kernel
theorem h_187 (d : Nat) : k_S eG xL kk_187 d := by
  intro vs h xs ys m hG hx hM _ _ _
  obtain ⟨hd4, hL, hF, -⟩ := hM
  have e9 := m_F_nil hF
  subst e9
  obtain ⟨x0, ys0, rfl, ⟨v0, a1, a2, a3, a4⟩, hL⟩ := m_L_cons hL
  obtain ⟨x1, ys1, rfl, ⟨v1, b1, b2, b3, b4⟩, hL⟩ := m_L_cons hL
  obtain ⟨x2, ys2, rfl, ⟨v2, c1, c2, c3, c4⟩, hL⟩ := m_L_cons hL
  have e9 := m_L_nil hL
  subst e9
  obtain ⟨q, rfl⟩ := ct_2 a2
  obtain ⟨n, rfl⟩ := ct_0 b2
  obtain ⟨k, rfl⟩ := ct_0 c2
  subst a3 b3 c3
  have eq := cv_r a4
  subst eq
  rw [oI_r n] at b1
  rw [oI_r k] at c1
  have hd5 : 8 ≤ d := hd4
  have hk : 0 ≤ k.toInt ∧ k.toInt ≤ 999 := ⟨c4.1, c4.2.1⟩
  refine bl_run (W := kk_187.2.2.2.1) (by omega) kk187_w kk187_x hx (i32_b n) hk (P := fun o => g_I eG o.2 ∧ xL o.2 ∧ f_M kk_187.2.2.2.1 h o.2 ∧ ∃ p ∈ kk_187.2.2.2.2, ∃ zs, m_P p ((d : Int) :: ([cv (.inr (.inr (some 196))), cv (.inl n), cv (.inl k)] ++ [])) o.1 o.2 zs) (fun g z h1 h2 hg => ⟨hg.1, xL_K _ _ _ hg.2 kk187_x hx, hg.2, _, List.mem_cons_self .., [z], ⟨oI z, z, [], rfl, ⟨rfl, oT (by omega) (by omega), h1, by show z ≤ 999; omega, Or.inl rfl⟩, rfl, trivial⟩, fun c hc => ?_⟩) ⟨hG, f_M_rf _ _⟩ a1 b1 c1
  have hc := List.mem_singleton.mp hc
  subst hc
  exact ⟨z - k.toInt, ⟨1 * z + (-1 * k.toInt + 0), rfl, by omega⟩, by omega⟩
