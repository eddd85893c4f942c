/-! the law of the reference as it is asked, exactly (printed by wip/e2/x8.py) -/
theorem nct_0 : xe_look (xc 178) 0 = some (.iconst 0, 1, 0, 0, 0) := by decide +kernel
theorem nct_1 : xe_look (xc 178) 1 = some (.istore_n 3, 1, 0, 0, 0) := by decide +kernel
theorem nct_2 : xe_look (xc 178) 2 = some (.sipush 260, 3, 0, 0, 0) := by decide +kernel
theorem nct_5 : xe_look (xc 178) 5 = some (.iload_n 1, 1, 0, 0, 0) := by decide +kernel
theorem nct_6 : xe_look (xc 178) 6 = some (.sipush 260, 3, 0, 0, 0) := by decide +kernel
theorem nct_9 : xe_look (xc 178) 9 = some (.idiv, 1, 0, 0, 0) := by decide +kernel
theorem nct_10 : xe_look (xc 178) 10 = some (.imul, 1, 0, 0, 0) := by decide +kernel
theorem nct_11 : xe_look (xc 178) 11 = some (.istore 4, 2, 0, 0, 0) := by decide +kernel
theorem nct_13 : xe_look (xc 178) 13 = some (.iload_n 1, 1, 0, 0, 0) := by decide +kernel
theorem nct_14 : xe_look (xc 178) 14 = some (.istore 5, 2, 0, 0, 0) := by decide +kernel
theorem nct_16 : xe_look (xc 178) 16 = some (.iload 5, 2, 0, 0, 0) := by decide +kernel
theorem nct_18 : xe_look (xc 178) 18 = some (.iload_n 2, 1, 0, 0, 0) := by decide +kernel
theorem nct_19 : xe_look (xc 178) 19 = some (.if_icmp .ge 216, 3, 0, 0, 0) := by decide +kernel
theorem nct_22 : xe_look (xc 178) 22 = some (.aload_n 0, 1, 0, 0, 0) := by decide +kernel
theorem nct_23 : xe_look (xc 178) 23 = some (.getfield 86, 3, 12, 42, 1150) := by decide +kernel
theorem nct_26 : xe_look (xc 178) 26 = some (.iload 5, 2, 0, 0, 0) := by decide +kernel
theorem nct_28 : xe_look (xc 178) 28 = some (.iaload, 1, 0, 0, 0) := by decide +kernel
theorem nct_29 : xe_look (xc 178) 29 = some (.ldc_w 299, 3, 0, 2148532224, 1151) := by decide +kernel
theorem nct_32 : xe_look (xc 178) 32 = some (.idiv, 1, 0, 0, 0) := by decide +kernel
theorem nct_33 : xe_look (xc 178) 33 = some (.istore 6, 2, 0, 0, 0) := by decide +kernel
theorem nct_35 : xe_look (xc 178) 35 = some (.aload_n 0, 1, 0, 0, 0) := by decide +kernel
theorem nct_36 : xe_look (xc 178) 36 = some (.getfield 86, 3, 12, 42, 1150) := by decide +kernel
theorem nct_39 : xe_look (xc 178) 39 = some (.iload 5, 2, 0, 0, 0) := by decide +kernel
theorem nct_41 : xe_look (xc 178) 41 = some (.iaload, 1, 0, 0, 0) := by decide +kernel
theorem nct_42 : xe_look (xc 178) 42 = some (.ldc_w 299, 3, 0, 2148532224, 1151) := by decide +kernel
theorem nct_45 : xe_look (xc 178) 45 = some (.irem, 1, 0, 0, 0) := by decide +kernel
theorem nct_46 : xe_look (xc 178) 46 = some (.istore 7, 2, 0, 0, 0) := by decide +kernel
theorem nct_48 : xe_look (xc 178) 48 = some (.iload 5, 2, 0, 0, 0) := by decide +kernel
theorem nct_50 : xe_look (xc 178) 50 = some (.iconst 1, 1, 0, 0, 0) := by decide +kernel
theorem nct_51 : xe_look (xc 178) 51 = some (.iadd, 1, 0, 0, 0) := by decide +kernel
theorem nct_52 : xe_look (xc 178) 52 = some (.istore 5, 2, 0, 0, 0) := by decide +kernel
theorem nct_54 : xe_look (xc 178) 54 = some (.iload 6, 2, 0, 0, 0) := by decide +kernel
theorem nct_56 : xe_look (xc 178) 56 = some (.ifCond .eq 9, 3, 0, 0, 0) := by decide +kernel
theorem nct_59 : xe_look (xc 178) 59 = some (.iload 6, 2, 0, 0, 0) := by decide +kernel
theorem nct_61 : xe_look (xc 178) 61 = some (.iconst 1, 1, 0, 0, 0) := by decide +kernel
theorem nct_62 : xe_look (xc 178) 62 = some (.if_icmp .ne 33, 3, 0, 0, 0) := by decide +kernel
theorem nct_65 : xe_look (xc 178) 65 = some (.aload_n 0, 1, 0, 0, 0) := by decide +kernel
theorem nct_66 : xe_look (xc 178) 66 = some (.getfield 101, 3, 12, 47, 1152) := by decide +kernel
theorem nct_69 : xe_look (xc 178) 69 = some (.iload_n 3, 1, 0, 0, 0) := by decide +kernel
theorem nct_70 : xe_look (xc 178) 70 = some (.iload 6, 2, 0, 0, 0) := by decide +kernel
theorem nct_72 : xe_look (xc 178) 72 = some (.ifCond .ne 8, 3, 0, 0, 0) := by decide +kernel
theorem nct_75 : xe_look (xc 178) 75 = some (.iload 7, 2, 0, 0, 0) := by decide +kernel
theorem nct_77 : xe_look (xc 178) 77 = some (.goto 10, 3, 0, 0, 0) := by decide +kernel
theorem nct_80 : xe_look (xc 178) 80 = some (.aload_n 0, 1, 0, 0, 0) := by decide +kernel
theorem nct_81 : xe_look (xc 178) 81 = some (.getfield 104, 3, 12, 48, 1153) := by decide +kernel
theorem nct_84 : xe_look (xc 178) 84 = some (.iload 7, 2, 0, 0, 0) := by decide +kernel
theorem nct_86 : xe_look (xc 178) 86 = some (.iaload, 1, 0, 0, 0) := by decide +kernel
theorem nct_87 : xe_look (xc 178) 87 = some (.iastore, 1, 0, 0, 0) := by decide +kernel
theorem nct_88 : xe_look (xc 178) 88 = some (.iload_n 3, 1, 0, 0, 0) := by decide +kernel
theorem nct_89 : xe_look (xc 178) 89 = some (.iconst 1, 1, 0, 0, 0) := by decide +kernel
theorem nct_90 : xe_look (xc 178) 90 = some (.iadd, 1, 0, 0, 0) := by decide +kernel
theorem nct_91 : xe_look (xc 178) 91 = some (.istore_n 3, 1, 0, 0, 0) := by decide +kernel
theorem nct_92 : xe_look (xc 178) 92 = some (.goto 140, 3, 0, 0, 0) := by decide +kernel
theorem nct_95 : xe_look (xc 178) 95 = some (.iload 6, 2, 0, 0, 0) := by decide +kernel
theorem nct_97 : xe_look (xc 178) 97 = some (.bipush 10, 2, 0, 0, 0) := by decide +kernel
theorem nct_99 : xe_look (xc 178) 99 = some (.if_icmp .ne 24, 3, 0, 0, 0) := by decide +kernel
theorem nct_102 : xe_look (xc 178) 102 = some (.aload_n 0, 1, 0, 0, 0) := by decide +kernel
theorem nct_103 : xe_look (xc 178) 103 = some (.getfield 101, 3, 12, 47, 1152) := by decide +kernel
theorem nct_106 : xe_look (xc 178) 106 = some (.iload_n 3, 1, 0, 0, 0) := by decide +kernel
theorem nct_107 : xe_look (xc 178) 107 = some (.iconst 1, 1, 0, 0, 0) := by decide +kernel
theorem nct_108 : xe_look (xc 178) 108 = some (.isub, 1, 0, 0, 0) := by decide +kernel
theorem nct_109 : xe_look (xc 178) 109 = some (.iconst 1, 1, 0, 0, 0) := by decide +kernel
theorem nct_110 : xe_look (xc 178) 110 = some (.aload_n 0, 1, 0, 0, 0) := by decide +kernel
theorem nct_111 : xe_look (xc 178) 111 = some (.getfield 101, 3, 12, 47, 1152) := by decide +kernel
theorem nct_114 : xe_look (xc 178) 114 = some (.iload_n 3, 1, 0, 0, 0) := by decide +kernel
theorem nct_115 : xe_look (xc 178) 115 = some (.iconst 1, 1, 0, 0, 0) := by decide +kernel
theorem nct_116 : xe_look (xc 178) 116 = some (.isub, 1, 0, 0, 0) := by decide +kernel
theorem nct_117 : xe_look (xc 178) 117 = some (.iaload, 1, 0, 0, 0) := by decide +kernel
theorem nct_118 : xe_look (xc 178) 118 = some (.isub, 1, 0, 0, 0) := by decide +kernel
theorem nct_119 : xe_look (xc 178) 119 = some (.iastore, 1, 0, 0, 0) := by decide +kernel
theorem nct_120 : xe_look (xc 178) 120 = some (.goto 112, 3, 0, 0, 0) := by decide +kernel
theorem nct_123 : xe_look (xc 178) 123 = some (.iload 6, 2, 0, 0, 0) := by decide +kernel
theorem nct_125 : xe_look (xc 178) 125 = some (.bipush 11, 2, 0, 0, 0) := by decide +kernel
theorem nct_127 : xe_look (xc 178) 127 = some (.if_icmp .eq 10, 3, 0, 0, 0) := by decide +kernel
theorem nct_130 : xe_look (xc 178) 130 = some (.iload 6, 2, 0, 0, 0) := by decide +kernel
theorem nct_132 : xe_look (xc 178) 132 = some (.bipush 12, 2, 0, 0, 0) := by decide +kernel
theorem nct_134 : xe_look (xc 178) 134 = some (.if_icmp .ne 43, 3, 0, 0, 0) := by decide +kernel
theorem nct_137 : xe_look (xc 178) 137 = some (.aload_n 0, 1, 0, 0, 0) := by decide +kernel
theorem nct_138 : xe_look (xc 178) 138 = some (.getfield 101, 3, 12, 47, 1152) := by decide +kernel
theorem nct_141 : xe_look (xc 178) 141 = some (.iload_n 3, 1, 0, 0, 0) := by decide +kernel
theorem nct_142 : xe_look (xc 178) 142 = some (.iconst 1, 1, 0, 0, 0) := by decide +kernel
theorem nct_143 : xe_look (xc 178) 143 = some (.isub, 1, 0, 0, 0) := by decide +kernel
theorem nct_144 : xe_look (xc 178) 144 = some (.iaload, 1, 0, 0, 0) := by decide +kernel
theorem nct_145 : xe_look (xc 178) 145 = some (.iload 6, 2, 0, 0, 0) := by decide +kernel
theorem nct_147 : xe_look (xc 178) 147 = some (.bipush 12, 2, 0, 0, 0) := by decide +kernel
theorem nct_149 : xe_look (xc 178) 149 = some (.if_icmp .ne 7, 3, 0, 0, 0) := by decide +kernel
theorem nct_152 : xe_look (xc 178) 152 = some (.iconst 1, 1, 0, 0, 0) := by decide +kernel
theorem nct_153 : xe_look (xc 178) 153 = some (.goto 4, 3, 0, 0, 0) := by decide +kernel
theorem nct_156 : xe_look (xc 178) 156 = some (.iconst 0, 1, 0, 0, 0) := by decide +kernel
theorem nct_157 : xe_look (xc 178) 157 = some (.if_icmp .ne 13, 3, 0, 0, 0) := by decide +kernel
theorem nct_160 : xe_look (xc 178) 160 = some (.iload 4, 2, 0, 0, 0) := by decide +kernel
theorem nct_162 : xe_look (xc 178) 162 = some (.iload 7, 2, 0, 0, 0) := by decide +kernel
theorem nct_164 : xe_look (xc 178) 164 = some (.iadd, 1, 0, 0, 0) := by decide +kernel
theorem nct_165 : xe_look (xc 178) 165 = some (.istore 5, 2, 0, 0, 0) := by decide +kernel
theorem nct_167 : xe_look (xc 178) 167 = some (.goto 65, 3, 0, 0, 0) := by decide +kernel
theorem nct_170 : xe_look (xc 178) 170 = some (.iload_n 3, 1, 0, 0, 0) := by decide +kernel
theorem nct_171 : xe_look (xc 178) 171 = some (.iconst 1, 1, 0, 0, 0) := by decide +kernel
theorem nct_172 : xe_look (xc 178) 172 = some (.isub, 1, 0, 0, 0) := by decide +kernel
theorem nct_173 : xe_look (xc 178) 173 = some (.istore_n 3, 1, 0, 0, 0) := by decide +kernel
theorem nct_174 : xe_look (xc 178) 174 = some (.goto 58, 3, 0, 0, 0) := by decide +kernel
theorem nct_177 : xe_look (xc 178) 177 = some (.iload_n 3, 1, 0, 0, 0) := by decide +kernel
theorem nct_178 : xe_look (xc 178) 178 = some (.iconst 1, 1, 0, 0, 0) := by decide +kernel
theorem nct_179 : xe_look (xc 178) 179 = some (.isub, 1, 0, 0, 0) := by decide +kernel
theorem nct_180 : xe_look (xc 178) 180 = some (.istore_n 3, 1, 0, 0, 0) := by decide +kernel
theorem nct_181 : xe_look (xc 178) 181 = some (.iload 6, 2, 0, 0, 0) := by decide +kernel
theorem nct_183 : xe_look (xc 178) 183 = some (.iconst 5, 1, 0, 0, 0) := by decide +kernel
theorem nct_184 : xe_look (xc 178) 184 = some (.if_icmp .eq 10, 3, 0, 0, 0) := by decide +kernel
theorem nct_187 : xe_look (xc 178) 187 = some (.iload 6, 2, 0, 0, 0) := by decide +kernel
theorem nct_189 : xe_look (xc 178) 189 = some (.bipush 6, 2, 0, 0, 0) := by decide +kernel
theorem nct_191 : xe_look (xc 178) 191 = some (.if_icmp .ne 14, 3, 0, 0, 0) := by decide +kernel
theorem nct_194 : xe_look (xc 178) 194 = some (.aload_n 0, 1, 0, 0, 0) := by decide +kernel
theorem nct_195 : xe_look (xc 178) 195 = some (.getfield 101, 3, 12, 47, 1152) := by decide +kernel
theorem nct_198 : xe_look (xc 178) 198 = some (.iload_n 3, 1, 0, 0, 0) := by decide +kernel
theorem nct_199 : xe_look (xc 178) 199 = some (.iaload, 1, 0, 0, 0) := by decide +kernel
theorem nct_200 : xe_look (xc 178) 200 = some (.ifCond .ne 5, 3, 0, 0, 0) := by decide +kernel
theorem nct_203 : xe_look (xc 178) 203 = some (.iconst 0, 1, 0, 0, 0) := by decide +kernel
theorem nct_204 : xe_look (xc 178) 204 = some (.ireturn, 1, 0, 0, 0) := by decide +kernel
theorem nct_205 : xe_look (xc 178) 205 = some (.aload_n 0, 1, 0, 0, 0) := by decide +kernel
theorem nct_206 : xe_look (xc 178) 206 = some (.getfield 101, 3, 12, 47, 1152) := by decide +kernel
theorem nct_209 : xe_look (xc 178) 209 = some (.iload_n 3, 1, 0, 0, 0) := by decide +kernel
theorem nct_210 : xe_look (xc 178) 210 = some (.iconst 1, 1, 0, 0, 0) := by decide +kernel
theorem nct_211 : xe_look (xc 178) 211 = some (.isub, 1, 0, 0, 0) := by decide +kernel
theorem nct_212 : xe_look (xc 178) 212 = some (.iload 6, 2, 0, 0, 0) := by decide +kernel
theorem nct_214 : xe_look (xc 178) 214 = some (.aload_n 0, 1, 0, 0, 0) := by decide +kernel
theorem nct_215 : xe_look (xc 178) 215 = some (.getfield 101, 3, 12, 47, 1152) := by decide +kernel
theorem nct_218 : xe_look (xc 178) 218 = some (.iload_n 3, 1, 0, 0, 0) := by decide +kernel
theorem nct_219 : xe_look (xc 178) 219 = some (.iconst 1, 1, 0, 0, 0) := by decide +kernel
theorem nct_220 : xe_look (xc 178) 220 = some (.isub, 1, 0, 0, 0) := by decide +kernel
theorem nct_221 : xe_look (xc 178) 221 = some (.iaload, 1, 0, 0, 0) := by decide +kernel
theorem nct_222 : xe_look (xc 178) 222 = some (.aload_n 0, 1, 0, 0, 0) := by decide +kernel
theorem nct_223 : xe_look (xc 178) 223 = some (.getfield 101, 3, 12, 47, 1152) := by decide +kernel
theorem nct_226 : xe_look (xc 178) 226 = some (.iload_n 3, 1, 0, 0, 0) := by decide +kernel
theorem nct_227 : xe_look (xc 178) 227 = some (.iaload, 1, 0, 0, 0) := by decide +kernel
theorem nct_228 : xe_look (xc 178) 228 = some (.invokestatic 365, 3, 0, 242, 1154) := by decide +kernel
theorem nct_231 : xe_look (xc 178) 231 = some (.iastore, 1, 0, 0, 0) := by decide +kernel
theorem nct_232 : xe_look (xc 178) 232 = some (.goto (-216), 3, 0, 0, 0) := by decide +kernel
theorem nct_235 : xe_look (xc 178) 235 = some (.aload_n 0, 1, 0, 0, 0) := by decide +kernel
theorem nct_236 : xe_look (xc 178) 236 = some (.getfield 101, 3, 12, 47, 1152) := by decide +kernel
theorem nct_239 : xe_look (xc 178) 239 = some (.iconst 0, 1, 0, 0, 0) := by decide +kernel
theorem nct_240 : xe_look (xc 178) 240 = some (.iaload, 1, 0, 0, 0) := by decide +kernel
theorem nct_241 : xe_look (xc 178) 241 = some (.ireturn, 1, 0, 0, 0) := by decide +kernel
theorem nrj_0 : xe_look (xc 242) 0 = some (.iload_n 0, 1, 0, 0, 0) := by decide +kernel
theorem nrj_1 : xe_look (xc 242) 1 = some (.tableswitch 85 2 8 #[43, 47, 51, 55, 59, 63, 74], 43, 0, 0, 0) := by decide +kernel
theorem nrj_44 : xe_look (xc 242) 44 = some (.iload_n 1, 1, 0, 0, 0) := by decide +kernel
theorem nrj_45 : xe_look (xc 242) 45 = some (.iload_n 2, 1, 0, 0, 0) := by decide +kernel
theorem nrj_46 : xe_look (xc 242) 46 = some (.iadd, 1, 0, 0, 0) := by decide +kernel
theorem nrj_47 : xe_look (xc 242) 47 = some (.ireturn, 1, 0, 0, 0) := by decide +kernel
theorem nrj_48 : xe_look (xc 242) 48 = some (.iload_n 1, 1, 0, 0, 0) := by decide +kernel
theorem nrj_49 : xe_look (xc 242) 49 = some (.iload_n 2, 1, 0, 0, 0) := by decide +kernel
theorem nrj_50 : xe_look (xc 242) 50 = some (.isub, 1, 0, 0, 0) := by decide +kernel
theorem nrj_51 : xe_look (xc 242) 51 = some (.ireturn, 1, 0, 0, 0) := by decide +kernel
theorem nrj_52 : xe_look (xc 242) 52 = some (.iload_n 1, 1, 0, 0, 0) := by decide +kernel
theorem nrj_53 : xe_look (xc 242) 53 = some (.iload_n 2, 1, 0, 0, 0) := by decide +kernel
theorem nrj_54 : xe_look (xc 242) 54 = some (.imul, 1, 0, 0, 0) := by decide +kernel
theorem nrj_55 : xe_look (xc 242) 55 = some (.ireturn, 1, 0, 0, 0) := by decide +kernel
theorem nrj_56 : xe_look (xc 242) 56 = some (.iload_n 1, 1, 0, 0, 0) := by decide +kernel
theorem nrj_57 : xe_look (xc 242) 57 = some (.iload_n 2, 1, 0, 0, 0) := by decide +kernel
theorem nrj_58 : xe_look (xc 242) 58 = some (.idiv, 1, 0, 0, 0) := by decide +kernel
theorem nrj_59 : xe_look (xc 242) 59 = some (.ireturn, 1, 0, 0, 0) := by decide +kernel
theorem nrj_60 : xe_look (xc 242) 60 = some (.iload_n 1, 1, 0, 0, 0) := by decide +kernel
theorem nrj_61 : xe_look (xc 242) 61 = some (.iload_n 2, 1, 0, 0, 0) := by decide +kernel
theorem nrj_62 : xe_look (xc 242) 62 = some (.irem, 1, 0, 0, 0) := by decide +kernel
theorem nrj_63 : xe_look (xc 242) 63 = some (.ireturn, 1, 0, 0, 0) := by decide +kernel
theorem nrj_64 : xe_look (xc 242) 64 = some (.iload_n 1, 1, 0, 0, 0) := by decide +kernel
theorem nrj_65 : xe_look (xc 242) 65 = some (.iload_n 2, 1, 0, 0, 0) := by decide +kernel
theorem nrj_66 : xe_look (xc 242) 66 = some (.if_icmp .ge 7, 3, 0, 0, 0) := by decide +kernel
theorem nrj_69 : xe_look (xc 242) 69 = some (.iconst 1, 1, 0, 0, 0) := by decide +kernel
theorem nrj_70 : xe_look (xc 242) 70 = some (.goto 4, 3, 0, 0, 0) := by decide +kernel
theorem nrj_73 : xe_look (xc 242) 73 = some (.iconst 0, 1, 0, 0, 0) := by decide +kernel
theorem nrj_74 : xe_look (xc 242) 74 = some (.ireturn, 1, 0, 0, 0) := by decide +kernel
theorem nrj_75 : xe_look (xc 242) 75 = some (.iload_n 1, 1, 0, 0, 0) := by decide +kernel
theorem nrj_76 : xe_look (xc 242) 76 = some (.iload_n 2, 1, 0, 0, 0) := by decide +kernel
theorem nrj_77 : xe_look (xc 242) 77 = some (.if_icmp .le 7, 3, 0, 0, 0) := by decide +kernel
theorem nrj_80 : xe_look (xc 242) 80 = some (.iconst 1, 1, 0, 0, 0) := by decide +kernel
theorem nrj_81 : xe_look (xc 242) 81 = some (.goto 4, 3, 0, 0, 0) := by decide +kernel
theorem nrj_84 : xe_look (xc 242) 84 = some (.iconst 0, 1, 0, 0, 0) := by decide +kernel
theorem nrj_85 : xe_look (xc 242) 85 = some (.ireturn, 1, 0, 0, 0) := by decide +kernel
theorem nrj_86 : xe_look (xc 242) 86 = some (.iload_n 1, 1, 0, 0, 0) := by decide +kernel
theorem nrj_87 : xe_look (xc 242) 87 = some (.iload_n 2, 1, 0, 0, 0) := by decide +kernel
theorem nrj_88 : xe_look (xc 242) 88 = some (.if_icmp .ne 7, 3, 0, 0, 0) := by decide +kernel
theorem nrj_91 : xe_look (xc 242) 91 = some (.iconst 1, 1, 0, 0, 0) := by decide +kernel
theorem nrj_92 : xe_look (xc 242) 92 = some (.goto 4, 3, 0, 0, 0) := by decide +kernel
theorem nrj_95 : xe_look (xc 242) 95 = some (.iconst 0, 1, 0, 0, 0) := by decide +kernel
theorem nrj_96 : xe_look (xc 242) 96 = some (.ireturn, 1, 0, 0, 0) := by decide +kernel
def qW : Nat := 2 ^ cn 227
def qck : List (Nat × Nat) := []
def qca : List Nat := [227]
/-- the law of the reference as it is asked: the stack -/
abbrev qE (g0 g : pH) (s : tC) : Prop := sE qck qca qW g0 g [] [s]
theorem qc_u : qW.testBit (cn 227) = true := by decide +kernel
theorem qc_n : qW.testBit (cn 196 + 35) = false ∧ qW.testBit (cn 223) = false ∧ qW.testBit (cn 224) = false ∧ qW.testBit (cn 225) = false ∧ qW.testBit (cn 226) = false ∧ qW.testBit (cn 222) = false ∧ qW.testBit (cn 228) = false := by decide +kernel
section AT
variable {o v f s s2 : tC} {e m k n : Nat} {D : Nat → Nat × Bool}
theorem aop_t {c x y : Int} (h : 7 ≤ c) : aop c x y = 0 ∨ aop c x y = 1 := by
  unfold aop
  rw [if_neg (by omega), if_neg (by omega), if_neg (by omega), if_neg (by omega), if_neg (by omega)]
  repeat' split
  all_goals omega
/-- the top is 0 or 1 where it must be -/
def aT (D : Nat → Nat × Bool) (k n : Nat) (s : tC) : Prop := (D k).2 = true → s (n - 1) = 0 ∨ s (n - 1) = 1
theorem aT_p {x : Int} (h : D (k + 1) = ((D k).1 + 1, false)) : aT D (k + 1) (n + 1) (updI s n x) := fun z => by rw [h] at z; cases z
theorem aT_n (hb : (D k).2 = true) (ht : aT D k n s) : aT D (k + 1) n (updI s (n - 1) (b32 (1 - s (n - 1)))) := fun _ => by
  rw [wu_e]
  have := ht hb
  rw [b32_i (by omega) (by omega)]
  omega
theorem aT_f {x : Nat} (h : D (k + 1) = (x, false)) : aT D (k + 1) (n - 1) s := fun z => by rw [h] at z; cases z
theorem aT_j {t : Nat} (h : D t = D k) (ht : aT D k n s) : aT D t n s := fun z => by rw [h] at z; exact ht z
theorem aT_b {x y : Int} (hn : 2 ≤ n) (h : D (k + 1) = ((D k).1 - 1, decide (7 ≤ o k))) : aT D (k + 1) (n - 1) (updI s (n - 2) (aop (o k) x y)) := fun z => by
  rw [h] at z
  rw [show n - 1 - 1 = n - 2 by omega, wu_e]
  exact aop_t (of_decide_eq_true z)
/-- what is asked comes to 0 or 1, where the end says so -/
theorem am_t {a : Nat} (hst : ∀ k, a ≤ k → k < e → wst o v D k e) (hE : D e = (1, true)) : ∀ (m k n : Nat) (s : tC), e ≤ k + m → a ≤ k → k ≤ e → (D k).1 = n → aT D k n s → am o v f e m k n s = 0 ∨ am o v f e m k n s = 1 := by
  have fin : ∀ (m k n : Nat) (s : tC), k = e → (D k).1 = n → aT D k n s → am o v f e m k n s = 0 ∨ am o v f e m k n s = 1 := fun m k n s ek hD ht => by
    rw [am_e (by omega)]
    rw [ek] at ht hD
    have h1 := ht (by rw [hE])
    rw [hE] at hD
    have h2 : n - 1 = 0 := by
      have hD : 1 = n := hD
      omega
    rw [h2] at h1
    exact h1
  intro m
  induction m with
  | zero =>
    intro k n s hm hak hke hD ht
    exact fin 0 k n s (by omega) hD ht
  | succ m ih =>
    intro k n s hm hak hke hD ht
    by_cases ek : k = e
    · exact fin (m + 1) k n s ek hD ht
    have hke : k < e := by omega
    rcases hst k hak hke with ⟨hO | hO, hD1⟩ | ⟨hO, hV, hD0, hb, hD1⟩ | ⟨hO | hO, hD0, hb, hD1, t, hV, htk, hte, hDt⟩ | ⟨hB1, hB2, hV, hD0, hD1⟩
    · rw [am_0 hke hO.1]
      exact ih (k + 1) (n + 1) _ (by omega) (by omega) (by omega) (by rw [hD1, ← hD]) (aT_p hD1)
    · rw [am_1 hke hO.1]
      exact ih (k + 1) (n + 1) _ (by omega) (by omega) (by omega) (by rw [hD1, ← hD]) (aT_p hD1)
    · rw [am_n hke hO]
      exact ih (k + 1) n _ (by omega) (by omega) (by omega) (by rw [hD1, hD]) (aT_n hb ht)
    · by_cases hz : s (n - 1) = 0
      · rw [am_a hke hO hz, show (v k).toNat = t by omega]
        exact ih t n _ (by omega) (by omega) hte (by rw [hDt, hD]) (aT_j hDt ht)
      · rw [am_a2 hke hO hz]
        exact ih (k + 1) (n - 1) _ (by omega) (by omega) (by omega) (by rw [hD1, ← hD]) (aT_f hD1)
    · by_cases hz : s (n - 1) = 0
      · rw [am_o2 hke hO hz]
        exact ih (k + 1) (n - 1) _ (by omega) (by omega) (by omega) (by rw [hD1, ← hD]) (aT_f hD1)
      · rw [am_o hke hO hz, show (v k).toNat = t by omega]
        exact ih t n _ (by omega) (by omega) hte (by rw [hDt, hD]) (aT_j hDt ht)
    · by_cases hr : (o k = 5 ∨ o k = 6) ∧ s (n - 1) = 0
      · rw [am_r hke ⟨hB1, hB2⟩ hr]
        exact Or.inl rfl
      · rw [am_b hke ⟨hB1, hB2⟩ hr]
        exact ih (k + 1) (n - 1) _ (by omega) (by omega) (by omega) (by rw [hD1, ← hD]) (aT_b (by omega) hD1)
/-- what lies above the stack doesn't matter -/
theorem am_c {a : Nat} (hst : ∀ k, a ≤ k → k < e → wst o v D k e) (hE : (D e).1 = 1) : ∀ (m k n : Nat) (s s2 : tC), e ≤ k + m → a ≤ k → k ≤ e → (D k).1 = n → (∀ j, j < n → s j = s2 j) → am o v f e m k n s = am o v f e m k n s2 := by
  have fin : ∀ (m k n : Nat) (s s2 : tC), k = e → (D k).1 = n → (∀ j, j < n → s j = s2 j) → am o v f e m k n s = am o v f e m k n s2 := fun m k n s s2 ek hD ht => by
    rw [am_e (by omega), am_e (by omega)]
    rw [ek, hE] at hD
    exact ht 0 (by omega)
  have up : ∀ {n i : Nat} {s s2 : tC} {x y : Int}, (∀ j, j < n → j ≠ i → s j = s2 j) → x = y → ∀ j, j < n → updI s i x j = updI s2 i y j := fun {n i s s2 x y} h hxy j hj => by
    by_cases q : j = i
    · rw [q, wu_e, wu_e, hxy]
    · rw [wu_n q, wu_n q]
      exact h j hj q
  intro m
  induction m with
  | zero =>
    intro k n s s2 hm hak hke hD ht
    exact fin 0 k n s s2 (by omega) hD ht
  | succ m ih =>
    intro k n s s2 hm hak hke hD ht
    by_cases ek : k = e
    · exact fin (m + 1) k n s s2 ek hD ht
    have hke : k < e := by omega
    rcases hst k hak hke with ⟨hO | hO, hD1⟩ | ⟨hO, hV, hD0, hb, hD1⟩ | ⟨hO | hO, hD0, hb, hD1, t, hV, htk, hte, hDt⟩ | ⟨hB1, hB2, hV, hD0, hD1⟩
    · rw [am_0 hke hO.1, am_0 hke hO.1]
      exact ih (k + 1) (n + 1) _ _ (by omega) (by omega) (by omega) (by rw [hD1, ← hD]) (up (fun j hj q => ht j (by omega)) rfl)
    · rw [am_1 hke hO.1, am_1 hke hO.1]
      exact ih (k + 1) (n + 1) _ _ (by omega) (by omega) (by omega) (by rw [hD1, ← hD]) (up (fun j hj q => ht j (by omega)) rfl)
    · rw [am_n hke hO, am_n hke hO]
      exact ih (k + 1) n _ _ (by omega) (by omega) (by omega) (by rw [hD1, hD]) (up (fun j hj q => ht j hj) (by rw [ht (n - 1) (by omega)]))
    · have hz2 := ht (n - 1) (by omega)
      by_cases hz : s (n - 1) = 0
      · rw [am_a hke hO hz, am_a hke hO (by rw [← hz2]; exact hz), show (v k).toNat = t by omega]
        exact ih t n _ _ (by omega) (by omega) hte (by rw [hDt, hD]) ht
      · rw [am_a2 hke hO hz, am_a2 hke hO (by rw [← hz2]; exact hz)]
        exact ih (k + 1) (n - 1) _ _ (by omega) (by omega) (by omega) (by rw [hD1, ← hD]) (fun j hj => ht j (by omega))
    · have hz2 := ht (n - 1) (by omega)
      by_cases hz : s (n - 1) = 0
      · rw [am_o2 hke hO hz, am_o2 hke hO (by rw [← hz2]; exact hz)]
        exact ih (k + 1) (n - 1) _ _ (by omega) (by omega) (by omega) (by rw [hD1, ← hD]) (fun j hj => ht j (by omega))
      · rw [am_o hke hO hz, am_o hke hO (by rw [← hz2]; exact hz), show (v k).toNat = t by omega]
        exact ih t n _ _ (by omega) (by omega) hte (by rw [hDt, hD]) ht
    · have hz2 := ht (n - 1) (by omega)
      have hz3 := ht (n - 2) (by omega)
      by_cases hr : (o k = 5 ∨ o k = 6) ∧ s (n - 1) = 0
      · rw [am_r hke ⟨hB1, hB2⟩ hr, am_r hke ⟨hB1, hB2⟩ (by rw [← hz2]; exact hr)]
      · rw [am_b hke ⟨hB1, hB2⟩ hr, am_b hke ⟨hB1, hB2⟩ (by rw [← hz2]; exact hr)]
        exact ih (k + 1) (n - 1) _ _ (by omega) (by omega) (by omega) (by rw [hD1, ← hD]) (up (fun j hj q => ht j (by omega)) (by rw [hz2, hz3]))
end AT
theorem reo_196 : eL[196]? = some (0, 12) := by decide +kernel
theorem rgu_222 : eG (cn 222) = ((-2147483648), 2147483647, []) := by decide +kernel
theorem rgu_227 : eG (cn 227) = ((-2147483648), 2147483647, []) := by decide +kernel
theorem rgu_228 : eG (cn 228) = ((-2147483648), 2147483647, []) := by decide +kernel
theorem rch_196_42 : (eG (cn 196 + 42)).2.2 = [223] := by decide +kernel
theorem rcq_196_42 {d i : Nat} {lv : List (Nat × pv)} {r : List pv} {g : pH} (hG : g_I eG g) : px_push eL d none (.getfield i) 12 42 lv (pvR 196 :: r) g = some (pvR 222 :: r) := pget reo_196 (gI_r (r := 222) hG reo_196 (Nat.le_of_ble_eq_true rfl) (y := 42) rfl rch_196_42)
theorem rch_196_47 : (eG (cn 196 + 47)).2.2 = [228] := by decide +kernel
theorem rcq_196_47 {d i : Nat} {lv : List (Nat × pv)} {r : List pv} {g : pH} (hG : g_I eG g) : px_push eL d none (.getfield i) 12 47 lv (pvR 196 :: r) g = some (pvR 227 :: r) := pget reo_196 (gI_r (r := 227) hG reo_196 (Nat.le_of_ble_eq_true rfl) (y := 47) rfl rch_196_47)
theorem rch_196_48 : (eG (cn 196 + 48)).2.2 = [229] := by decide +kernel
theorem rcq_196_48 {d i : Nat} {lv : List (Nat × pv)} {r : List pv} {g : pH} (hG : g_I eG g) : px_push eL d none (.getfield i) 12 48 lv (pvR 196 :: r) g = some (pvR 228 :: r) := pget reo_196 (gI_r (r := 228) hG reo_196 (Nat.le_of_ble_eq_true rfl) (y := 48) rfl rch_196_48)
theorem rez_222 : eL[222]? = some (1, 260) := by decide +kernel
theorem rez_227 : eL[227]? = some (1, 260) := by decide +kernel
theorem rez_228 : eL[228]? = some (1, 11) := by decide +kernel
set_option maxHeartbeats 1000000 in
theorem nrj_run {d : Nat} {g : pH} {c x y : Int} (hc : 2 ≤ c ∧ c ≤ 9) (hx : -2147483648 ≤ x ∧ x ≤ 2147483647) (hy : -2147483648 ≤ y ∧ y ≤ 2147483647) (hn : ¬ ((c = 5 ∨ c = 6) ∧ y = 0)) {P : Option pv × pH → Prop} (h0 : P (some (oI (aop c x y)), g)) {lv : List (Nat × pv)} (l0 : px_lg lv 0 = some (oI c)) (l1 : px_lg lv 1 = some (oI x)) (l2 : px_lg lv 2 = some (oI y)) : t_X d 242 0 lv [] g P := by
  have hc9 : c = 2 ∨ c = 3 ∨ c = 4 ∨ c = 5 ∨ c = 6 ∨ c = 7 ∨ c = 8 ∨ c = 9 := by omega
  rcases hc9 with rfl | rfl | rfl | rfl | rfl | rfl | rfl | rfl
  · refine t_0 nrj_0 rfl (ld_i l0) ?_
    refine t_1 nrj_1 rfl (t := (44, [])) rfl ?_
    show t_X d 242 44 lv [] g P
    refine t_0 nrj_44 rfl (ld_i l1) ?_
    refine t_0 nrj_45 rfl (ld_i l2) ?_
    refine t_0 nrj_46 rfl pq_add ?_
    refine t_5 nrj_47 rfl rfl ?_
    show P (some (oI (x + y)), g)
    rw [b32_o (x + y)]
    exact h0
  · refine t_0 nrj_0 rfl (ld_i l0) ?_
    refine t_1 nrj_1 rfl (t := (48, [])) rfl ?_
    show t_X d 242 48 lv [] g P
    refine t_0 nrj_48 rfl (ld_i l1) ?_
    refine t_0 nrj_49 rfl (ld_i l2) ?_
    refine t_0 nrj_50 rfl pq_sub ?_
    refine t_5 nrj_51 rfl rfl ?_
    show P (some (oI (x - y)), g)
    rw [b32_o (x - y)]
    exact h0
  · refine t_0 nrj_0 rfl (ld_i l0) ?_
    refine t_1 nrj_1 rfl (t := (52, [])) rfl ?_
    show t_X d 242 52 lv [] g P
    refine t_0 nrj_52 rfl (ld_i l1) ?_
    refine t_0 nrj_53 rfl (ld_i l2) ?_
    refine t_0 nrj_54 rfl pq_mul ?_
    refine t_5 nrj_55 rfl rfl ?_
    show P (some (oI (x * y)), g)
    rw [b32_o (x * y)]
    exact h0
  · refine t_0 nrj_0 rfl (ld_i l0) ?_
    refine t_1 nrj_1 rfl (t := (56, [])) rfl ?_
    show t_X d 242 56 lv [] g P
    refine t_0 nrj_56 rfl (ld_i l1) ?_
    refine t_0 nrj_57 rfl (ld_i l2) ?_
    refine t_0 nrj_58 rfl (pq_dvJ (by omega) (by omega)) ?_
    show t_X d 242 59 lv [oI (dvJ x y)] g P
    refine t_5 nrj_59 rfl rfl ?_
    exact h0
  · refine t_0 nrj_0 rfl (ld_i l0) ?_
    refine t_1 nrj_1 rfl (t := (60, [])) rfl ?_
    show t_X d 242 60 lv [] g P
    refine t_0 nrj_60 rfl (ld_i l1) ?_
    refine t_0 nrj_61 rfl (ld_i l2) ?_
    refine t_0 nrj_62 rfl (pq_rmJ (by omega) (by omega)) ?_
    show t_X d 242 63 lv [oI (rmJ x y)] g P
    refine t_5 nrj_63 rfl rfl ?_
    exact h0
  · refine t_0 nrj_0 rfl (ld_i l0) ?_
    refine t_1 nrj_1 rfl (t := (64, [])) rfl ?_
    show t_X d 242 64 lv [] g P
    refine t_0 nrj_64 rfl (ld_i l1) ?_
    refine t_0 nrj_65 rfl (ld_i l2) ?_
    refine tb_ge nrj_66 (by decide) ⟨by omega, by omega⟩ ⟨by omega, by omega⟩ (fun c1 => ?_) (fun c1 => ?_)
    · show t_X d 242 73 lv [] g P
      refine t_0 nrj_73 rfl rfl ?_
      refine t_5 nrj_74 rfl rfl ?_
      have ea : aop 7 x y = 0 := by unfold aop; rw [if_neg (by decide), if_neg (by decide), if_neg (by decide), if_neg (by decide), if_neg (by decide), if_pos rfl, if_neg (by omega)]
      rw [ea] at h0
      exact h0
    · show t_X d 242 69 lv [] g P
      refine t_0 nrj_69 rfl rfl ?_
      refine t_1 nrj_70 rfl (pb_goto (pc := 70) (by decide)) ?_
      show t_X d 242 74 lv [oI 1] g P
      refine t_5 nrj_74 rfl rfl ?_
      have ea : aop 7 x y = 1 := by unfold aop; rw [if_neg (by decide), if_neg (by decide), if_neg (by decide), if_neg (by decide), if_neg (by decide), if_pos rfl, if_pos (by omega)]
      rw [ea] at h0
      exact h0
  · refine t_0 nrj_0 rfl (ld_i l0) ?_
    refine t_1 nrj_1 rfl (t := (75, [])) rfl ?_
    show t_X d 242 75 lv [] g P
    refine t_0 nrj_75 rfl (ld_i l1) ?_
    refine t_0 nrj_76 rfl (ld_i l2) ?_
    refine tb_le nrj_77 (by decide) ⟨by omega, by omega⟩ ⟨by omega, by omega⟩ (fun c1 => ?_) (fun c1 => ?_)
    · show t_X d 242 84 lv [] g P
      refine t_0 nrj_84 rfl rfl ?_
      refine t_5 nrj_85 rfl rfl ?_
      have ea : aop 8 x y = 0 := by unfold aop; rw [if_neg (by decide), if_neg (by decide), if_neg (by decide), if_neg (by decide), if_neg (by decide), if_neg (by decide), if_pos rfl, if_neg (by omega)]
      rw [ea] at h0
      exact h0
    · show t_X d 242 80 lv [] g P
      refine t_0 nrj_80 rfl rfl ?_
      refine t_1 nrj_81 rfl (pb_goto (pc := 81) (by decide)) ?_
      show t_X d 242 85 lv [oI 1] g P
      refine t_5 nrj_85 rfl rfl ?_
      have ea : aop 8 x y = 1 := by unfold aop; rw [if_neg (by decide), if_neg (by decide), if_neg (by decide), if_neg (by decide), if_neg (by decide), if_neg (by decide), if_pos rfl, if_pos (by omega)]
      rw [ea] at h0
      exact h0
  · refine t_0 nrj_0 rfl (ld_i l0) ?_
    refine t_1 nrj_1 rfl (t := (86, [])) rfl ?_
    show t_X d 242 86 lv [] g P
    refine t_0 nrj_86 rfl (ld_i l1) ?_
    refine t_0 nrj_87 rfl (ld_i l2) ?_
    refine tb_ne nrj_88 (by decide) ⟨by omega, by omega⟩ ⟨by omega, by omega⟩ (fun c1 => ?_) (fun c1 => ?_)
    · show t_X d 242 95 lv [] g P
      refine t_0 nrj_95 rfl rfl ?_
      refine t_5 nrj_96 rfl rfl ?_
      have ea : aop 9 x y = 0 := by unfold aop; rw [if_neg (by decide), if_neg (by decide), if_neg (by decide), if_neg (by decide), if_neg (by decide), if_neg (by decide), if_neg (by decide), if_neg (by omega)]
      rw [ea] at h0
      exact h0
    · show t_X d 242 91 lv [] g P
      refine t_0 nrj_91 rfl rfl ?_
      refine t_1 nrj_92 rfl (pb_goto (pc := 92) (by decide)) ?_
      show t_X d 242 96 lv [oI 1] g P
      refine t_5 nrj_96 rfl rfl ?_
      have ea : aop 9 x y = 1 := by unfold aop; rw [if_neg (by decide), if_neg (by decide), if_neg (by decide), if_neg (by decide), if_neg (by decide), if_neg (by decide), if_neg (by decide), if_pos (by omega)]
      rw [ea] at h0
      exact h0
set_option maxHeartbeats 4000000 in
theorem nctL {d : Nat} (hd : 1 ≤ d) {g0 : pH} {o v f : tC} {a e : Nat} (hC : ∀ j, j < e → fA g0 222 j = 1048576 * o j + v j) (hf : fA g0 228 = f) (he : e ≤ 240) {D : Nat → Nat × Bool} (hst : ∀ k, a ≤ k → k < e → wst o v D k e) (hh : ∀ k, a ≤ k → k ≤ e → (D k).1 ≤ 16) (hE : (D e).1 = 1) {P : Option pv × pH → Prop} : ∀ (m k n : Nat) (s : tC) (g : pH), e ≤ k + m → a ≤ k → k ≤ e → (D k).1 = n → aT D k n s → qE g0 g s → (∀ g' : pH, J_ qW g0 g' → P (some (oI (am o v f e m k n s)), g')) → ∀ {lv : List (Nat × pv)}, px_lg lv 0 = some (pvR 196) → px_lg lv 2 = some (oI (e : Int)) → px_lg lv 3 = some (oI (n : Int)) → px_lg lv 4 = some (oI 0) → px_lg lv 5 = some (oI (k : Int)) → t_X d 178 16 lv [] g P := by
  intro m
  induction m with
  | zero =>
    intro k n s g hm hak hke hD ht hS hP lv l0 l2 l3 l4 l5
    have ek : k = e := by omega
    refine t_0 nct_16 rfl (ld_i l5) ?_
    refine t_0 nct_18 rfl (ld_i l2) ?_
    refine tb_ge nct_19 (by decide) ⟨by omega, by omega⟩ ⟨by omega, by omega⟩ (fun c1 => ?_) (fun c1 => absurd c1 (by omega))
    show t_X d 178 235 lv [] g P
    refine t_0 nct_235 rfl (ld_a l0) ?_
    refine t_0 nct_236 rfl (rcq_196_47 (S_J hS).1) ?_
    show t_X d 178 239 lv [pvR 227] g P
    refine t_0 nct_239 rfl rfl ?_
    refine t_0 nct_240 rfl (pq_iv rez_227 rfl ⟨by omega, by omega⟩ (show fA g 227 = s from S_a hS 0 (Nat.le_of_ble_eq_true rfl))) ?_
    show t_X d 178 241 lv [oI (s 0)] g P
    refine t_5 nct_241 rfl rfl ?_
    have hP2 := hP
    rw [am_e (by omega)] at hP2
    exact hP2 _ (S_J hS)
  | succ m ih =>
    intro k n s g hm hak hke hD ht hS hP lv l0 l2 l3 l4 l5
    by_cases ek : k = e
    · refine t_0 nct_16 rfl (ld_i l5) ?_
      refine t_0 nct_18 rfl (ld_i l2) ?_
      refine tb_ge nct_19 (by decide) ⟨by omega, by omega⟩ ⟨by omega, by omega⟩ (fun c1 => ?_) (fun c1 => absurd c1 (by omega))
      show t_X d 178 235 lv [] g P
      refine t_0 nct_235 rfl (ld_a l0) ?_
      refine t_0 nct_236 rfl (rcq_196_47 (S_J hS).1) ?_
      show t_X d 178 239 lv [pvR 227] g P
      refine t_0 nct_239 rfl rfl ?_
      refine t_0 nct_240 rfl (pq_iv rez_227 rfl ⟨by omega, by omega⟩ (show fA g 227 = s from S_a hS 0 (Nat.le_of_ble_eq_true rfl))) ?_
      show t_X d 178 241 lv [oI (s 0)] g P
      refine t_5 nct_241 rfl rfl ?_
      have hP2 := hP
      rw [am_e (by omega)] at hP2
      exact hP2 _ (S_J hS)
    have hke : k < e := by omega
    have hn16 := hh k hak (by omega)
    rcases hst k hak hke with ⟨hO | hO, hDp⟩ | ⟨hO, hV, hD0, hb, hDp⟩ | ⟨hO | hO, hD0, hb, hDp, t, hV, htk, hte, hDq⟩ | ⟨hB1, hB2, hV, hD0, hDp⟩
    · obtain ⟨hO, hv1, hv2⟩ := hO
      have hD1 : (D (k + 1)).1 = n + 1 := by rw [hDp, ← hD]
      refine t_0 nct_16 rfl (ld_i l5) ?_
      refine t_0 nct_18 rfl (ld_i l2) ?_
      refine tb_ge nct_19 (by decide) ⟨by omega, by omega⟩ ⟨by omega, by omega⟩ (fun c1 => absurd c1 (by omega)) (fun c1 => ?_)
      show t_X d 178 22 lv [] g P
      refine t_0 nct_22 rfl (ld_a l0) ?_
      refine t_0 nct_23 rfl (rcq_196_42 (S_J hS).1) ?_
      show t_X d 178 26 lv [pvR 222] g P
      refine t_0 nct_26 rfl (ld_i l5) ?_
      have r2 : fA g 222 k = 1048576 * o k + v k := (congrFun (fA_M (S_J hS).2 qc_n.2.2.2.2.2.1) k).trans (hC k (by omega))
      refine t_0 nct_28 rfl (pq_iv rez_222 rfl ⟨by omega, by omega⟩ (rfl : fA g 222 = fA g 222)) ?_
      show t_X d 178 29 lv [oI (fA g 222 k)] g P
      rw [r2]
      show t_X d 178 29 lv [oI (1048576 * o k + v k)] g P
      refine t_0 nct_29 rfl (pq_cw (n := 1048576) (by decide +kernel)) ?_
      refine t_0 nct_32 rfl (pq_div ⟨by omega, by omega⟩ ⟨by omega, by omega⟩) ?_
      rw [show (1048576 * o k + v k) / 1048576 = 0 by omega]
      show t_X d 178 33 lv [oI 0] g P
      refine t_2 nct_33 rfl (w := (px_s1 lv 6 (oI 0), [])) rfl ?_
      replace l0 : px_lg (px_s1 lv 6 (oI 0)) 0 = some (pvR 196) := s1_ne (by decide) (fun _ => rfl) l0
      replace l2 : px_lg (px_s1 lv 6 (oI 0)) 2 = some (oI ((e : Int))) := s1_ne (by decide) (fun _ => rfl) l2
      replace l3 : px_lg (px_s1 lv 6 (oI 0)) 3 = some (oI ((n : Int))) := s1_ne (by decide) (fun _ => rfl) l3
      replace l4 : px_lg (px_s1 lv 6 (oI 0)) 4 = some (oI 0) := s1_ne (by decide) (fun _ => rfl) l4
      replace l5 : px_lg (px_s1 lv 6 (oI 0)) 5 = some (oI ((k : Int))) := s1_ne (by decide) (fun _ => rfl) l5
      have l6 : px_lg (px_s1 lv 6 (oI 0)) 6 = some (oI 0) := s1_eq
      generalize px_s1 lv 6 (oI 0) = lv3 at l0 l2 l3 l4 l5 l6 ⊢
      show t_X d 178 35 lv3 [] g P
      refine t_0 nct_35 rfl (ld_a l0) ?_
      refine t_0 nct_36 rfl (rcq_196_42 (S_J hS).1) ?_
      show t_X d 178 39 lv3 [pvR 222] g P
      refine t_0 nct_39 rfl (ld_i l5) ?_
      have r4 : fA g 222 k = 1048576 * o k + v k := (congrFun (fA_M (S_J hS).2 qc_n.2.2.2.2.2.1) k).trans (hC k (by omega))
      refine t_0 nct_41 rfl (pq_iv rez_222 rfl ⟨by omega, by omega⟩ (rfl : fA g 222 = fA g 222)) ?_
      show t_X d 178 42 lv3 [oI (fA g 222 k)] g P
      rw [r4]
      show t_X d 178 42 lv3 [oI (1048576 * o k + v k)] g P
      refine t_0 nct_42 rfl (pq_cw (n := 1048576) (by decide +kernel)) ?_
      refine t_0 nct_45 rfl (pq_rem ⟨by omega, by omega⟩ ⟨by omega, by omega⟩) ?_
      rw [show (1048576 * o k + v k) % 1048576 = v k by omega]
      show t_X d 178 46 lv3 [oI (v k)] g P
      refine t_2 nct_46 rfl (w := (px_s1 lv3 7 (oI (v k)), [])) rfl ?_
      replace l0 : px_lg (px_s1 lv3 7 (oI (v k))) 0 = some (pvR 196) := s1_ne (by decide) (fun _ => rfl) l0
      replace l2 : px_lg (px_s1 lv3 7 (oI (v k))) 2 = some (oI ((e : Int))) := s1_ne (by decide) (fun _ => rfl) l2
      replace l3 : px_lg (px_s1 lv3 7 (oI (v k))) 3 = some (oI ((n : Int))) := s1_ne (by decide) (fun _ => rfl) l3
      replace l4 : px_lg (px_s1 lv3 7 (oI (v k))) 4 = some (oI 0) := s1_ne (by decide) (fun _ => rfl) l4
      replace l5 : px_lg (px_s1 lv3 7 (oI (v k))) 5 = some (oI ((k : Int))) := s1_ne (by decide) (fun _ => rfl) l5
      replace l6 : px_lg (px_s1 lv3 7 (oI (v k))) 6 = some (oI 0) := s1_ne (by decide) (fun _ => rfl) l6
      have l7 : px_lg (px_s1 lv3 7 (oI (v k))) 7 = some (oI (v k)) := s1_eq
      generalize px_s1 lv3 7 (oI (v k)) = lv5 at l0 l2 l3 l4 l5 l6 l7 ⊢
      show t_X d 178 48 lv5 [] g P
      refine t_0 nct_48 rfl (ld_i l5) ?_
      refine t_0 nct_50 rfl rfl ?_
      refine t_0 nct_51 rfl pq_add ?_
      refine t_2 nct_52 rfl (w := (px_s1 lv5 5 (oI ((k : Int) + 1)), [])) rfl ?_
      replace l0 : px_lg (px_s1 lv5 5 (oI ((k : Int) + 1))) 0 = some (pvR 196) := s1_ne (by decide) (fun _ => rfl) l0
      replace l2 : px_lg (px_s1 lv5 5 (oI ((k : Int) + 1))) 2 = some (oI ((e : Int))) := s1_ne (by decide) (fun _ => rfl) l2
      replace l3 : px_lg (px_s1 lv5 5 (oI ((k : Int) + 1))) 3 = some (oI ((n : Int))) := s1_ne (by decide) (fun _ => rfl) l3
      replace l4 : px_lg (px_s1 lv5 5 (oI ((k : Int) + 1))) 4 = some (oI 0) := s1_ne (by decide) (fun _ => rfl) l4
      replace l6 : px_lg (px_s1 lv5 5 (oI ((k : Int) + 1))) 6 = some (oI 0) := s1_ne (by decide) (fun _ => rfl) l6
      replace l7 : px_lg (px_s1 lv5 5 (oI ((k : Int) + 1))) 7 = some (oI (v k)) := s1_ne (by decide) (fun _ => rfl) l7
      have l5 : px_lg (px_s1 lv5 5 (oI ((k : Int) + 1))) 5 = some (oI ((k : Int) + 1)) := s1_eq
      generalize px_s1 lv5 5 (oI ((k : Int) + 1)) = lv6 at l0 l2 l3 l4 l6 l7 l5 ⊢
      show t_X d 178 54 lv6 [] g P
      refine t_0 nct_54 rfl (ld_i l6) ?_
      refine tz_eq nct_56 (by decide) ⟨by omega, by omega⟩ (fun c7 => ?_) (fun c7 => absurd c7 (by omega))
      show t_X d 178 65 lv6 [] g P
      refine t_0 nct_65 rfl (ld_a l0) ?_
      refine t_0 nct_66 rfl (rcq_196_47 (S_J hS).1) ?_
      show t_X d 178 69 lv6 [pvR 227] g P
      refine t_0 nct_69 rfl (ld_i l3) ?_
      refine t_0 nct_70 rfl (ld_i l6) ?_
      refine tz_ne nct_72 (by decide) ⟨by omega, by omega⟩ (fun c8 => absurd c8 (by omega)) (fun c8 => ?_)
      show t_X d 178 75 lv6 [oI ((n : Int)), pvR 227] g P
      refine t_0 nct_75 rfl (ld_i l7) ?_
      refine t_1 nct_77 rfl (pb_goto (pc := 77) (by decide)) ?_
      show t_X d 178 87 lv6 [oI (v k), oI ((n : Int)), pvR 227] g P
      refine ts_a (n := 0) rfl rfl (by decide) nct_87 hS rez_227 rfl qc_u rgu_227 (by decide) ⟨by omega, by omega⟩ ⟨by omega, by omega⟩ (fun g9 hS9 => ?_)
      replace hS9 : qE g0 g9 (updI s n (v k)) := hS9
      show t_X d 178 88 lv6 [] g9 P
      refine t_0 nct_88 rfl (ld_i l3) ?_
      refine t_0 nct_89 rfl rfl ?_
      refine t_0 nct_90 rfl pq_add ?_
      refine t_2 nct_91 rfl (w := (px_s1 lv6 3 (oI ((n : Int) + 1)), [])) rfl ?_
      replace l0 : px_lg (px_s1 lv6 3 (oI ((n : Int) + 1))) 0 = some (pvR 196) := s1_ne (by decide) (fun _ => rfl) l0
      replace l2 : px_lg (px_s1 lv6 3 (oI ((n : Int) + 1))) 2 = some (oI ((e : Int))) := s1_ne (by decide) (fun _ => rfl) l2
      replace l4 : px_lg (px_s1 lv6 3 (oI ((n : Int) + 1))) 4 = some (oI 0) := s1_ne (by decide) (fun _ => rfl) l4
      replace l6 : px_lg (px_s1 lv6 3 (oI ((n : Int) + 1))) 6 = some (oI 0) := s1_ne (by decide) (fun _ => rfl) l6
      replace l7 : px_lg (px_s1 lv6 3 (oI ((n : Int) + 1))) 7 = some (oI (v k)) := s1_ne (by decide) (fun _ => rfl) l7
      replace l5 : px_lg (px_s1 lv6 3 (oI ((n : Int) + 1))) 5 = some (oI ((k : Int) + 1)) := s1_ne (by decide) (fun _ => rfl) l5
      have l3 : px_lg (px_s1 lv6 3 (oI ((n : Int) + 1))) 3 = some (oI ((n : Int) + 1)) := s1_eq
      generalize px_s1 lv6 3 (oI ((n : Int) + 1)) = lv10 at l0 l2 l4 l6 l7 l5 l3 ⊢
      show t_X d 178 92 lv10 [] g9 P
      refine t_1 nct_92 rfl (pb_goto (pc := 92) (by decide)) ?_
      show t_X d 178 232 lv10 [] g9 P
      refine t_1 nct_232 rfl (pb_goto (pc := 232) (by decide)) ?_
      show t_X d 178 16 lv10 [] g9 P
      have hP2 := hP
      rw [am_0 hke hO] at hP2
      exact ih (k + 1) (n + 1) _ _ (by omega) (by omega) (by omega) hD1 (aT_p hDp) hS9 hP2 l0 l2 (by rw [show (((n + 1 : Nat) : Int)) = (n : Int) + 1 by omega]; exact l3) l4 (by rw [show (((k + 1 : Nat) : Int)) = (k : Int) + 1 by omega]; exact l5)
    · obtain ⟨hO, hv1, hv2⟩ := hO
      have hD1 : (D (k + 1)).1 = n + 1 := by rw [hDp, ← hD]
      refine t_0 nct_16 rfl (ld_i l5) ?_
      refine t_0 nct_18 rfl (ld_i l2) ?_
      refine tb_ge nct_19 (by decide) ⟨by omega, by omega⟩ ⟨by omega, by omega⟩ (fun c1 => absurd c1 (by omega)) (fun c1 => ?_)
      show t_X d 178 22 lv [] g P
      refine t_0 nct_22 rfl (ld_a l0) ?_
      refine t_0 nct_23 rfl (rcq_196_42 (S_J hS).1) ?_
      show t_X d 178 26 lv [pvR 222] g P
      refine t_0 nct_26 rfl (ld_i l5) ?_
      have r2 : fA g 222 k = 1048576 * o k + v k := (congrFun (fA_M (S_J hS).2 qc_n.2.2.2.2.2.1) k).trans (hC k (by omega))
      refine t_0 nct_28 rfl (pq_iv rez_222 rfl ⟨by omega, by omega⟩ (rfl : fA g 222 = fA g 222)) ?_
      show t_X d 178 29 lv [oI (fA g 222 k)] g P
      rw [r2]
      show t_X d 178 29 lv [oI (1048576 * o k + v k)] g P
      refine t_0 nct_29 rfl (pq_cw (n := 1048576) (by decide +kernel)) ?_
      refine t_0 nct_32 rfl (pq_div ⟨by omega, by omega⟩ ⟨by omega, by omega⟩) ?_
      rw [show (1048576 * o k + v k) / 1048576 = 1 by omega]
      show t_X d 178 33 lv [oI 1] g P
      refine t_2 nct_33 rfl (w := (px_s1 lv 6 (oI 1), [])) rfl ?_
      replace l0 : px_lg (px_s1 lv 6 (oI 1)) 0 = some (pvR 196) := s1_ne (by decide) (fun _ => rfl) l0
      replace l2 : px_lg (px_s1 lv 6 (oI 1)) 2 = some (oI ((e : Int))) := s1_ne (by decide) (fun _ => rfl) l2
      replace l3 : px_lg (px_s1 lv 6 (oI 1)) 3 = some (oI ((n : Int))) := s1_ne (by decide) (fun _ => rfl) l3
      replace l4 : px_lg (px_s1 lv 6 (oI 1)) 4 = some (oI 0) := s1_ne (by decide) (fun _ => rfl) l4
      replace l5 : px_lg (px_s1 lv 6 (oI 1)) 5 = some (oI ((k : Int))) := s1_ne (by decide) (fun _ => rfl) l5
      have l6 : px_lg (px_s1 lv 6 (oI 1)) 6 = some (oI 1) := s1_eq
      generalize px_s1 lv 6 (oI 1) = lv3 at l0 l2 l3 l4 l5 l6 ⊢
      show t_X d 178 35 lv3 [] g P
      refine t_0 nct_35 rfl (ld_a l0) ?_
      refine t_0 nct_36 rfl (rcq_196_42 (S_J hS).1) ?_
      show t_X d 178 39 lv3 [pvR 222] g P
      refine t_0 nct_39 rfl (ld_i l5) ?_
      have r4 : fA g 222 k = 1048576 * o k + v k := (congrFun (fA_M (S_J hS).2 qc_n.2.2.2.2.2.1) k).trans (hC k (by omega))
      refine t_0 nct_41 rfl (pq_iv rez_222 rfl ⟨by omega, by omega⟩ (rfl : fA g 222 = fA g 222)) ?_
      show t_X d 178 42 lv3 [oI (fA g 222 k)] g P
      rw [r4]
      show t_X d 178 42 lv3 [oI (1048576 * o k + v k)] g P
      refine t_0 nct_42 rfl (pq_cw (n := 1048576) (by decide +kernel)) ?_
      refine t_0 nct_45 rfl (pq_rem ⟨by omega, by omega⟩ ⟨by omega, by omega⟩) ?_
      rw [show (1048576 * o k + v k) % 1048576 = v k by omega]
      show t_X d 178 46 lv3 [oI (v k)] g P
      refine t_2 nct_46 rfl (w := (px_s1 lv3 7 (oI (v k)), [])) rfl ?_
      replace l0 : px_lg (px_s1 lv3 7 (oI (v k))) 0 = some (pvR 196) := s1_ne (by decide) (fun _ => rfl) l0
      replace l2 : px_lg (px_s1 lv3 7 (oI (v k))) 2 = some (oI ((e : Int))) := s1_ne (by decide) (fun _ => rfl) l2
      replace l3 : px_lg (px_s1 lv3 7 (oI (v k))) 3 = some (oI ((n : Int))) := s1_ne (by decide) (fun _ => rfl) l3
      replace l4 : px_lg (px_s1 lv3 7 (oI (v k))) 4 = some (oI 0) := s1_ne (by decide) (fun _ => rfl) l4
      replace l5 : px_lg (px_s1 lv3 7 (oI (v k))) 5 = some (oI ((k : Int))) := s1_ne (by decide) (fun _ => rfl) l5
      replace l6 : px_lg (px_s1 lv3 7 (oI (v k))) 6 = some (oI 1) := s1_ne (by decide) (fun _ => rfl) l6
      have l7 : px_lg (px_s1 lv3 7 (oI (v k))) 7 = some (oI (v k)) := s1_eq
      generalize px_s1 lv3 7 (oI (v k)) = lv5 at l0 l2 l3 l4 l5 l6 l7 ⊢
      show t_X d 178 48 lv5 [] g P
      refine t_0 nct_48 rfl (ld_i l5) ?_
      refine t_0 nct_50 rfl rfl ?_
      refine t_0 nct_51 rfl pq_add ?_
      refine t_2 nct_52 rfl (w := (px_s1 lv5 5 (oI ((k : Int) + 1)), [])) rfl ?_
      replace l0 : px_lg (px_s1 lv5 5 (oI ((k : Int) + 1))) 0 = some (pvR 196) := s1_ne (by decide) (fun _ => rfl) l0
      replace l2 : px_lg (px_s1 lv5 5 (oI ((k : Int) + 1))) 2 = some (oI ((e : Int))) := s1_ne (by decide) (fun _ => rfl) l2
      replace l3 : px_lg (px_s1 lv5 5 (oI ((k : Int) + 1))) 3 = some (oI ((n : Int))) := s1_ne (by decide) (fun _ => rfl) l3
      replace l4 : px_lg (px_s1 lv5 5 (oI ((k : Int) + 1))) 4 = some (oI 0) := s1_ne (by decide) (fun _ => rfl) l4
      replace l6 : px_lg (px_s1 lv5 5 (oI ((k : Int) + 1))) 6 = some (oI 1) := s1_ne (by decide) (fun _ => rfl) l6
      replace l7 : px_lg (px_s1 lv5 5 (oI ((k : Int) + 1))) 7 = some (oI (v k)) := s1_ne (by decide) (fun _ => rfl) l7
      have l5 : px_lg (px_s1 lv5 5 (oI ((k : Int) + 1))) 5 = some (oI ((k : Int) + 1)) := s1_eq
      generalize px_s1 lv5 5 (oI ((k : Int) + 1)) = lv6 at l0 l2 l3 l4 l6 l7 l5 ⊢
      show t_X d 178 54 lv6 [] g P
      refine t_0 nct_54 rfl (ld_i l6) ?_
      refine tz_eq nct_56 (by decide) ⟨by omega, by omega⟩ (fun c7 => absurd c7 (by omega)) (fun c7 => ?_)
      show t_X d 178 59 lv6 [] g P
      refine t_0 nct_59 rfl (ld_i l6) ?_
      refine t_0 nct_61 rfl rfl ?_
      refine tb_ne nct_62 (by decide) ⟨by omega, by omega⟩ ⟨by omega, by omega⟩ (fun c8 => absurd c8 (by omega)) (fun c8 => ?_)
      show t_X d 178 65 lv6 [] g P
      refine t_0 nct_65 rfl (ld_a l0) ?_
      refine t_0 nct_66 rfl (rcq_196_47 (S_J hS).1) ?_
      show t_X d 178 69 lv6 [pvR 227] g P
      refine t_0 nct_69 rfl (ld_i l3) ?_
      refine t_0 nct_70 rfl (ld_i l6) ?_
      refine tz_ne nct_72 (by decide) ⟨by omega, by omega⟩ (fun c9 => ?_) (fun c9 => absurd c9 (by omega))
      show t_X d 178 80 lv6 [oI ((n : Int)), pvR 227] g P
      refine t_0 nct_80 rfl (ld_a l0) ?_
      refine t_0 nct_81 rfl (rcq_196_48 (S_J hS).1) ?_
      show t_X d 178 84 lv6 [pvR 228, oI ((n : Int)), pvR 227] g P
      refine t_0 nct_84 rfl (ld_i l7) ?_
      have r10 := pb_a (S_J hS).1 rez_228 (j := (v k).toNat) (by omega) rgu_228 ((fA_M (S_J hS).2 qc_n.2.2.2.2.2.2).trans hf : fA g 228 = f)
      refine t_0 nct_86 rfl (pq_iv rez_228 rfl ⟨by omega, by omega⟩ ((fA_M (S_J hS).2 qc_n.2.2.2.2.2.2).trans hf : fA g 228 = f)) ?_
      show t_X d 178 87 lv6 [oI (f (v k).toNat), oI ((n : Int)), pvR 227] g P
      refine ts_a (n := 0) rfl rfl (by decide) nct_87 hS rez_227 rfl qc_u rgu_227 (by decide) ⟨by omega, by omega⟩ ⟨by omega, by omega⟩ (fun g11 hS11 => ?_)
      replace hS11 : qE g0 g11 (updI s n (f (v k).toNat)) := hS11
      show t_X d 178 88 lv6 [] g11 P
      refine t_0 nct_88 rfl (ld_i l3) ?_
      refine t_0 nct_89 rfl rfl ?_
      refine t_0 nct_90 rfl pq_add ?_
      refine t_2 nct_91 rfl (w := (px_s1 lv6 3 (oI ((n : Int) + 1)), [])) rfl ?_
      replace l0 : px_lg (px_s1 lv6 3 (oI ((n : Int) + 1))) 0 = some (pvR 196) := s1_ne (by decide) (fun _ => rfl) l0
      replace l2 : px_lg (px_s1 lv6 3 (oI ((n : Int) + 1))) 2 = some (oI ((e : Int))) := s1_ne (by decide) (fun _ => rfl) l2
      replace l4 : px_lg (px_s1 lv6 3 (oI ((n : Int) + 1))) 4 = some (oI 0) := s1_ne (by decide) (fun _ => rfl) l4
      replace l6 : px_lg (px_s1 lv6 3 (oI ((n : Int) + 1))) 6 = some (oI 1) := s1_ne (by decide) (fun _ => rfl) l6
      replace l7 : px_lg (px_s1 lv6 3 (oI ((n : Int) + 1))) 7 = some (oI (v k)) := s1_ne (by decide) (fun _ => rfl) l7
      replace l5 : px_lg (px_s1 lv6 3 (oI ((n : Int) + 1))) 5 = some (oI ((k : Int) + 1)) := s1_ne (by decide) (fun _ => rfl) l5
      have l3 : px_lg (px_s1 lv6 3 (oI ((n : Int) + 1))) 3 = some (oI ((n : Int) + 1)) := s1_eq
      generalize px_s1 lv6 3 (oI ((n : Int) + 1)) = lv12 at l0 l2 l4 l6 l7 l5 l3 ⊢
      show t_X d 178 92 lv12 [] g11 P
      refine t_1 nct_92 rfl (pb_goto (pc := 92) (by decide)) ?_
      show t_X d 178 232 lv12 [] g11 P
      refine t_1 nct_232 rfl (pb_goto (pc := 232) (by decide)) ?_
      show t_X d 178 16 lv12 [] g11 P
      have hP2 := hP
      rw [am_1 hke hO] at hP2
      exact ih (k + 1) (n + 1) _ _ (by omega) (by omega) (by omega) hD1 (aT_p hDp) hS11 hP2 l0 l2 (by rw [show (((n + 1 : Nat) : Int)) = (n : Int) + 1 by omega]; exact l3) l4 (by rw [show (((k + 1 : Nat) : Int)) = (k : Int) + 1 by omega]; exact l5)
    · have hD1 : (D (k + 1)).1 = n := by rw [hDp, ← hD]
      refine t_0 nct_16 rfl (ld_i l5) ?_
      refine t_0 nct_18 rfl (ld_i l2) ?_
      refine tb_ge nct_19 (by decide) ⟨by omega, by omega⟩ ⟨by omega, by omega⟩ (fun c1 => absurd c1 (by omega)) (fun c1 => ?_)
      show t_X d 178 22 lv [] g P
      refine t_0 nct_22 rfl (ld_a l0) ?_
      refine t_0 nct_23 rfl (rcq_196_42 (S_J hS).1) ?_
      show t_X d 178 26 lv [pvR 222] g P
      refine t_0 nct_26 rfl (ld_i l5) ?_
      have r2 : fA g 222 k = 1048576 * o k + v k := (congrFun (fA_M (S_J hS).2 qc_n.2.2.2.2.2.1) k).trans (hC k (by omega))
      refine t_0 nct_28 rfl (pq_iv rez_222 rfl ⟨by omega, by omega⟩ (rfl : fA g 222 = fA g 222)) ?_
      show t_X d 178 29 lv [oI (fA g 222 k)] g P
      rw [r2]
      show t_X d 178 29 lv [oI (1048576 * o k + v k)] g P
      refine t_0 nct_29 rfl (pq_cw (n := 1048576) (by decide +kernel)) ?_
      refine t_0 nct_32 rfl (pq_div ⟨by omega, by omega⟩ ⟨by omega, by omega⟩) ?_
      rw [show (1048576 * o k + v k) / 1048576 = 10 by omega]
      show t_X d 178 33 lv [oI 10] g P
      refine t_2 nct_33 rfl (w := (px_s1 lv 6 (oI 10), [])) rfl ?_
      replace l0 : px_lg (px_s1 lv 6 (oI 10)) 0 = some (pvR 196) := s1_ne (by decide) (fun _ => rfl) l0
      replace l2 : px_lg (px_s1 lv 6 (oI 10)) 2 = some (oI ((e : Int))) := s1_ne (by decide) (fun _ => rfl) l2
      replace l3 : px_lg (px_s1 lv 6 (oI 10)) 3 = some (oI ((n : Int))) := s1_ne (by decide) (fun _ => rfl) l3
      replace l4 : px_lg (px_s1 lv 6 (oI 10)) 4 = some (oI 0) := s1_ne (by decide) (fun _ => rfl) l4
      replace l5 : px_lg (px_s1 lv 6 (oI 10)) 5 = some (oI ((k : Int))) := s1_ne (by decide) (fun _ => rfl) l5
      have l6 : px_lg (px_s1 lv 6 (oI 10)) 6 = some (oI 10) := s1_eq
      generalize px_s1 lv 6 (oI 10) = lv3 at l0 l2 l3 l4 l5 l6 ⊢
      show t_X d 178 35 lv3 [] g P
      refine t_0 nct_35 rfl (ld_a l0) ?_
      refine t_0 nct_36 rfl (rcq_196_42 (S_J hS).1) ?_
      show t_X d 178 39 lv3 [pvR 222] g P
      refine t_0 nct_39 rfl (ld_i l5) ?_
      have r4 : fA g 222 k = 1048576 * o k + v k := (congrFun (fA_M (S_J hS).2 qc_n.2.2.2.2.2.1) k).trans (hC k (by omega))
      refine t_0 nct_41 rfl (pq_iv rez_222 rfl ⟨by omega, by omega⟩ (rfl : fA g 222 = fA g 222)) ?_
      show t_X d 178 42 lv3 [oI (fA g 222 k)] g P
      rw [r4]
      show t_X d 178 42 lv3 [oI (1048576 * o k + v k)] g P
      refine t_0 nct_42 rfl (pq_cw (n := 1048576) (by decide +kernel)) ?_
      refine t_0 nct_45 rfl (pq_rem ⟨by omega, by omega⟩ ⟨by omega, by omega⟩) ?_
      rw [show (1048576 * o k + v k) % 1048576 = v k by omega]
      show t_X d 178 46 lv3 [oI (v k)] g P
      refine t_2 nct_46 rfl (w := (px_s1 lv3 7 (oI (v k)), [])) rfl ?_
      replace l0 : px_lg (px_s1 lv3 7 (oI (v k))) 0 = some (pvR 196) := s1_ne (by decide) (fun _ => rfl) l0
      replace l2 : px_lg (px_s1 lv3 7 (oI (v k))) 2 = some (oI ((e : Int))) := s1_ne (by decide) (fun _ => rfl) l2
      replace l3 : px_lg (px_s1 lv3 7 (oI (v k))) 3 = some (oI ((n : Int))) := s1_ne (by decide) (fun _ => rfl) l3
      replace l4 : px_lg (px_s1 lv3 7 (oI (v k))) 4 = some (oI 0) := s1_ne (by decide) (fun _ => rfl) l4
      replace l5 : px_lg (px_s1 lv3 7 (oI (v k))) 5 = some (oI ((k : Int))) := s1_ne (by decide) (fun _ => rfl) l5
      replace l6 : px_lg (px_s1 lv3 7 (oI (v k))) 6 = some (oI 10) := s1_ne (by decide) (fun _ => rfl) l6
      have l7 : px_lg (px_s1 lv3 7 (oI (v k))) 7 = some (oI (v k)) := s1_eq
      generalize px_s1 lv3 7 (oI (v k)) = lv5 at l0 l2 l3 l4 l5 l6 l7 ⊢
      show t_X d 178 48 lv5 [] g P
      refine t_0 nct_48 rfl (ld_i l5) ?_
      refine t_0 nct_50 rfl rfl ?_
      refine t_0 nct_51 rfl pq_add ?_
      refine t_2 nct_52 rfl (w := (px_s1 lv5 5 (oI ((k : Int) + 1)), [])) rfl ?_
      replace l0 : px_lg (px_s1 lv5 5 (oI ((k : Int) + 1))) 0 = some (pvR 196) := s1_ne (by decide) (fun _ => rfl) l0
      replace l2 : px_lg (px_s1 lv5 5 (oI ((k : Int) + 1))) 2 = some (oI ((e : Int))) := s1_ne (by decide) (fun _ => rfl) l2
      replace l3 : px_lg (px_s1 lv5 5 (oI ((k : Int) + 1))) 3 = some (oI ((n : Int))) := s1_ne (by decide) (fun _ => rfl) l3
      replace l4 : px_lg (px_s1 lv5 5 (oI ((k : Int) + 1))) 4 = some (oI 0) := s1_ne (by decide) (fun _ => rfl) l4
      replace l6 : px_lg (px_s1 lv5 5 (oI ((k : Int) + 1))) 6 = some (oI 10) := s1_ne (by decide) (fun _ => rfl) l6
      replace l7 : px_lg (px_s1 lv5 5 (oI ((k : Int) + 1))) 7 = some (oI (v k)) := s1_ne (by decide) (fun _ => rfl) l7
      have l5 : px_lg (px_s1 lv5 5 (oI ((k : Int) + 1))) 5 = some (oI ((k : Int) + 1)) := s1_eq
      generalize px_s1 lv5 5 (oI ((k : Int) + 1)) = lv6 at l0 l2 l3 l4 l6 l7 l5 ⊢
      show t_X d 178 54 lv6 [] g P
      refine t_0 nct_54 rfl (ld_i l6) ?_
      refine tz_eq nct_56 (by decide) ⟨by omega, by omega⟩ (fun c7 => absurd c7 (by omega)) (fun c7 => ?_)
      show t_X d 178 59 lv6 [] g P
      refine t_0 nct_59 rfl (ld_i l6) ?_
      refine t_0 nct_61 rfl rfl ?_
      refine tb_ne nct_62 (by decide) ⟨by omega, by omega⟩ ⟨by omega, by omega⟩ (fun c8 => ?_) (fun c8 => absurd c8 (by omega))
      show t_X d 178 95 lv6 [] g P
      refine t_0 nct_95 rfl (ld_i l6) ?_
      refine t_0 nct_97 rfl (pq_b (by decide)) ?_
      refine tb_ne nct_99 (by decide) ⟨by omega, by omega⟩ ⟨by omega, by omega⟩ (fun c9 => absurd c9 (by omega)) (fun c9 => ?_)
      show t_X d 178 102 lv6 [] g P
      refine t_0 nct_102 rfl (ld_a l0) ?_
      refine t_0 nct_103 rfl (rcq_196_47 (S_J hS).1) ?_
      show t_X d 178 106 lv6 [pvR 227] g P
      refine t_0 nct_106 rfl (ld_i l3) ?_
      refine t_0 nct_107 rfl rfl ?_
      refine t_0 nct_108 rfl pq_sub ?_
      rw [show (n : Int) - 1 = ((n - 1 : Nat) : Int) by omega]
      refine t_0 nct_109 rfl rfl ?_
      refine t_0 nct_110 rfl (ld_a l0) ?_
      refine t_0 nct_111 rfl (rcq_196_47 (S_J hS).1) ?_
      show t_X d 178 114 lv6 [pvR 227, oI 1, oI (((n - 1 : Nat) : Int)), pvR 227] g P
      refine t_0 nct_114 rfl (ld_i l3) ?_
      refine t_0 nct_115 rfl rfl ?_
      refine t_0 nct_116 rfl pq_sub ?_
      rw [show (n : Int) - 1 = ((n - 1 : Nat) : Int) by omega]
      have r10 := pb_a (S_J hS).1 rez_227 (j := n - 1) (by omega) rgu_227 (show fA g 227 = s from S_a hS 0 (Nat.le_of_ble_eq_true rfl))
      refine t_0 nct_117 rfl (pq_iv rez_227 rfl ⟨by omega, by omega⟩ (show fA g 227 = s from S_a hS 0 (Nat.le_of_ble_eq_true rfl))) ?_
      show t_X d 178 118 lv6 [oI (s (n - 1)), oI 1, oI (((n - 1 : Nat) : Int)), pvR 227] g P
      refine t_0 nct_118 rfl pq_sub ?_
      have bb := b32_b (1 - s (n - 1))
      rw [b32_o (1 - s (n - 1))]
      show t_X d 178 119 lv6 [oI (b32 (1 - s (n - 1))), oI (((n - 1 : Nat) : Int)), pvR 227] g P
      refine ts_a (n := 0) rfl rfl (by decide) nct_119 hS rez_227 rfl qc_u rgu_227 (by decide) ⟨by omega, by omega⟩ ⟨by omega, by omega⟩ (fun g11 hS11 => ?_)
      replace hS11 : qE g0 g11 (updI s (n - 1) (b32 (1 - s (n - 1)))) := hS11
      show t_X d 178 120 lv6 [] g11 P
      refine t_1 nct_120 rfl (pb_goto (pc := 120) (by decide)) ?_
      show t_X d 178 232 lv6 [] g11 P
      refine t_1 nct_232 rfl (pb_goto (pc := 232) (by decide)) ?_
      show t_X d 178 16 lv6 [] g11 P
      have hP2 := hP
      rw [am_n hke hO] at hP2
      exact ih (k + 1) (n) _ _ (by omega) (by omega) (by omega) hD1 (aT_n hb ht) hS11 hP2 l0 l2 (by rw [show (((n : Nat) : Int)) = (n : Int) by omega]; exact l3) l4 (by rw [show (((k + 1 : Nat) : Int)) = (k : Int) + 1 by omega]; exact l5)
    · have hD1 : (D (k + 1)).1 = n - 1 := by rw [hDp, ← hD]
      have hDt : (D t).1 = n := by rw [hDq, ← hD]
      refine t_0 nct_16 rfl (ld_i l5) ?_
      refine t_0 nct_18 rfl (ld_i l2) ?_
      refine tb_ge nct_19 (by decide) ⟨by omega, by omega⟩ ⟨by omega, by omega⟩ (fun c1 => absurd c1 (by omega)) (fun c1 => ?_)
      show t_X d 178 22 lv [] g P
      refine t_0 nct_22 rfl (ld_a l0) ?_
      refine t_0 nct_23 rfl (rcq_196_42 (S_J hS).1) ?_
      show t_X d 178 26 lv [pvR 222] g P
      refine t_0 nct_26 rfl (ld_i l5) ?_
      have r2 : fA g 222 k = 1048576 * o k + v k := (congrFun (fA_M (S_J hS).2 qc_n.2.2.2.2.2.1) k).trans (hC k (by omega))
      refine t_0 nct_28 rfl (pq_iv rez_222 rfl ⟨by omega, by omega⟩ (rfl : fA g 222 = fA g 222)) ?_
      show t_X d 178 29 lv [oI (fA g 222 k)] g P
      rw [r2]
      show t_X d 178 29 lv [oI (1048576 * o k + v k)] g P
      refine t_0 nct_29 rfl (pq_cw (n := 1048576) (by decide +kernel)) ?_
      refine t_0 nct_32 rfl (pq_div ⟨by omega, by omega⟩ ⟨by omega, by omega⟩) ?_
      rw [show (1048576 * o k + v k) / 1048576 = 11 by omega]
      show t_X d 178 33 lv [oI 11] g P
      refine t_2 nct_33 rfl (w := (px_s1 lv 6 (oI 11), [])) rfl ?_
      replace l0 : px_lg (px_s1 lv 6 (oI 11)) 0 = some (pvR 196) := s1_ne (by decide) (fun _ => rfl) l0
      replace l2 : px_lg (px_s1 lv 6 (oI 11)) 2 = some (oI ((e : Int))) := s1_ne (by decide) (fun _ => rfl) l2
      replace l3 : px_lg (px_s1 lv 6 (oI 11)) 3 = some (oI ((n : Int))) := s1_ne (by decide) (fun _ => rfl) l3
      replace l4 : px_lg (px_s1 lv 6 (oI 11)) 4 = some (oI 0) := s1_ne (by decide) (fun _ => rfl) l4
      replace l5 : px_lg (px_s1 lv 6 (oI 11)) 5 = some (oI ((k : Int))) := s1_ne (by decide) (fun _ => rfl) l5
      have l6 : px_lg (px_s1 lv 6 (oI 11)) 6 = some (oI 11) := s1_eq
      generalize px_s1 lv 6 (oI 11) = lv3 at l0 l2 l3 l4 l5 l6 ⊢
      show t_X d 178 35 lv3 [] g P
      refine t_0 nct_35 rfl (ld_a l0) ?_
      refine t_0 nct_36 rfl (rcq_196_42 (S_J hS).1) ?_
      show t_X d 178 39 lv3 [pvR 222] g P
      refine t_0 nct_39 rfl (ld_i l5) ?_
      have r4 : fA g 222 k = 1048576 * o k + v k := (congrFun (fA_M (S_J hS).2 qc_n.2.2.2.2.2.1) k).trans (hC k (by omega))
      refine t_0 nct_41 rfl (pq_iv rez_222 rfl ⟨by omega, by omega⟩ (rfl : fA g 222 = fA g 222)) ?_
      show t_X d 178 42 lv3 [oI (fA g 222 k)] g P
      rw [r4]
      show t_X d 178 42 lv3 [oI (1048576 * o k + v k)] g P
      refine t_0 nct_42 rfl (pq_cw (n := 1048576) (by decide +kernel)) ?_
      refine t_0 nct_45 rfl (pq_rem ⟨by omega, by omega⟩ ⟨by omega, by omega⟩) ?_
      rw [show (1048576 * o k + v k) % 1048576 = (t : Int) by omega]
      show t_X d 178 46 lv3 [oI ((t : Int))] g P
      refine t_2 nct_46 rfl (w := (px_s1 lv3 7 (oI ((t : Int))), [])) rfl ?_
      replace l0 : px_lg (px_s1 lv3 7 (oI ((t : Int)))) 0 = some (pvR 196) := s1_ne (by decide) (fun _ => rfl) l0
      replace l2 : px_lg (px_s1 lv3 7 (oI ((t : Int)))) 2 = some (oI ((e : Int))) := s1_ne (by decide) (fun _ => rfl) l2
      replace l3 : px_lg (px_s1 lv3 7 (oI ((t : Int)))) 3 = some (oI ((n : Int))) := s1_ne (by decide) (fun _ => rfl) l3
      replace l4 : px_lg (px_s1 lv3 7 (oI ((t : Int)))) 4 = some (oI 0) := s1_ne (by decide) (fun _ => rfl) l4
      replace l5 : px_lg (px_s1 lv3 7 (oI ((t : Int)))) 5 = some (oI ((k : Int))) := s1_ne (by decide) (fun _ => rfl) l5
      replace l6 : px_lg (px_s1 lv3 7 (oI ((t : Int)))) 6 = some (oI 11) := s1_ne (by decide) (fun _ => rfl) l6
      have l7 : px_lg (px_s1 lv3 7 (oI ((t : Int)))) 7 = some (oI ((t : Int))) := s1_eq
      generalize px_s1 lv3 7 (oI ((t : Int))) = lv5 at l0 l2 l3 l4 l5 l6 l7 ⊢
      show t_X d 178 48 lv5 [] g P
      refine t_0 nct_48 rfl (ld_i l5) ?_
      refine t_0 nct_50 rfl rfl ?_
      refine t_0 nct_51 rfl pq_add ?_
      refine t_2 nct_52 rfl (w := (px_s1 lv5 5 (oI ((k : Int) + 1)), [])) rfl ?_
      replace l0 : px_lg (px_s1 lv5 5 (oI ((k : Int) + 1))) 0 = some (pvR 196) := s1_ne (by decide) (fun _ => rfl) l0
      replace l2 : px_lg (px_s1 lv5 5 (oI ((k : Int) + 1))) 2 = some (oI ((e : Int))) := s1_ne (by decide) (fun _ => rfl) l2
      replace l3 : px_lg (px_s1 lv5 5 (oI ((k : Int) + 1))) 3 = some (oI ((n : Int))) := s1_ne (by decide) (fun _ => rfl) l3
      replace l4 : px_lg (px_s1 lv5 5 (oI ((k : Int) + 1))) 4 = some (oI 0) := s1_ne (by decide) (fun _ => rfl) l4
      replace l6 : px_lg (px_s1 lv5 5 (oI ((k : Int) + 1))) 6 = some (oI 11) := s1_ne (by decide) (fun _ => rfl) l6
      replace l7 : px_lg (px_s1 lv5 5 (oI ((k : Int) + 1))) 7 = some (oI ((t : Int))) := s1_ne (by decide) (fun _ => rfl) l7
      have l5 : px_lg (px_s1 lv5 5 (oI ((k : Int) + 1))) 5 = some (oI ((k : Int) + 1)) := s1_eq
      generalize px_s1 lv5 5 (oI ((k : Int) + 1)) = lv6 at l0 l2 l3 l4 l6 l7 l5 ⊢
      show t_X d 178 54 lv6 [] g P
      refine t_0 nct_54 rfl (ld_i l6) ?_
      refine tz_eq nct_56 (by decide) ⟨by omega, by omega⟩ (fun c7 => absurd c7 (by omega)) (fun c7 => ?_)
      show t_X d 178 59 lv6 [] g P
      refine t_0 nct_59 rfl (ld_i l6) ?_
      refine t_0 nct_61 rfl rfl ?_
      refine tb_ne nct_62 (by decide) ⟨by omega, by omega⟩ ⟨by omega, by omega⟩ (fun c8 => ?_) (fun c8 => absurd c8 (by omega))
      show t_X d 178 95 lv6 [] g P
      refine t_0 nct_95 rfl (ld_i l6) ?_
      refine t_0 nct_97 rfl (pq_b (by decide)) ?_
      refine tb_ne nct_99 (by decide) ⟨by omega, by omega⟩ ⟨by omega, by omega⟩ (fun c9 => ?_) (fun c9 => absurd c9 (by omega))
      show t_X d 178 123 lv6 [] g P
      refine t_0 nct_123 rfl (ld_i l6) ?_
      refine t_0 nct_125 rfl (pq_b (by decide)) ?_
      refine tb_eq nct_127 (by decide) ⟨by omega, by omega⟩ ⟨by omega, by omega⟩ (fun c10 => ?_) (fun c10 => absurd c10 (by omega))
      show t_X d 178 137 lv6 [] g P
      refine t_0 nct_137 rfl (ld_a l0) ?_
      refine t_0 nct_138 rfl (rcq_196_47 (S_J hS).1) ?_
      show t_X d 178 141 lv6 [pvR 227] g P
      refine t_0 nct_141 rfl (ld_i l3) ?_
      refine t_0 nct_142 rfl rfl ?_
      refine t_0 nct_143 rfl pq_sub ?_
      rw [show (n : Int) - 1 = ((n - 1 : Nat) : Int) by omega]
      have r11 := pb_a (S_J hS).1 rez_227 (j := n - 1) (by omega) rgu_227 (show fA g 227 = s from S_a hS 0 (Nat.le_of_ble_eq_true rfl))
      refine t_0 nct_144 rfl (pq_iv rez_227 rfl ⟨by omega, by omega⟩ (show fA g 227 = s from S_a hS 0 (Nat.le_of_ble_eq_true rfl))) ?_
      show t_X d 178 145 lv6 [oI (s (n - 1))] g P
      refine t_0 nct_145 rfl (ld_i l6) ?_
      refine t_0 nct_147 rfl (pq_b (by decide)) ?_
      refine tb_ne nct_149 (by decide) ⟨by omega, by omega⟩ ⟨by omega, by omega⟩ (fun c12 => ?_) (fun c12 => absurd c12 (by omega))
      show t_X d 178 156 lv6 [oI (s (n - 1))] g P
      refine t_0 nct_156 rfl rfl ?_
      refine tb_ne nct_157 (by decide) ⟨by omega, by omega⟩ ⟨by omega, by omega⟩ (fun c13 => ?_) (fun c13 => ?_)
      · show t_X d 178 170 lv6 [] g P
        refine t_0 nct_170 rfl (ld_i l3) ?_
        refine t_0 nct_171 rfl rfl ?_
        refine t_0 nct_172 rfl pq_sub ?_
        rw [show (n : Int) - 1 = ((n - 1 : Nat) : Int) by omega]
        refine t_2 nct_173 rfl (w := (px_s1 lv6 3 (oI (((n - 1 : Nat) : Int))), [])) rfl ?_
        replace l0 : px_lg (px_s1 lv6 3 (oI (((n - 1 : Nat) : Int)))) 0 = some (pvR 196) := s1_ne (by decide) (fun _ => rfl) l0
        replace l2 : px_lg (px_s1 lv6 3 (oI (((n - 1 : Nat) : Int)))) 2 = some (oI ((e : Int))) := s1_ne (by decide) (fun _ => rfl) l2
        replace l4 : px_lg (px_s1 lv6 3 (oI (((n - 1 : Nat) : Int)))) 4 = some (oI 0) := s1_ne (by decide) (fun _ => rfl) l4
        replace l6 : px_lg (px_s1 lv6 3 (oI (((n - 1 : Nat) : Int)))) 6 = some (oI 11) := s1_ne (by decide) (fun _ => rfl) l6
        replace l7 : px_lg (px_s1 lv6 3 (oI (((n - 1 : Nat) : Int)))) 7 = some (oI ((t : Int))) := s1_ne (by decide) (fun _ => rfl) l7
        replace l5 : px_lg (px_s1 lv6 3 (oI (((n - 1 : Nat) : Int)))) 5 = some (oI ((k : Int) + 1)) := s1_ne (by decide) (fun _ => rfl) l5
        have l3 : px_lg (px_s1 lv6 3 (oI (((n - 1 : Nat) : Int)))) 3 = some (oI (((n - 1 : Nat) : Int))) := s1_eq
        generalize px_s1 lv6 3 (oI (((n - 1 : Nat) : Int))) = lv14 at l0 l2 l4 l6 l7 l5 l3 ⊢
        show t_X d 178 174 lv14 [] g P
        refine t_1 nct_174 rfl (pb_goto (pc := 174) (by decide)) ?_
        show t_X d 178 232 lv14 [] g P
        refine t_1 nct_232 rfl (pb_goto (pc := 232) (by decide)) ?_
        show t_X d 178 16 lv14 [] g P
        have hz : ¬ s (n - 1) = 0 := by omega
        have hP2 := hP
        rw [am_a2 hke hO hz] at hP2
        exact ih (k + 1) (n - 1) _ _ (by omega) (by omega) (by omega) hD1 (aT_f hDp) hS hP2 l0 l2 (by rw [show (((n - 1 : Nat) : Int)) = ((n - 1 : Nat) : Int) by omega]; exact l3) l4 (by rw [show (((k + 1 : Nat) : Int)) = (k : Int) + 1 by omega]; exact l5)
      · show t_X d 178 160 lv6 [] g P
        refine t_0 nct_160 rfl (ld_i l4) ?_
        refine t_0 nct_162 rfl (ld_i l7) ?_
        refine t_0 nct_164 rfl pq_add ?_
        refine t_2 nct_165 rfl (w := (px_s1 lv6 5 (oI (0 + (t : Int))), [])) rfl ?_
        replace l0 : px_lg (px_s1 lv6 5 (oI (0 + (t : Int)))) 0 = some (pvR 196) := s1_ne (by decide) (fun _ => rfl) l0
        replace l2 : px_lg (px_s1 lv6 5 (oI (0 + (t : Int)))) 2 = some (oI ((e : Int))) := s1_ne (by decide) (fun _ => rfl) l2
        replace l3 : px_lg (px_s1 lv6 5 (oI (0 + (t : Int)))) 3 = some (oI ((n : Int))) := s1_ne (by decide) (fun _ => rfl) l3
        replace l4 : px_lg (px_s1 lv6 5 (oI (0 + (t : Int)))) 4 = some (oI 0) := s1_ne (by decide) (fun _ => rfl) l4
        replace l6 : px_lg (px_s1 lv6 5 (oI (0 + (t : Int)))) 6 = some (oI 11) := s1_ne (by decide) (fun _ => rfl) l6
        replace l7 : px_lg (px_s1 lv6 5 (oI (0 + (t : Int)))) 7 = some (oI ((t : Int))) := s1_ne (by decide) (fun _ => rfl) l7
        have l5 : px_lg (px_s1 lv6 5 (oI (0 + (t : Int)))) 5 = some (oI (0 + (t : Int))) := s1_eq
        generalize px_s1 lv6 5 (oI (0 + (t : Int))) = lv15 at l0 l2 l3 l4 l6 l7 l5 ⊢
        show t_X d 178 167 lv15 [] g P
        refine t_1 nct_167 rfl (pb_goto (pc := 167) (by decide)) ?_
        show t_X d 178 232 lv15 [] g P
        refine t_1 nct_232 rfl (pb_goto (pc := 232) (by decide)) ?_
        show t_X d 178 16 lv15 [] g P
        have hz :  s (n - 1) = 0 := by omega
        have hP2 := hP
        rw [am_a hke hO hz] at hP2
        rw [show (v k).toNat = t by omega] at hP2
        exact ih (t) (n) _ _ (by omega) (by omega) (by omega) hDt (aT_j hDq ht) hS hP2 l0 l2 (by rw [show (((n : Nat) : Int)) = (n : Int) by omega]; exact l3) l4 (by rw [show (((t : Nat) : Int)) = 0 + (t : Int) by omega]; exact l5)
    · have hD1 : (D (k + 1)).1 = n - 1 := by rw [hDp, ← hD]
      have hDt : (D t).1 = n := by rw [hDq, ← hD]
      refine t_0 nct_16 rfl (ld_i l5) ?_
      refine t_0 nct_18 rfl (ld_i l2) ?_
      refine tb_ge nct_19 (by decide) ⟨by omega, by omega⟩ ⟨by omega, by omega⟩ (fun c1 => absurd c1 (by omega)) (fun c1 => ?_)
      show t_X d 178 22 lv [] g P
      refine t_0 nct_22 rfl (ld_a l0) ?_
      refine t_0 nct_23 rfl (rcq_196_42 (S_J hS).1) ?_
      show t_X d 178 26 lv [pvR 222] g P
      refine t_0 nct_26 rfl (ld_i l5) ?_
      have r2 : fA g 222 k = 1048576 * o k + v k := (congrFun (fA_M (S_J hS).2 qc_n.2.2.2.2.2.1) k).trans (hC k (by omega))
      refine t_0 nct_28 rfl (pq_iv rez_222 rfl ⟨by omega, by omega⟩ (rfl : fA g 222 = fA g 222)) ?_
      show t_X d 178 29 lv [oI (fA g 222 k)] g P
      rw [r2]
      show t_X d 178 29 lv [oI (1048576 * o k + v k)] g P
      refine t_0 nct_29 rfl (pq_cw (n := 1048576) (by decide +kernel)) ?_
      refine t_0 nct_32 rfl (pq_div ⟨by omega, by omega⟩ ⟨by omega, by omega⟩) ?_
      rw [show (1048576 * o k + v k) / 1048576 = 12 by omega]
      show t_X d 178 33 lv [oI 12] g P
      refine t_2 nct_33 rfl (w := (px_s1 lv 6 (oI 12), [])) rfl ?_
      replace l0 : px_lg (px_s1 lv 6 (oI 12)) 0 = some (pvR 196) := s1_ne (by decide) (fun _ => rfl) l0
      replace l2 : px_lg (px_s1 lv 6 (oI 12)) 2 = some (oI ((e : Int))) := s1_ne (by decide) (fun _ => rfl) l2
      replace l3 : px_lg (px_s1 lv 6 (oI 12)) 3 = some (oI ((n : Int))) := s1_ne (by decide) (fun _ => rfl) l3
      replace l4 : px_lg (px_s1 lv 6 (oI 12)) 4 = some (oI 0) := s1_ne (by decide) (fun _ => rfl) l4
      replace l5 : px_lg (px_s1 lv 6 (oI 12)) 5 = some (oI ((k : Int))) := s1_ne (by decide) (fun _ => rfl) l5
      have l6 : px_lg (px_s1 lv 6 (oI 12)) 6 = some (oI 12) := s1_eq
      generalize px_s1 lv 6 (oI 12) = lv3 at l0 l2 l3 l4 l5 l6 ⊢
      show t_X d 178 35 lv3 [] g P
      refine t_0 nct_35 rfl (ld_a l0) ?_
      refine t_0 nct_36 rfl (rcq_196_42 (S_J hS).1) ?_
      show t_X d 178 39 lv3 [pvR 222] g P
      refine t_0 nct_39 rfl (ld_i l5) ?_
      have r4 : fA g 222 k = 1048576 * o k + v k := (congrFun (fA_M (S_J hS).2 qc_n.2.2.2.2.2.1) k).trans (hC k (by omega))
      refine t_0 nct_41 rfl (pq_iv rez_222 rfl ⟨by omega, by omega⟩ (rfl : fA g 222 = fA g 222)) ?_
      show t_X d 178 42 lv3 [oI (fA g 222 k)] g P
      rw [r4]
      show t_X d 178 42 lv3 [oI (1048576 * o k + v k)] g P
      refine t_0 nct_42 rfl (pq_cw (n := 1048576) (by decide +kernel)) ?_
      refine t_0 nct_45 rfl (pq_rem ⟨by omega, by omega⟩ ⟨by omega, by omega⟩) ?_
      rw [show (1048576 * o k + v k) % 1048576 = (t : Int) by omega]
      show t_X d 178 46 lv3 [oI ((t : Int))] g P
      refine t_2 nct_46 rfl (w := (px_s1 lv3 7 (oI ((t : Int))), [])) rfl ?_
      replace l0 : px_lg (px_s1 lv3 7 (oI ((t : Int)))) 0 = some (pvR 196) := s1_ne (by decide) (fun _ => rfl) l0
      replace l2 : px_lg (px_s1 lv3 7 (oI ((t : Int)))) 2 = some (oI ((e : Int))) := s1_ne (by decide) (fun _ => rfl) l2
      replace l3 : px_lg (px_s1 lv3 7 (oI ((t : Int)))) 3 = some (oI ((n : Int))) := s1_ne (by decide) (fun _ => rfl) l3
      replace l4 : px_lg (px_s1 lv3 7 (oI ((t : Int)))) 4 = some (oI 0) := s1_ne (by decide) (fun _ => rfl) l4
      replace l5 : px_lg (px_s1 lv3 7 (oI ((t : Int)))) 5 = some (oI ((k : Int))) := s1_ne (by decide) (fun _ => rfl) l5
      replace l6 : px_lg (px_s1 lv3 7 (oI ((t : Int)))) 6 = some (oI 12) := s1_ne (by decide) (fun _ => rfl) l6
      have l7 : px_lg (px_s1 lv3 7 (oI ((t : Int)))) 7 = some (oI ((t : Int))) := s1_eq
      generalize px_s1 lv3 7 (oI ((t : Int))) = lv5 at l0 l2 l3 l4 l5 l6 l7 ⊢
      show t_X d 178 48 lv5 [] g P
      refine t_0 nct_48 rfl (ld_i l5) ?_
      refine t_0 nct_50 rfl rfl ?_
      refine t_0 nct_51 rfl pq_add ?_
      refine t_2 nct_52 rfl (w := (px_s1 lv5 5 (oI ((k : Int) + 1)), [])) rfl ?_
      replace l0 : px_lg (px_s1 lv5 5 (oI ((k : Int) + 1))) 0 = some (pvR 196) := s1_ne (by decide) (fun _ => rfl) l0
      replace l2 : px_lg (px_s1 lv5 5 (oI ((k : Int) + 1))) 2 = some (oI ((e : Int))) := s1_ne (by decide) (fun _ => rfl) l2
      replace l3 : px_lg (px_s1 lv5 5 (oI ((k : Int) + 1))) 3 = some (oI ((n : Int))) := s1_ne (by decide) (fun _ => rfl) l3
      replace l4 : px_lg (px_s1 lv5 5 (oI ((k : Int) + 1))) 4 = some (oI 0) := s1_ne (by decide) (fun _ => rfl) l4
      replace l6 : px_lg (px_s1 lv5 5 (oI ((k : Int) + 1))) 6 = some (oI 12) := s1_ne (by decide) (fun _ => rfl) l6
      replace l7 : px_lg (px_s1 lv5 5 (oI ((k : Int) + 1))) 7 = some (oI ((t : Int))) := s1_ne (by decide) (fun _ => rfl) l7
      have l5 : px_lg (px_s1 lv5 5 (oI ((k : Int) + 1))) 5 = some (oI ((k : Int) + 1)) := s1_eq
      generalize px_s1 lv5 5 (oI ((k : Int) + 1)) = lv6 at l0 l2 l3 l4 l6 l7 l5 ⊢
      show t_X d 178 54 lv6 [] g P
      refine t_0 nct_54 rfl (ld_i l6) ?_
      refine tz_eq nct_56 (by decide) ⟨by omega, by omega⟩ (fun c7 => absurd c7 (by omega)) (fun c7 => ?_)
      show t_X d 178 59 lv6 [] g P
      refine t_0 nct_59 rfl (ld_i l6) ?_
      refine t_0 nct_61 rfl rfl ?_
      refine tb_ne nct_62 (by decide) ⟨by omega, by omega⟩ ⟨by omega, by omega⟩ (fun c8 => ?_) (fun c8 => absurd c8 (by omega))
      show t_X d 178 95 lv6 [] g P
      refine t_0 nct_95 rfl (ld_i l6) ?_
      refine t_0 nct_97 rfl (pq_b (by decide)) ?_
      refine tb_ne nct_99 (by decide) ⟨by omega, by omega⟩ ⟨by omega, by omega⟩ (fun c9 => ?_) (fun c9 => absurd c9 (by omega))
      show t_X d 178 123 lv6 [] g P
      refine t_0 nct_123 rfl (ld_i l6) ?_
      refine t_0 nct_125 rfl (pq_b (by decide)) ?_
      refine tb_eq nct_127 (by decide) ⟨by omega, by omega⟩ ⟨by omega, by omega⟩ (fun c10 => absurd c10 (by omega)) (fun c10 => ?_)
      show t_X d 178 130 lv6 [] g P
      refine t_0 nct_130 rfl (ld_i l6) ?_
      refine t_0 nct_132 rfl (pq_b (by decide)) ?_
      refine tb_ne nct_134 (by decide) ⟨by omega, by omega⟩ ⟨by omega, by omega⟩ (fun c11 => absurd c11 (by omega)) (fun c11 => ?_)
      show t_X d 178 137 lv6 [] g P
      refine t_0 nct_137 rfl (ld_a l0) ?_
      refine t_0 nct_138 rfl (rcq_196_47 (S_J hS).1) ?_
      show t_X d 178 141 lv6 [pvR 227] g P
      refine t_0 nct_141 rfl (ld_i l3) ?_
      refine t_0 nct_142 rfl rfl ?_
      refine t_0 nct_143 rfl pq_sub ?_
      rw [show (n : Int) - 1 = ((n - 1 : Nat) : Int) by omega]
      have r12 := pb_a (S_J hS).1 rez_227 (j := n - 1) (by omega) rgu_227 (show fA g 227 = s from S_a hS 0 (Nat.le_of_ble_eq_true rfl))
      refine t_0 nct_144 rfl (pq_iv rez_227 rfl ⟨by omega, by omega⟩ (show fA g 227 = s from S_a hS 0 (Nat.le_of_ble_eq_true rfl))) ?_
      show t_X d 178 145 lv6 [oI (s (n - 1))] g P
      refine t_0 nct_145 rfl (ld_i l6) ?_
      refine t_0 nct_147 rfl (pq_b (by decide)) ?_
      refine tb_ne nct_149 (by decide) ⟨by omega, by omega⟩ ⟨by omega, by omega⟩ (fun c13 => absurd c13 (by omega)) (fun c13 => ?_)
      show t_X d 178 152 lv6 [oI (s (n - 1))] g P
      refine t_0 nct_152 rfl rfl ?_
      refine t_1 nct_153 rfl (pb_goto (pc := 153) (by decide)) ?_
      show t_X d 178 157 lv6 [oI 1, oI (s (n - 1))] g P
      refine tb_ne nct_157 (by decide) ⟨by omega, by omega⟩ ⟨by omega, by omega⟩ (fun c14 => ?_) (fun c14 => ?_)
      · show t_X d 178 170 lv6 [] g P
        refine t_0 nct_170 rfl (ld_i l3) ?_
        refine t_0 nct_171 rfl rfl ?_
        refine t_0 nct_172 rfl pq_sub ?_
        rw [show (n : Int) - 1 = ((n - 1 : Nat) : Int) by omega]
        refine t_2 nct_173 rfl (w := (px_s1 lv6 3 (oI (((n - 1 : Nat) : Int))), [])) rfl ?_
        replace l0 : px_lg (px_s1 lv6 3 (oI (((n - 1 : Nat) : Int)))) 0 = some (pvR 196) := s1_ne (by decide) (fun _ => rfl) l0
        replace l2 : px_lg (px_s1 lv6 3 (oI (((n - 1 : Nat) : Int)))) 2 = some (oI ((e : Int))) := s1_ne (by decide) (fun _ => rfl) l2
        replace l4 : px_lg (px_s1 lv6 3 (oI (((n - 1 : Nat) : Int)))) 4 = some (oI 0) := s1_ne (by decide) (fun _ => rfl) l4
        replace l6 : px_lg (px_s1 lv6 3 (oI (((n - 1 : Nat) : Int)))) 6 = some (oI 12) := s1_ne (by decide) (fun _ => rfl) l6
        replace l7 : px_lg (px_s1 lv6 3 (oI (((n - 1 : Nat) : Int)))) 7 = some (oI ((t : Int))) := s1_ne (by decide) (fun _ => rfl) l7
        replace l5 : px_lg (px_s1 lv6 3 (oI (((n - 1 : Nat) : Int)))) 5 = some (oI ((k : Int) + 1)) := s1_ne (by decide) (fun _ => rfl) l5
        have l3 : px_lg (px_s1 lv6 3 (oI (((n - 1 : Nat) : Int)))) 3 = some (oI (((n - 1 : Nat) : Int))) := s1_eq
        generalize px_s1 lv6 3 (oI (((n - 1 : Nat) : Int))) = lv15 at l0 l2 l4 l6 l7 l5 l3 ⊢
        show t_X d 178 174 lv15 [] g P
        refine t_1 nct_174 rfl (pb_goto (pc := 174) (by decide)) ?_
        show t_X d 178 232 lv15 [] g P
        refine t_1 nct_232 rfl (pb_goto (pc := 232) (by decide)) ?_
        show t_X d 178 16 lv15 [] g P
        have hz :  s (n - 1) = 0 := by have := ht hb; omega
        have hP2 := hP
        rw [am_o2 hke hO hz] at hP2
        exact ih (k + 1) (n - 1) _ _ (by omega) (by omega) (by omega) hD1 (aT_f hDp) hS hP2 l0 l2 (by rw [show (((n - 1 : Nat) : Int)) = ((n - 1 : Nat) : Int) by omega]; exact l3) l4 (by rw [show (((k + 1 : Nat) : Int)) = (k : Int) + 1 by omega]; exact l5)
      · show t_X d 178 160 lv6 [] g P
        refine t_0 nct_160 rfl (ld_i l4) ?_
        refine t_0 nct_162 rfl (ld_i l7) ?_
        refine t_0 nct_164 rfl pq_add ?_
        refine t_2 nct_165 rfl (w := (px_s1 lv6 5 (oI (0 + (t : Int))), [])) rfl ?_
        replace l0 : px_lg (px_s1 lv6 5 (oI (0 + (t : Int)))) 0 = some (pvR 196) := s1_ne (by decide) (fun _ => rfl) l0
        replace l2 : px_lg (px_s1 lv6 5 (oI (0 + (t : Int)))) 2 = some (oI ((e : Int))) := s1_ne (by decide) (fun _ => rfl) l2
        replace l3 : px_lg (px_s1 lv6 5 (oI (0 + (t : Int)))) 3 = some (oI ((n : Int))) := s1_ne (by decide) (fun _ => rfl) l3
        replace l4 : px_lg (px_s1 lv6 5 (oI (0 + (t : Int)))) 4 = some (oI 0) := s1_ne (by decide) (fun _ => rfl) l4
        replace l6 : px_lg (px_s1 lv6 5 (oI (0 + (t : Int)))) 6 = some (oI 12) := s1_ne (by decide) (fun _ => rfl) l6
        replace l7 : px_lg (px_s1 lv6 5 (oI (0 + (t : Int)))) 7 = some (oI ((t : Int))) := s1_ne (by decide) (fun _ => rfl) l7
        have l5 : px_lg (px_s1 lv6 5 (oI (0 + (t : Int)))) 5 = some (oI (0 + (t : Int))) := s1_eq
        generalize px_s1 lv6 5 (oI (0 + (t : Int))) = lv16 at l0 l2 l3 l4 l6 l7 l5 ⊢
        show t_X d 178 167 lv16 [] g P
        refine t_1 nct_167 rfl (pb_goto (pc := 167) (by decide)) ?_
        show t_X d 178 232 lv16 [] g P
        refine t_1 nct_232 rfl (pb_goto (pc := 232) (by decide)) ?_
        show t_X d 178 16 lv16 [] g P
        have hz : ¬ s (n - 1) = 0 := by have := ht hb; omega
        have hP2 := hP
        rw [am_o hke hO hz] at hP2
        rw [show (v k).toNat = t by omega] at hP2
        exact ih (t) (n) _ _ (by omega) (by omega) (by omega) hDt (aT_j hDq ht) hS hP2 l0 l2 (by rw [show (((n : Nat) : Int)) = (n : Int) by omega]; exact l3) l4 (by rw [show (((t : Nat) : Int)) = 0 + (t : Int) by omega]; exact l5)
    · have hD1 : (D (k + 1)).1 = n - 1 := by rw [hDp, ← hD]
      have hB : 2 ≤ o k ∧ o k ≤ 9 := ⟨hB1, hB2⟩
      refine t_0 nct_16 rfl (ld_i l5) ?_
      refine t_0 nct_18 rfl (ld_i l2) ?_
      refine tb_ge nct_19 (by decide) ⟨by omega, by omega⟩ ⟨by omega, by omega⟩ (fun c1 => absurd c1 (by omega)) (fun c1 => ?_)
      show t_X d 178 22 lv [] g P
      refine t_0 nct_22 rfl (ld_a l0) ?_
      refine t_0 nct_23 rfl (rcq_196_42 (S_J hS).1) ?_
      show t_X d 178 26 lv [pvR 222] g P
      refine t_0 nct_26 rfl (ld_i l5) ?_
      have r2 : fA g 222 k = 1048576 * o k + v k := (congrFun (fA_M (S_J hS).2 qc_n.2.2.2.2.2.1) k).trans (hC k (by omega))
      refine t_0 nct_28 rfl (pq_iv rez_222 rfl ⟨by omega, by omega⟩ (rfl : fA g 222 = fA g 222)) ?_
      show t_X d 178 29 lv [oI (fA g 222 k)] g P
      rw [r2]
      show t_X d 178 29 lv [oI (1048576 * o k + v k)] g P
      refine t_0 nct_29 rfl (pq_cw (n := 1048576) (by decide +kernel)) ?_
      refine t_0 nct_32 rfl (pq_div ⟨by omega, by omega⟩ ⟨by omega, by omega⟩) ?_
      rw [show (1048576 * o k + v k) / 1048576 = o k by omega]
      show t_X d 178 33 lv [oI (o k)] g P
      refine t_2 nct_33 rfl (w := (px_s1 lv 6 (oI (o k)), [])) rfl ?_
      replace l0 : px_lg (px_s1 lv 6 (oI (o k))) 0 = some (pvR 196) := s1_ne (by decide) (fun _ => rfl) l0
      replace l2 : px_lg (px_s1 lv 6 (oI (o k))) 2 = some (oI ((e : Int))) := s1_ne (by decide) (fun _ => rfl) l2
      replace l3 : px_lg (px_s1 lv 6 (oI (o k))) 3 = some (oI ((n : Int))) := s1_ne (by decide) (fun _ => rfl) l3
      replace l4 : px_lg (px_s1 lv 6 (oI (o k))) 4 = some (oI 0) := s1_ne (by decide) (fun _ => rfl) l4
      replace l5 : px_lg (px_s1 lv 6 (oI (o k))) 5 = some (oI ((k : Int))) := s1_ne (by decide) (fun _ => rfl) l5
      have l6 : px_lg (px_s1 lv 6 (oI (o k))) 6 = some (oI (o k)) := s1_eq
      generalize px_s1 lv 6 (oI (o k)) = lv3 at l0 l2 l3 l4 l5 l6 ⊢
      show t_X d 178 35 lv3 [] g P
      refine t_0 nct_35 rfl (ld_a l0) ?_
      refine t_0 nct_36 rfl (rcq_196_42 (S_J hS).1) ?_
      show t_X d 178 39 lv3 [pvR 222] g P
      refine t_0 nct_39 rfl (ld_i l5) ?_
      have r4 : fA g 222 k = 1048576 * o k + v k := (congrFun (fA_M (S_J hS).2 qc_n.2.2.2.2.2.1) k).trans (hC k (by omega))
      refine t_0 nct_41 rfl (pq_iv rez_222 rfl ⟨by omega, by omega⟩ (rfl : fA g 222 = fA g 222)) ?_
      show t_X d 178 42 lv3 [oI (fA g 222 k)] g P
      rw [r4]
      show t_X d 178 42 lv3 [oI (1048576 * o k + v k)] g P
      refine t_0 nct_42 rfl (pq_cw (n := 1048576) (by decide +kernel)) ?_
      refine t_0 nct_45 rfl (pq_rem ⟨by omega, by omega⟩ ⟨by omega, by omega⟩) ?_
      rw [show (1048576 * o k + v k) % 1048576 = v k by omega]
      show t_X d 178 46 lv3 [oI (v k)] g P
      refine t_2 nct_46 rfl (w := (px_s1 lv3 7 (oI (v k)), [])) rfl ?_
      replace l0 : px_lg (px_s1 lv3 7 (oI (v k))) 0 = some (pvR 196) := s1_ne (by decide) (fun _ => rfl) l0
      replace l2 : px_lg (px_s1 lv3 7 (oI (v k))) 2 = some (oI ((e : Int))) := s1_ne (by decide) (fun _ => rfl) l2
      replace l3 : px_lg (px_s1 lv3 7 (oI (v k))) 3 = some (oI ((n : Int))) := s1_ne (by decide) (fun _ => rfl) l3
      replace l4 : px_lg (px_s1 lv3 7 (oI (v k))) 4 = some (oI 0) := s1_ne (by decide) (fun _ => rfl) l4
      replace l5 : px_lg (px_s1 lv3 7 (oI (v k))) 5 = some (oI ((k : Int))) := s1_ne (by decide) (fun _ => rfl) l5
      replace l6 : px_lg (px_s1 lv3 7 (oI (v k))) 6 = some (oI (o k)) := s1_ne (by decide) (fun _ => rfl) l6
      have l7 : px_lg (px_s1 lv3 7 (oI (v k))) 7 = some (oI (v k)) := s1_eq
      generalize px_s1 lv3 7 (oI (v k)) = lv5 at l0 l2 l3 l4 l5 l6 l7 ⊢
      show t_X d 178 48 lv5 [] g P
      refine t_0 nct_48 rfl (ld_i l5) ?_
      refine t_0 nct_50 rfl rfl ?_
      refine t_0 nct_51 rfl pq_add ?_
      refine t_2 nct_52 rfl (w := (px_s1 lv5 5 (oI ((k : Int) + 1)), [])) rfl ?_
      replace l0 : px_lg (px_s1 lv5 5 (oI ((k : Int) + 1))) 0 = some (pvR 196) := s1_ne (by decide) (fun _ => rfl) l0
      replace l2 : px_lg (px_s1 lv5 5 (oI ((k : Int) + 1))) 2 = some (oI ((e : Int))) := s1_ne (by decide) (fun _ => rfl) l2
      replace l3 : px_lg (px_s1 lv5 5 (oI ((k : Int) + 1))) 3 = some (oI ((n : Int))) := s1_ne (by decide) (fun _ => rfl) l3
      replace l4 : px_lg (px_s1 lv5 5 (oI ((k : Int) + 1))) 4 = some (oI 0) := s1_ne (by decide) (fun _ => rfl) l4
      replace l6 : px_lg (px_s1 lv5 5 (oI ((k : Int) + 1))) 6 = some (oI (o k)) := s1_ne (by decide) (fun _ => rfl) l6
      replace l7 : px_lg (px_s1 lv5 5 (oI ((k : Int) + 1))) 7 = some (oI (v k)) := s1_ne (by decide) (fun _ => rfl) l7
      have l5 : px_lg (px_s1 lv5 5 (oI ((k : Int) + 1))) 5 = some (oI ((k : Int) + 1)) := s1_eq
      generalize px_s1 lv5 5 (oI ((k : Int) + 1)) = lv6 at l0 l2 l3 l4 l6 l7 l5 ⊢
      show t_X d 178 54 lv6 [] g P
      refine t_0 nct_54 rfl (ld_i l6) ?_
      refine tz_eq nct_56 (by decide) ⟨by omega, by omega⟩ (fun c7 => absurd c7 (by omega)) (fun c7 => ?_)
      show t_X d 178 59 lv6 [] g P
      refine t_0 nct_59 rfl (ld_i l6) ?_
      refine t_0 nct_61 rfl rfl ?_
      refine tb_ne nct_62 (by decide) ⟨by omega, by omega⟩ ⟨by omega, by omega⟩ (fun c8 => ?_) (fun c8 => absurd c8 (by omega))
      show t_X d 178 95 lv6 [] g P
      refine t_0 nct_95 rfl (ld_i l6) ?_
      refine t_0 nct_97 rfl (pq_b (by decide)) ?_
      refine tb_ne nct_99 (by decide) ⟨by omega, by omega⟩ ⟨by omega, by omega⟩ (fun c9 => ?_) (fun c9 => absurd c9 (by omega))
      show t_X d 178 123 lv6 [] g P
      refine t_0 nct_123 rfl (ld_i l6) ?_
      refine t_0 nct_125 rfl (pq_b (by decide)) ?_
      refine tb_eq nct_127 (by decide) ⟨by omega, by omega⟩ ⟨by omega, by omega⟩ (fun c10 => absurd c10 (by omega)) (fun c10 => ?_)
      show t_X d 178 130 lv6 [] g P
      refine t_0 nct_130 rfl (ld_i l6) ?_
      refine t_0 nct_132 rfl (pq_b (by decide)) ?_
      refine tb_ne nct_134 (by decide) ⟨by omega, by omega⟩ ⟨by omega, by omega⟩ (fun c11 => ?_) (fun c11 => absurd c11 (by omega))
      show t_X d 178 177 lv6 [] g P
      refine t_0 nct_177 rfl (ld_i l3) ?_
      refine t_0 nct_178 rfl rfl ?_
      refine t_0 nct_179 rfl pq_sub ?_
      rw [show (n : Int) - 1 = ((n - 1 : Nat) : Int) by omega]
      refine t_2 nct_180 rfl (w := (px_s1 lv6 3 (oI (((n - 1 : Nat) : Int))), [])) rfl ?_
      replace l0 : px_lg (px_s1 lv6 3 (oI (((n - 1 : Nat) : Int)))) 0 = some (pvR 196) := s1_ne (by decide) (fun _ => rfl) l0
      replace l2 : px_lg (px_s1 lv6 3 (oI (((n - 1 : Nat) : Int)))) 2 = some (oI ((e : Int))) := s1_ne (by decide) (fun _ => rfl) l2
      replace l4 : px_lg (px_s1 lv6 3 (oI (((n - 1 : Nat) : Int)))) 4 = some (oI 0) := s1_ne (by decide) (fun _ => rfl) l4
      replace l6 : px_lg (px_s1 lv6 3 (oI (((n - 1 : Nat) : Int)))) 6 = some (oI (o k)) := s1_ne (by decide) (fun _ => rfl) l6
      replace l7 : px_lg (px_s1 lv6 3 (oI (((n - 1 : Nat) : Int)))) 7 = some (oI (v k)) := s1_ne (by decide) (fun _ => rfl) l7
      replace l5 : px_lg (px_s1 lv6 3 (oI (((n - 1 : Nat) : Int)))) 5 = some (oI ((k : Int) + 1)) := s1_ne (by decide) (fun _ => rfl) l5
      have l3 : px_lg (px_s1 lv6 3 (oI (((n - 1 : Nat) : Int)))) 3 = some (oI (((n - 1 : Nat) : Int))) := s1_eq
      generalize px_s1 lv6 3 (oI (((n - 1 : Nat) : Int))) = lv12 at l0 l2 l4 l6 l7 l5 l3 ⊢
      show t_X d 178 181 lv12 [] g P
      refine t_0 nct_181 rfl (ld_i l6) ?_
      refine t_0 nct_183 rfl rfl ?_
      refine tb_eq nct_184 (by decide) ⟨by omega, by omega⟩ ⟨by omega, by omega⟩ (fun c13 => ?_) (fun c13 => ?_)
      · show t_X d 178 194 lv12 [] g P
        refine t_0 nct_194 rfl (ld_a l0) ?_
        refine t_0 nct_195 rfl (rcq_196_47 (S_J hS).1) ?_
        show t_X d 178 198 lv12 [pvR 227] g P
        refine t_0 nct_198 rfl (ld_i l3) ?_
        have r14 := pb_a (S_J hS).1 rez_227 (j := n - 1) (by omega) rgu_227 (show fA g 227 = s from S_a hS 0 (Nat.le_of_ble_eq_true rfl))
        refine t_0 nct_199 rfl (pq_iv rez_227 rfl ⟨by omega, by omega⟩ (show fA g 227 = s from S_a hS 0 (Nat.le_of_ble_eq_true rfl))) ?_
        show t_X d 178 200 lv12 [oI (s (n - 1))] g P
        refine tz_ne nct_200 (by decide) ⟨by omega, by omega⟩ (fun c15 => ?_) (fun c15 => ?_)
        · show t_X d 178 205 lv12 [] g P
          have hnr : ¬ ((o k = 5 ∨ o k = 6) ∧ s (n - 1) = 0) := by omega
          refine t_0 nct_205 rfl (ld_a l0) ?_
          refine t_0 nct_206 rfl (rcq_196_47 (S_J hS).1) ?_
          show t_X d 178 209 lv12 [pvR 227] g P
          refine t_0 nct_209 rfl (ld_i l3) ?_
          refine t_0 nct_210 rfl rfl ?_
          refine t_0 nct_211 rfl pq_sub ?_
          rw [show ((n - 1 : Nat) : Int) - 1 = ((n - 2 : Nat) : Int) by omega]
          refine t_0 nct_212 rfl (ld_i l6) ?_
          refine t_0 nct_214 rfl (ld_a l0) ?_
          refine t_0 nct_215 rfl (rcq_196_47 (S_J hS).1) ?_
          show t_X d 178 218 lv12 [pvR 227, oI (o k), oI (((n - 2 : Nat) : Int)), pvR 227] g P
          refine t_0 nct_218 rfl (ld_i l3) ?_
          refine t_0 nct_219 rfl rfl ?_
          refine t_0 nct_220 rfl pq_sub ?_
          rw [show ((n - 1 : Nat) : Int) - 1 = ((n - 2 : Nat) : Int) by omega]
          have r16 := pb_a (S_J hS).1 rez_227 (j := n - 2) (by omega) rgu_227 (show fA g 227 = s from S_a hS 0 (Nat.le_of_ble_eq_true rfl))
          refine t_0 nct_221 rfl (pq_iv rez_227 rfl ⟨by omega, by omega⟩ (show fA g 227 = s from S_a hS 0 (Nat.le_of_ble_eq_true rfl))) ?_
          show t_X d 178 222 lv12 [oI (s (n - 2)), oI (o k), oI (((n - 2 : Nat) : Int)), pvR 227] g P
          refine t_0 nct_222 rfl (ld_a l0) ?_
          refine t_0 nct_223 rfl (rcq_196_47 (S_J hS).1) ?_
          show t_X d 178 226 lv12 [pvR 227, oI (s (n - 2)), oI (o k), oI (((n - 2 : Nat) : Int)), pvR 227] g P
          refine t_0 nct_226 rfl (ld_i l3) ?_
          have r17 := pb_a (S_J hS).1 rez_227 (j := n - 1) (by omega) rgu_227 (show fA g 227 = s from S_a hS 0 (Nat.le_of_ble_eq_true rfl))
          refine t_0 nct_227 rfl (pq_iv rez_227 rfl ⟨by omega, by omega⟩ (show fA g 227 = s from S_a hS 0 (Nat.le_of_ble_eq_true rfl))) ?_
          show t_X d 178 228 lv12 [oI (s (n - 1)), oI (s (n - 2)), oI (o k), oI (((n - 2 : Nat) : Int)), pvR 227] g P
          refine t_3 nct_228 rfl (ar := ([oI (o k), oI (s (n - 2)), oI (s (n - 1))], [oI (((n - 2 : Nat) : Int)), pvR 227])) (pcal_s ⟨Or.inl rfl, rfl, Nat.le_of_ble_eq_true rfl⟩) ⟨by omega, Nat.le_of_ble_eq_true rfl, Nat.le_of_ble_eq_true rfl, rfl⟩ ?_
          refine nrj_run (c := o k) (x := s (n - 2)) (y := s (n - 1)) (by omega) (by omega) (by omega) hnr ?_ rfl rfl rfl
          have hab := aop_b (o k) (s (n - 2)) (s (n - 1))
          show t_X d 178 231 lv12 [oI (aop (o k) (s (n - 2)) (s (n - 1))), oI (((n - 2 : Nat) : Int)), pvR 227] g P
          refine ts_a (n := 0) rfl rfl (by decide) nct_231 hS rez_227 rfl qc_u rgu_227 (by decide) ⟨by omega, by omega⟩ ⟨by omega, by omega⟩ (fun g18 hS18 => ?_)
          replace hS18 : qE g0 g18 (updI s (n - 2) (aop (o k) (s (n - 2)) (s (n - 1)))) := hS18
          show t_X d 178 232 lv12 [] g18 P
          refine t_1 nct_232 rfl (pb_goto (pc := 232) (by decide)) ?_
          show t_X d 178 16 lv12 [] g18 P
          have hP2 := hP
          rw [am_b hke hB hnr] at hP2
          exact ih (k + 1) (n - 1) _ _ (by omega) (by omega) (by omega) hD1 (aT_b (by omega) hDp) hS18 hP2 l0 l2 (by rw [show (((n - 1 : Nat) : Int)) = ((n - 1 : Nat) : Int) by omega]; exact l3) l4 (by rw [show (((k + 1 : Nat) : Int)) = (k : Int) + 1 by omega]; exact l5)
        · show t_X d 178 203 lv12 [] g P
          refine t_0 nct_203 rfl rfl ?_
          refine t_5 nct_204 rfl rfl ?_
          have hP2 := hP
          rw [am_r hke hB ⟨by omega, by omega⟩] at hP2
          exact hP2 _ (S_J hS)
      · show t_X d 178 187 lv12 [] g P
        refine t_0 nct_187 rfl (ld_i l6) ?_
        refine t_0 nct_189 rfl (pq_b (by decide)) ?_
        refine tb_ne nct_191 (by decide) ⟨by omega, by omega⟩ ⟨by omega, by omega⟩ (fun c19 => ?_) (fun c19 => ?_)
        · show t_X d 178 205 lv12 [] g P
          have hnr : ¬ ((o k = 5 ∨ o k = 6) ∧ s (n - 1) = 0) := by omega
          refine t_0 nct_205 rfl (ld_a l0) ?_
          refine t_0 nct_206 rfl (rcq_196_47 (S_J hS).1) ?_
          show t_X d 178 209 lv12 [pvR 227] g P
          refine t_0 nct_209 rfl (ld_i l3) ?_
          refine t_0 nct_210 rfl rfl ?_
          refine t_0 nct_211 rfl pq_sub ?_
          rw [show ((n - 1 : Nat) : Int) - 1 = ((n - 2 : Nat) : Int) by omega]
          refine t_0 nct_212 rfl (ld_i l6) ?_
          refine t_0 nct_214 rfl (ld_a l0) ?_
          refine t_0 nct_215 rfl (rcq_196_47 (S_J hS).1) ?_
          show t_X d 178 218 lv12 [pvR 227, oI (o k), oI (((n - 2 : Nat) : Int)), pvR 227] g P
          refine t_0 nct_218 rfl (ld_i l3) ?_
          refine t_0 nct_219 rfl rfl ?_
          refine t_0 nct_220 rfl pq_sub ?_
          rw [show ((n - 1 : Nat) : Int) - 1 = ((n - 2 : Nat) : Int) by omega]
          have r20 := pb_a (S_J hS).1 rez_227 (j := n - 2) (by omega) rgu_227 (show fA g 227 = s from S_a hS 0 (Nat.le_of_ble_eq_true rfl))
          refine t_0 nct_221 rfl (pq_iv rez_227 rfl ⟨by omega, by omega⟩ (show fA g 227 = s from S_a hS 0 (Nat.le_of_ble_eq_true rfl))) ?_
          show t_X d 178 222 lv12 [oI (s (n - 2)), oI (o k), oI (((n - 2 : Nat) : Int)), pvR 227] g P
          refine t_0 nct_222 rfl (ld_a l0) ?_
          refine t_0 nct_223 rfl (rcq_196_47 (S_J hS).1) ?_
          show t_X d 178 226 lv12 [pvR 227, oI (s (n - 2)), oI (o k), oI (((n - 2 : Nat) : Int)), pvR 227] g P
          refine t_0 nct_226 rfl (ld_i l3) ?_
          have r21 := pb_a (S_J hS).1 rez_227 (j := n - 1) (by omega) rgu_227 (show fA g 227 = s from S_a hS 0 (Nat.le_of_ble_eq_true rfl))
          refine t_0 nct_227 rfl (pq_iv rez_227 rfl ⟨by omega, by omega⟩ (show fA g 227 = s from S_a hS 0 (Nat.le_of_ble_eq_true rfl))) ?_
          show t_X d 178 228 lv12 [oI (s (n - 1)), oI (s (n - 2)), oI (o k), oI (((n - 2 : Nat) : Int)), pvR 227] g P
          refine t_3 nct_228 rfl (ar := ([oI (o k), oI (s (n - 2)), oI (s (n - 1))], [oI (((n - 2 : Nat) : Int)), pvR 227])) (pcal_s ⟨Or.inl rfl, rfl, Nat.le_of_ble_eq_true rfl⟩) ⟨by omega, Nat.le_of_ble_eq_true rfl, Nat.le_of_ble_eq_true rfl, rfl⟩ ?_
          refine nrj_run (c := o k) (x := s (n - 2)) (y := s (n - 1)) (by omega) (by omega) (by omega) hnr ?_ rfl rfl rfl
          have hab := aop_b (o k) (s (n - 2)) (s (n - 1))
          show t_X d 178 231 lv12 [oI (aop (o k) (s (n - 2)) (s (n - 1))), oI (((n - 2 : Nat) : Int)), pvR 227] g P
          refine ts_a (n := 0) rfl rfl (by decide) nct_231 hS rez_227 rfl qc_u rgu_227 (by decide) ⟨by omega, by omega⟩ ⟨by omega, by omega⟩ (fun g22 hS22 => ?_)
          replace hS22 : qE g0 g22 (updI s (n - 2) (aop (o k) (s (n - 2)) (s (n - 1)))) := hS22
          show t_X d 178 232 lv12 [] g22 P
          refine t_1 nct_232 rfl (pb_goto (pc := 232) (by decide)) ?_
          show t_X d 178 16 lv12 [] g22 P
          have hP2 := hP
          rw [am_b hke hB hnr] at hP2
          exact ih (k + 1) (n - 1) _ _ (by omega) (by omega) (by omega) hD1 (aT_b (by omega) hDp) hS22 hP2 l0 l2 (by rw [show (((n - 1 : Nat) : Int)) = ((n - 1 : Nat) : Int) by omega]; exact l3) l4 (by rw [show (((k + 1 : Nat) : Int)) = (k : Int) + 1 by omega]; exact l5)
        · show t_X d 178 194 lv12 [] g P
          refine t_0 nct_194 rfl (ld_a l0) ?_
          refine t_0 nct_195 rfl (rcq_196_47 (S_J hS).1) ?_
          show t_X d 178 198 lv12 [pvR 227] g P
          refine t_0 nct_198 rfl (ld_i l3) ?_
          have r23 := pb_a (S_J hS).1 rez_227 (j := n - 1) (by omega) rgu_227 (show fA g 227 = s from S_a hS 0 (Nat.le_of_ble_eq_true rfl))
          refine t_0 nct_199 rfl (pq_iv rez_227 rfl ⟨by omega, by omega⟩ (show fA g 227 = s from S_a hS 0 (Nat.le_of_ble_eq_true rfl))) ?_
          show t_X d 178 200 lv12 [oI (s (n - 1))] g P
          refine tz_ne nct_200 (by decide) ⟨by omega, by omega⟩ (fun c24 => ?_) (fun c24 => ?_)
          · show t_X d 178 205 lv12 [] g P
            have hnr : ¬ ((o k = 5 ∨ o k = 6) ∧ s (n - 1) = 0) := by omega
            refine t_0 nct_205 rfl (ld_a l0) ?_
            refine t_0 nct_206 rfl (rcq_196_47 (S_J hS).1) ?_
            show t_X d 178 209 lv12 [pvR 227] g P
            refine t_0 nct_209 rfl (ld_i l3) ?_
            refine t_0 nct_210 rfl rfl ?_
            refine t_0 nct_211 rfl pq_sub ?_
            rw [show ((n - 1 : Nat) : Int) - 1 = ((n - 2 : Nat) : Int) by omega]
            refine t_0 nct_212 rfl (ld_i l6) ?_
            refine t_0 nct_214 rfl (ld_a l0) ?_
            refine t_0 nct_215 rfl (rcq_196_47 (S_J hS).1) ?_
            show t_X d 178 218 lv12 [pvR 227, oI (o k), oI (((n - 2 : Nat) : Int)), pvR 227] g P
            refine t_0 nct_218 rfl (ld_i l3) ?_
            refine t_0 nct_219 rfl rfl ?_
            refine t_0 nct_220 rfl pq_sub ?_
            rw [show ((n - 1 : Nat) : Int) - 1 = ((n - 2 : Nat) : Int) by omega]
            have r25 := pb_a (S_J hS).1 rez_227 (j := n - 2) (by omega) rgu_227 (show fA g 227 = s from S_a hS 0 (Nat.le_of_ble_eq_true rfl))
            refine t_0 nct_221 rfl (pq_iv rez_227 rfl ⟨by omega, by omega⟩ (show fA g 227 = s from S_a hS 0 (Nat.le_of_ble_eq_true rfl))) ?_
            show t_X d 178 222 lv12 [oI (s (n - 2)), oI (o k), oI (((n - 2 : Nat) : Int)), pvR 227] g P
            refine t_0 nct_222 rfl (ld_a l0) ?_
            refine t_0 nct_223 rfl (rcq_196_47 (S_J hS).1) ?_
            show t_X d 178 226 lv12 [pvR 227, oI (s (n - 2)), oI (o k), oI (((n - 2 : Nat) : Int)), pvR 227] g P
            refine t_0 nct_226 rfl (ld_i l3) ?_
            have r26 := pb_a (S_J hS).1 rez_227 (j := n - 1) (by omega) rgu_227 (show fA g 227 = s from S_a hS 0 (Nat.le_of_ble_eq_true rfl))
            refine t_0 nct_227 rfl (pq_iv rez_227 rfl ⟨by omega, by omega⟩ (show fA g 227 = s from S_a hS 0 (Nat.le_of_ble_eq_true rfl))) ?_
            show t_X d 178 228 lv12 [oI (s (n - 1)), oI (s (n - 2)), oI (o k), oI (((n - 2 : Nat) : Int)), pvR 227] g P
            refine t_3 nct_228 rfl (ar := ([oI (o k), oI (s (n - 2)), oI (s (n - 1))], [oI (((n - 2 : Nat) : Int)), pvR 227])) (pcal_s ⟨Or.inl rfl, rfl, Nat.le_of_ble_eq_true rfl⟩) ⟨by omega, Nat.le_of_ble_eq_true rfl, Nat.le_of_ble_eq_true rfl, rfl⟩ ?_
            refine nrj_run (c := o k) (x := s (n - 2)) (y := s (n - 1)) (by omega) (by omega) (by omega) hnr ?_ rfl rfl rfl
            have hab := aop_b (o k) (s (n - 2)) (s (n - 1))
            show t_X d 178 231 lv12 [oI (aop (o k) (s (n - 2)) (s (n - 1))), oI (((n - 2 : Nat) : Int)), pvR 227] g P
            refine ts_a (n := 0) rfl rfl (by decide) nct_231 hS rez_227 rfl qc_u rgu_227 (by decide) ⟨by omega, by omega⟩ ⟨by omega, by omega⟩ (fun g27 hS27 => ?_)
            replace hS27 : qE g0 g27 (updI s (n - 2) (aop (o k) (s (n - 2)) (s (n - 1)))) := hS27
            show t_X d 178 232 lv12 [] g27 P
            refine t_1 nct_232 rfl (pb_goto (pc := 232) (by decide)) ?_
            show t_X d 178 16 lv12 [] g27 P
            have hP2 := hP
            rw [am_b hke hB hnr] at hP2
            exact ih (k + 1) (n - 1) _ _ (by omega) (by omega) (by omega) hD1 (aT_b (by omega) hDp) hS27 hP2 l0 l2 (by rw [show (((n - 1 : Nat) : Int)) = ((n - 1 : Nat) : Int) by omega]; exact l3) l4 (by rw [show (((k + 1 : Nat) : Int)) = (k : Int) + 1 by omega]; exact l5)
          · show t_X d 178 203 lv12 [] g P
            refine t_0 nct_203 rfl rfl ?_
            refine t_5 nct_204 rfl rfl ?_
            have hP2 := hP
            rw [am_r hke hB ⟨by omega, by omega⟩] at hP2
            exact hP2 _ (S_J hS)
set_option maxHeartbeats 1000000 in
theorem nct_run {d : Nat} (hd : 1 ≤ d) {g0 : pH} {o v f : tC} {a e : Nat} (hC : ∀ j, j < e → fA g0 222 j = 1048576 * o j + v j) (hf : fA g0 228 = f) (he : e ≤ 240) {D : Nat → Nat × Bool} (hst : ∀ k, a ≤ k → k < e → wst o v D k e) (hh : ∀ k, a ≤ k → k ≤ e → (D k).1 ≤ 16) (hE : (D e).1 = 1) {P : Option pv × pH → Prop} (hae : a ≤ e) (hA : D a = (0, false)) {g : pH} {s : tC} (hS : qE g0 g s) (hP : ∀ g' : pH, J_ qW g0 g' → P (some (oI (am o v f e (e - a) a 0 s)), g')) {lv : List (Nat × pv)} (l0 : px_lg lv 0 = some (pvR 196)) (l1 : px_lg lv 1 = some (oI (a : Int))) (l2 : px_lg lv 2 = some (oI (e : Int))) : t_X d 178 0 lv [] g P := by
  refine t_0 nct_0 rfl rfl ?_
  refine t_2 nct_1 rfl (w := (px_s1 lv 3 (oI 0), [])) rfl ?_
  replace l0 : px_lg (px_s1 lv 3 (oI 0)) 0 = some (pvR 196) := s1_ne (by decide) (fun _ => rfl) l0
  replace l1 : px_lg (px_s1 lv 3 (oI 0)) 1 = some (oI ((a : Int))) := s1_ne (by decide) (fun _ => rfl) l1
  replace l2 : px_lg (px_s1 lv 3 (oI 0)) 2 = some (oI ((e : Int))) := s1_ne (by decide) (fun _ => rfl) l2
  have l3 : px_lg (px_s1 lv 3 (oI 0)) 3 = some (oI 0) := s1_eq
  generalize px_s1 lv 3 (oI 0) = lv1 at l0 l1 l2 l3 ⊢
  show t_X d 178 2 lv1 [] g P
  refine t_0 nct_2 rfl (pq_s (by decide)) ?_
  refine t_0 nct_5 rfl (ld_i l1) ?_
  refine t_0 nct_6 rfl (pq_s (by decide)) ?_
  refine t_0 nct_9 rfl (pq_div ⟨by omega, by omega⟩ ⟨by omega, by omega⟩) ?_
  refine t_0 nct_10 rfl pq_mul ?_
  refine t_2 nct_11 rfl (w := (px_s1 lv1 4 (oI (260 * ((a : Int) / 260))), [])) rfl ?_
  replace l0 : px_lg (px_s1 lv1 4 (oI (260 * ((a : Int) / 260)))) 0 = some (pvR 196) := s1_ne (by decide) (fun _ => rfl) l0
  replace l1 : px_lg (px_s1 lv1 4 (oI (260 * ((a : Int) / 260)))) 1 = some (oI ((a : Int))) := s1_ne (by decide) (fun _ => rfl) l1
  replace l2 : px_lg (px_s1 lv1 4 (oI (260 * ((a : Int) / 260)))) 2 = some (oI ((e : Int))) := s1_ne (by decide) (fun _ => rfl) l2
  replace l3 : px_lg (px_s1 lv1 4 (oI (260 * ((a : Int) / 260)))) 3 = some (oI 0) := s1_ne (by decide) (fun _ => rfl) l3
  have l4 : px_lg (px_s1 lv1 4 (oI (260 * ((a : Int) / 260)))) 4 = some (oI (260 * ((a : Int) / 260))) := s1_eq
  generalize px_s1 lv1 4 (oI (260 * ((a : Int) / 260))) = lv2 at l0 l1 l2 l3 l4 ⊢
  show t_X d 178 13 lv2 [] g P
  refine t_0 nct_13 rfl (ld_i l1) ?_
  refine t_2 nct_14 rfl (w := (px_s1 lv2 5 (oI ((a : Int))), [])) rfl ?_
  replace l0 : px_lg (px_s1 lv2 5 (oI ((a : Int)))) 0 = some (pvR 196) := s1_ne (by decide) (fun _ => rfl) l0
  replace l1 : px_lg (px_s1 lv2 5 (oI ((a : Int)))) 1 = some (oI ((a : Int))) := s1_ne (by decide) (fun _ => rfl) l1
  replace l2 : px_lg (px_s1 lv2 5 (oI ((a : Int)))) 2 = some (oI ((e : Int))) := s1_ne (by decide) (fun _ => rfl) l2
  replace l3 : px_lg (px_s1 lv2 5 (oI ((a : Int)))) 3 = some (oI 0) := s1_ne (by decide) (fun _ => rfl) l3
  replace l4 : px_lg (px_s1 lv2 5 (oI ((a : Int)))) 4 = some (oI (260 * ((a : Int) / 260))) := s1_ne (by decide) (fun _ => rfl) l4
  have l5 : px_lg (px_s1 lv2 5 (oI ((a : Int)))) 5 = some (oI ((a : Int))) := s1_eq
  generalize px_s1 lv2 5 (oI ((a : Int))) = lv3 at l0 l1 l2 l3 l4 l5 ⊢
  show t_X d 178 16 lv3 [] g P
  exact nctL hd hC hf he hst hh hE (e - a) a 0 s _ (by omega) (Nat.le_refl a) hae (by rw [hA]) (fun z => by rw [hA] at z; cases z) hS hP l0 l2 l3 (by rw [show (0 : Int) = 260 * ((a : Int) / 260) by omega]; exact l4) l5
