/-! orders of the reference, exactly (printed by wip/e2/y1.py) -/
theorem oml_0 : xe_look (xc 215) 0 = some (.iconst 0, 1, 0, 0, 0) := by decide +kernel
theorem oml_1 : xe_look (xc 215) 1 = some (.istore_n 3, 1, 0, 0, 0) := by decide +kernel
theorem oml_2 : xe_look (xc 215) 2 = some (.iload_n 3, 1, 0, 0, 0) := by decide +kernel
theorem oml_3 : xe_look (xc 215) 3 = some (.aload_n 0, 1, 0, 0, 0) := by decide +kernel
theorem oml_4 : xe_look (xc 215) 4 = some (.getfield 491, 3, 12, 71, 1235) := by decide +kernel
theorem oml_7 : xe_look (xc 215) 7 = some (.if_icmp .ge 16, 3, 0, 0, 0) := by decide +kernel
theorem oml_10 : xe_look (xc 215) 10 = some (.aload_n 0, 1, 0, 0, 0) := by decide +kernel
theorem oml_11 : xe_look (xc 215) 11 = some (.getfield 138, 3, 12, 69, 1207) := by decide +kernel
theorem oml_14 : xe_look (xc 215) 14 = some (.iload_n 3, 1, 0, 0, 0) := by decide +kernel
theorem oml_15 : xe_look (xc 215) 15 = some (.iconst 0, 1, 0, 0, 0) := by decide +kernel
theorem oml_16 : xe_look (xc 215) 16 = some (.iastore, 1, 0, 0, 0) := by decide +kernel
theorem oml_17 : xe_look (xc 215) 17 = some (.iinc 3 1, 3, 0, 0, 0) := by decide +kernel
theorem oml_20 : xe_look (xc 215) 20 = some (.goto (-18), 3, 0, 0, 0) := by decide +kernel
theorem oml_23 : xe_look (xc 215) 23 = some (.iconst 0, 1, 0, 0, 0) := by decide +kernel
theorem oml_24 : xe_look (xc 215) 24 = some (.istore_n 3, 1, 0, 0, 0) := by decide +kernel
theorem oml_25 : xe_look (xc 215) 25 = some (.iload_n 3, 1, 0, 0, 0) := by decide +kernel
theorem oml_26 : xe_look (xc 215) 26 = some (.aload_n 0, 1, 0, 0, 0) := by decide +kernel
theorem oml_27 : xe_look (xc 215) 27 = some (.getfield 212, 3, 12, 22, 1147) := by decide +kernel
theorem oml_30 : xe_look (xc 215) 30 = some (.if_icmp .ge 64, 3, 0, 0, 0) := by decide +kernel
theorem oml_33 : xe_look (xc 215) 33 = some (.aload_n 0, 1, 0, 0, 0) := by decide +kernel
theorem oml_34 : xe_look (xc 215) 34 = some (.aload_n 0, 1, 0, 0, 0) := by decide +kernel
theorem oml_35 : xe_look (xc 215) 35 = some (.getfield 37, 3, 12, 11, 1148) := by decide +kernel
theorem oml_38 : xe_look (xc 215) 38 = some (.iload_n 3, 1, 0, 0, 0) := by decide +kernel
theorem oml_39 : xe_look (xc 215) 39 = some (.iaload, 1, 0, 0, 0) := by decide +kernel
theorem oml_40 : xe_look (xc 215) 40 = some (.invokevirtual 494, 3, 0, 255, 1236) := by decide +kernel
theorem oml_43 : xe_look (xc 215) 43 = some (.istore 4, 2, 0, 0, 0) := by decide +kernel
theorem oml_45 : xe_look (xc 215) 45 = some (.aload_n 0, 1, 0, 0, 0) := by decide +kernel
theorem oml_46 : xe_look (xc 215) 46 = some (.aload_n 0, 1, 0, 0, 0) := by decide +kernel
theorem oml_47 : xe_look (xc 215) 47 = some (.getfield 40, 3, 12, 12, 1149) := by decide +kernel
theorem oml_50 : xe_look (xc 215) 50 = some (.iload_n 3, 1, 0, 0, 0) := by decide +kernel
theorem oml_51 : xe_look (xc 215) 51 = some (.iaload, 1, 0, 0, 0) := by decide +kernel
theorem oml_52 : xe_look (xc 215) 52 = some (.invokevirtual 494, 3, 0, 255, 1236) := by decide +kernel
theorem oml_55 : xe_look (xc 215) 55 = some (.istore 5, 2, 0, 0, 0) := by decide +kernel
theorem oml_57 : xe_look (xc 215) 57 = some (.iload 4, 2, 0, 0, 0) := by decide +kernel
theorem oml_59 : xe_look (xc 215) 59 = some (.iconst (-1), 1, 0, 0, 0) := by decide +kernel
theorem oml_60 : xe_look (xc 215) 60 = some (.if_icmp .eq 28, 3, 0, 0, 0) := by decide +kernel
theorem oml_63 : xe_look (xc 215) 63 = some (.iload 5, 2, 0, 0, 0) := by decide +kernel
theorem oml_65 : xe_look (xc 215) 65 = some (.iconst (-1), 1, 0, 0, 0) := by decide +kernel
theorem oml_66 : xe_look (xc 215) 66 = some (.if_icmp .eq 22, 3, 0, 0, 0) := by decide +kernel
theorem oml_69 : xe_look (xc 215) 69 = some (.aload_n 0, 1, 0, 0, 0) := by decide +kernel
theorem oml_70 : xe_look (xc 215) 70 = some (.getfield 138, 3, 12, 69, 1207) := by decide +kernel
theorem oml_73 : xe_look (xc 215) 73 = some (.iload 5, 2, 0, 0, 0) := by decide +kernel
theorem oml_75 : xe_look (xc 215) 75 = some (.aload_n 0, 1, 0, 0, 0) := by decide +kernel
theorem oml_76 : xe_look (xc 215) 76 = some (.getfield 138, 3, 12, 69, 1207) := by decide +kernel
theorem oml_79 : xe_look (xc 215) 79 = some (.iload 5, 2, 0, 0, 0) := by decide +kernel
theorem oml_81 : xe_look (xc 215) 81 = some (.iaload, 1, 0, 0, 0) := by decide +kernel
theorem oml_82 : xe_look (xc 215) 82 = some (.iconst 1, 1, 0, 0, 0) := by decide +kernel
theorem oml_83 : xe_look (xc 215) 83 = some (.iload 4, 2, 0, 0, 0) := by decide +kernel
theorem oml_85 : xe_look (xc 215) 85 = some (.ishl, 1, 0, 0, 0) := by decide +kernel
theorem oml_86 : xe_look (xc 215) 86 = some (.ior, 1, 0, 0, 0) := by decide +kernel
theorem oml_87 : xe_look (xc 215) 87 = some (.iastore, 1, 0, 0, 0) := by decide +kernel
theorem oml_88 : xe_look (xc 215) 88 = some (.iinc 3 1, 3, 0, 0, 0) := by decide +kernel
theorem oml_91 : xe_look (xc 215) 91 = some (.goto (-66), 3, 0, 0, 0) := by decide +kernel
theorem oml_94 : xe_look (xc 215) 94 = some (.iload_n 1, 1, 0, 0, 0) := by decide +kernel
theorem oml_95 : xe_look (xc 215) 95 = some (.iconst (-1), 1, 0, 0, 0) := by decide +kernel
theorem oml_96 : xe_look (xc 215) 96 = some (.if_icmp .eq 19, 3, 0, 0, 0) := by decide +kernel
theorem oml_99 : xe_look (xc 215) 99 = some (.aload_n 0, 1, 0, 0, 0) := by decide +kernel
theorem oml_100 : xe_look (xc 215) 100 = some (.getfield 138, 3, 12, 69, 1207) := by decide +kernel
theorem oml_103 : xe_look (xc 215) 103 = some (.iload_n 2, 1, 0, 0, 0) := by decide +kernel
theorem oml_104 : xe_look (xc 215) 104 = some (.aload_n 0, 1, 0, 0, 0) := by decide +kernel
theorem oml_105 : xe_look (xc 215) 105 = some (.getfield 138, 3, 12, 69, 1207) := by decide +kernel
theorem oml_108 : xe_look (xc 215) 108 = some (.iload_n 2, 1, 0, 0, 0) := by decide +kernel
theorem oml_109 : xe_look (xc 215) 109 = some (.iaload, 1, 0, 0, 0) := by decide +kernel
theorem oml_110 : xe_look (xc 215) 110 = some (.iconst 1, 1, 0, 0, 0) := by decide +kernel
theorem oml_111 : xe_look (xc 215) 111 = some (.iload_n 1, 1, 0, 0, 0) := by decide +kernel
theorem oml_112 : xe_look (xc 215) 112 = some (.ishl, 1, 0, 0, 0) := by decide +kernel
theorem oml_113 : xe_look (xc 215) 113 = some (.ior, 1, 0, 0, 0) := by decide +kernel
theorem oml_114 : xe_look (xc 215) 114 = some (.iastore, 1, 0, 0, 0) := by decide +kernel
theorem oml_115 : xe_look (xc 215) 115 = some (.iconst 1, 1, 0, 0, 0) := by decide +kernel
theorem oml_116 : xe_look (xc 215) 116 = some (.aload_n 0, 1, 0, 0, 0) := by decide +kernel
theorem oml_117 : xe_look (xc 215) 117 = some (.getfield 491, 3, 12, 71, 1235) := by decide +kernel
theorem oml_120 : xe_look (xc 215) 120 = some (.ishl, 1, 0, 0, 0) := by decide +kernel
theorem oml_121 : xe_look (xc 215) 121 = some (.iconst 1, 1, 0, 0, 0) := by decide +kernel
theorem oml_122 : xe_look (xc 215) 122 = some (.isub, 1, 0, 0, 0) := by decide +kernel
theorem oml_123 : xe_look (xc 215) 123 = some (.istore_n 3, 1, 0, 0, 0) := by decide +kernel
theorem oml_124 : xe_look (xc 215) 124 = some (.iload_n 3, 1, 0, 0, 0) := by decide +kernel
theorem oml_125 : xe_look (xc 215) 125 = some (.istore 4, 2, 0, 0, 0) := by decide +kernel
theorem oml_127 : xe_look (xc 215) 127 = some (.iload 4, 2, 0, 0, 0) := by decide +kernel
theorem oml_129 : xe_look (xc 215) 129 = some (.ifCond .lt 91, 3, 0, 0, 0) := by decide +kernel
theorem oml_132 : xe_look (xc 215) 132 = some (.iload 4, 2, 0, 0, 0) := by decide +kernel
theorem oml_134 : xe_look (xc 215) 134 = some (.iload_n 3, 1, 0, 0, 0) := by decide +kernel
theorem oml_135 : xe_look (xc 215) 135 = some (.if_icmp .ne 7, 3, 0, 0, 0) := by decide +kernel
theorem oml_138 : xe_look (xc 215) 138 = some (.lconst 1, 1, 0, 0, 0) := by decide +kernel
theorem oml_139 : xe_look (xc 215) 139 = some (.goto 4, 3, 0, 0, 0) := by decide +kernel
theorem oml_142 : xe_look (xc 215) 142 = some (.lconst 0, 1, 0, 0, 0) := by decide +kernel
theorem oml_143 : xe_look (xc 215) 143 = some (.lstore 5, 2, 0, 0, 0) := by decide +kernel
theorem oml_145 : xe_look (xc 215) 145 = some (.iconst 0, 1, 0, 0, 0) := by decide +kernel
theorem oml_146 : xe_look (xc 215) 146 = some (.istore 7, 2, 0, 0, 0) := by decide +kernel
theorem oml_148 : xe_look (xc 215) 148 = some (.iload 7, 2, 0, 0, 0) := by decide +kernel
theorem oml_150 : xe_look (xc 215) 150 = some (.aload_n 0, 1, 0, 0, 0) := by decide +kernel
theorem oml_151 : xe_look (xc 215) 151 = some (.getfield 491, 3, 12, 71, 1235) := by decide +kernel
theorem oml_154 : xe_look (xc 215) 154 = some (.if_icmp .ge 51, 3, 0, 0, 0) := by decide +kernel
theorem oml_157 : xe_look (xc 215) 157 = some (.iload 4, 2, 0, 0, 0) := by decide +kernel
theorem oml_159 : xe_look (xc 215) 159 = some (.iload 7, 2, 0, 0, 0) := by decide +kernel
theorem oml_161 : xe_look (xc 215) 161 = some (.invokestatic 187, 3, 0, 196, 1121) := by decide +kernel
theorem oml_164 : xe_look (xc 215) 164 = some (.ifCond .ne 35, 3, 0, 0, 0) := by decide +kernel
theorem oml_167 : xe_look (xc 215) 167 = some (.aload_n 0, 1, 0, 0, 0) := by decide +kernel
theorem oml_168 : xe_look (xc 215) 168 = some (.getfield 138, 3, 12, 69, 1207) := by decide +kernel
theorem oml_171 : xe_look (xc 215) 171 = some (.iload 7, 2, 0, 0, 0) := by decide +kernel
theorem oml_173 : xe_look (xc 215) 173 = some (.iaload, 1, 0, 0, 0) := by decide +kernel
theorem oml_174 : xe_look (xc 215) 174 = some (.iload 4, 2, 0, 0, 0) := by decide +kernel
theorem oml_176 : xe_look (xc 215) 176 = some (.iconst (-1), 1, 0, 0, 0) := by decide +kernel
theorem oml_177 : xe_look (xc 215) 177 = some (.ixor, 1, 0, 0, 0) := by decide +kernel
theorem oml_178 : xe_look (xc 215) 178 = some (.iand, 1, 0, 0, 0) := by decide +kernel
theorem oml_179 : xe_look (xc 215) 179 = some (.ifCond .ne 20, 3, 0, 0, 0) := by decide +kernel
theorem oml_182 : xe_look (xc 215) 182 = some (.lload 5, 2, 0, 0, 0) := by decide +kernel
theorem oml_184 : xe_look (xc 215) 184 = some (.aload_n 0, 1, 0, 0, 0) := by decide +kernel
theorem oml_185 : xe_look (xc 215) 185 = some (.getfield 141, 3, 12, 70, 1208) := by decide +kernel
theorem oml_188 : xe_look (xc 215) 188 = some (.iload 4, 2, 0, 0, 0) := by decide +kernel
theorem oml_190 : xe_look (xc 215) 190 = some (.iconst 1, 1, 0, 0, 0) := by decide +kernel
theorem oml_191 : xe_look (xc 215) 191 = some (.iload 7, 2, 0, 0, 0) := by decide +kernel
theorem oml_193 : xe_look (xc 215) 193 = some (.ishl, 1, 0, 0, 0) := by decide +kernel
theorem oml_194 : xe_look (xc 215) 194 = some (.ior, 1, 0, 0, 0) := by decide +kernel
theorem oml_195 : xe_look (xc 215) 195 = some (.laload, 1, 0, 0, 0) := by decide +kernel
theorem oml_196 : xe_look (xc 215) 196 = some (.ladd, 1, 0, 0, 0) := by decide +kernel
theorem oml_197 : xe_look (xc 215) 197 = some (.lstore 5, 2, 0, 0, 0) := by decide +kernel
theorem oml_199 : xe_look (xc 215) 199 = some (.iinc 7 1, 3, 0, 0, 0) := by decide +kernel
theorem oml_202 : xe_look (xc 215) 202 = some (.goto (-54), 3, 0, 0, 0) := by decide +kernel
theorem oml_205 : xe_look (xc 215) 205 = some (.aload_n 0, 1, 0, 0, 0) := by decide +kernel
theorem oml_206 : xe_look (xc 215) 206 = some (.getfield 141, 3, 12, 70, 1208) := by decide +kernel
theorem oml_209 : xe_look (xc 215) 209 = some (.iload 4, 2, 0, 0, 0) := by decide +kernel
theorem oml_211 : xe_look (xc 215) 211 = some (.lload 5, 2, 0, 0, 0) := by decide +kernel
theorem oml_213 : xe_look (xc 215) 213 = some (.lastore, 1, 0, 0, 0) := by decide +kernel
theorem oml_214 : xe_look (xc 215) 214 = some (.iinc 4 (-1), 3, 0, 0, 0) := by decide +kernel
theorem oml_217 : xe_look (xc 215) 217 = some (.goto (-90), 3, 0, 0, 0) := by decide +kernel
theorem oml_220 : xe_look (xc 215) 220 = some (.aload_n 0, 1, 0, 0, 0) := by decide +kernel
theorem oml_221 : xe_look (xc 215) 221 = some (.getfield 141, 3, 12, 70, 1208) := by decide +kernel
theorem oml_224 : xe_look (xc 215) 224 = some (.iconst 0, 1, 0, 0, 0) := by decide +kernel
theorem oml_225 : xe_look (xc 215) 225 = some (.laload, 1, 0, 0, 0) := by decide +kernel
theorem oml_226 : xe_look (xc 215) 226 = some (.lreturn, 1, 0, 0, 0) := by decide +kernel
theorem omt_0 : xe_look (xc 261) 0 = some (.aload_n 0, 1, 0, 0, 0) := by decide +kernel
theorem omt_1 : xe_look (xc 261) 1 = some (.iload_n 1, 1, 0, 0, 0) := by decide +kernel
theorem omt_2 : xe_look (xc 261) 2 = some (.putfield 491, 3, 12, 71, 1235) := by decide +kernel
theorem omt_5 : xe_look (xc 261) 5 = some (.iconst 0, 1, 0, 0, 0) := by decide +kernel
theorem omt_6 : xe_look (xc 261) 6 = some (.istore_n 2, 1, 0, 0, 0) := by decide +kernel
theorem omt_7 : xe_look (xc 261) 7 = some (.iconst 0, 1, 0, 0, 0) := by decide +kernel
theorem omt_8 : xe_look (xc 261) 8 = some (.istore_n 3, 1, 0, 0, 0) := by decide +kernel
theorem omt_9 : xe_look (xc 261) 9 = some (.iload_n 3, 1, 0, 0, 0) := by decide +kernel
theorem omt_10 : xe_look (xc 261) 10 = some (.iload_n 1, 1, 0, 0, 0) := by decide +kernel
theorem omt_11 : xe_look (xc 261) 11 = some (.if_icmp .ge 48, 3, 0, 0, 0) := by decide +kernel
theorem omt_14 : xe_look (xc 261) 14 = some (.aload_n 0, 1, 0, 0, 0) := by decide +kernel
theorem omt_15 : xe_look (xc 261) 15 = some (.getfield 53, 3, 12, 16, 1134) := by decide +kernel
theorem omt_18 : xe_look (xc 261) 18 = some (.iload_n 3, 1, 0, 0, 0) := by decide +kernel
theorem omt_19 : xe_look (xc 261) 19 = some (.baload, 1, 0, 0, 0) := by decide +kernel
theorem omt_20 : xe_look (xc 261) 20 = some (.sipush 255, 3, 0, 0, 0) := by decide +kernel
theorem omt_23 : xe_look (xc 261) 23 = some (.iand, 1, 0, 0, 0) := by decide +kernel
theorem omt_24 : xe_look (xc 261) 24 = some (.istore 4, 2, 0, 0, 0) := by decide +kernel
theorem omt_26 : xe_look (xc 261) 26 = some (.aload_n 0, 1, 0, 0, 0) := by decide +kernel
theorem omt_27 : xe_look (xc 261) 27 = some (.iload 4, 2, 0, 0, 0) := by decide +kernel
theorem omt_29 : xe_look (xc 261) 29 = some (.invokevirtual 205, 3, 0, 205, 1130) := by decide +kernel
theorem omt_32 : xe_look (xc 261) 32 = some (.ifCond .eq 12, 3, 0, 0, 0) := by decide +kernel
theorem omt_35 : xe_look (xc 261) 35 = some (.iload_n 2, 1, 0, 0, 0) := by decide +kernel
theorem omt_36 : xe_look (xc 261) 36 = some (.iload 4, 2, 0, 0, 0) := by decide +kernel
theorem omt_38 : xe_look (xc 261) 38 = some (.invokestatic 187, 3, 0, 196, 1121) := by decide +kernel
theorem omt_41 : xe_look (xc 261) 41 = some (.ifCond .eq 5, 3, 0, 0, 0) := by decide +kernel
theorem omt_44 : xe_look (xc 261) 44 = some (.iconst 0, 1, 0, 0, 0) := by decide +kernel
theorem omt_45 : xe_look (xc 261) 45 = some (.ireturn, 1, 0, 0, 0) := by decide +kernel
theorem omt_46 : xe_look (xc 261) 46 = some (.iload_n 2, 1, 0, 0, 0) := by decide +kernel
theorem omt_47 : xe_look (xc 261) 47 = some (.iconst 1, 1, 0, 0, 0) := by decide +kernel
theorem omt_48 : xe_look (xc 261) 48 = some (.iload 4, 2, 0, 0, 0) := by decide +kernel
theorem omt_50 : xe_look (xc 261) 50 = some (.ishl, 1, 0, 0, 0) := by decide +kernel
theorem omt_51 : xe_look (xc 261) 51 = some (.ior, 1, 0, 0, 0) := by decide +kernel
theorem omt_52 : xe_look (xc 261) 52 = some (.istore_n 2, 1, 0, 0, 0) := by decide +kernel
theorem omt_53 : xe_look (xc 261) 53 = some (.iinc 3 1, 3, 0, 0, 0) := by decide +kernel
theorem omt_56 : xe_look (xc 261) 56 = some (.goto (-47), 3, 0, 0, 0) := by decide +kernel
theorem omt_59 : xe_look (xc 261) 59 = some (.iconst 0, 1, 0, 0, 0) := by decide +kernel
theorem omt_60 : xe_look (xc 261) 60 = some (.istore_n 3, 1, 0, 0, 0) := by decide +kernel
theorem omt_61 : xe_look (xc 261) 61 = some (.iconst 0, 1, 0, 0, 0) := by decide +kernel
theorem omt_62 : xe_look (xc 261) 62 = some (.istore 4, 2, 0, 0, 0) := by decide +kernel
theorem omt_64 : xe_look (xc 261) 64 = some (.iload 4, 2, 0, 0, 0) := by decide +kernel
theorem omt_66 : xe_look (xc 261) 66 = some (.bipush 32, 2, 0, 0, 0) := by decide +kernel
theorem omt_68 : xe_look (xc 261) 68 = some (.if_icmp .ge 33, 3, 0, 0, 0) := by decide +kernel
theorem omt_71 : xe_look (xc 261) 71 = some (.iload_n 2, 1, 0, 0, 0) := by decide +kernel
theorem omt_72 : xe_look (xc 261) 72 = some (.iload 4, 2, 0, 0, 0) := by decide +kernel
theorem omt_74 : xe_look (xc 261) 74 = some (.invokestatic 187, 3, 0, 196, 1121) := by decide +kernel
theorem omt_77 : xe_look (xc 261) 77 = some (.ifCond .ne 6, 3, 0, 0, 0) := by decide +kernel
theorem omt_80 : xe_look (xc 261) 80 = some (.goto 15, 3, 0, 0, 0) := by decide +kernel
theorem omt_83 : xe_look (xc 261) 83 = some (.aload_n 0, 1, 0, 0, 0) := by decide +kernel
theorem omt_84 : xe_look (xc 261) 84 = some (.getfield 135, 3, 12, 68, 1206) := by decide +kernel
theorem omt_87 : xe_look (xc 261) 87 = some (.iload_n 3, 1, 0, 0, 0) := by decide +kernel
theorem omt_88 : xe_look (xc 261) 88 = some (.iload 4, 2, 0, 0, 0) := by decide +kernel
theorem omt_90 : xe_look (xc 261) 90 = some (.iastore, 1, 0, 0, 0) := by decide +kernel
theorem omt_91 : xe_look (xc 261) 91 = some (.iload_n 3, 1, 0, 0, 0) := by decide +kernel
theorem omt_92 : xe_look (xc 261) 92 = some (.iconst 1, 1, 0, 0, 0) := by decide +kernel
theorem omt_93 : xe_look (xc 261) 93 = some (.iadd, 1, 0, 0, 0) := by decide +kernel
theorem omt_94 : xe_look (xc 261) 94 = some (.istore_n 3, 1, 0, 0, 0) := by decide +kernel
theorem omt_95 : xe_look (xc 261) 95 = some (.iinc 4 1, 3, 0, 0, 0) := by decide +kernel
theorem omt_98 : xe_look (xc 261) 98 = some (.goto (-34), 3, 0, 0, 0) := by decide +kernel
theorem omt_101 : xe_look (xc 261) 101 = some (.iconst 1, 1, 0, 0, 0) := by decide +kernel
theorem omt_102 : xe_look (xc 261) 102 = some (.ireturn, 1, 0, 0, 0) := by decide +kernel
def jMo : Nat := 2 ^ (cn 196 + 17) + 2 ^ (cn 196 + 71) + 2 ^ cn 238 + 2 ^ cn 239 + 2 ^ cn 240
def omk : List (Nat × Nat) := [(196, 71)]
def oma : List Nat := [238, 239]
abbrev mE (g0 g : pH) (nn : Int) (sp mb : tC) : Prop := sE omk oma jMo g0 g [nn] [sp, mb]
theorem jMo_b : jMo.testBit (cn 196 + 22) = false ∧ jMo.testBit (cn 206) = false ∧ jMo.testBit (cn 207) = false ∧ jMo.testBit (cn 211) = false ∧ jMo.testBit (cn 240) = true := by decide +kernel
def fL (g : pH) (K j : Nat) : Int64 := g.2.2.2.2.1 K j
theorem om_m (x : Int) : Int32.ofInt x &&& Int32.ofInt 255 = Int32.ofInt (x % 256) := by
  have e : (Int32.ofInt x &&& Int32.ofInt 255).toBitVec = BitVec.ofInt 32 x &&& 255#32 := rfl
  have h1 : (BitVec.ofInt 32 x &&& 255#32).toNat = (BitVec.ofInt 32 x).toNat % 256 := by
    rw [BitVec.toNat_and]
    exact Nat.and_two_pow_sub_one_eq_mod (n := 8) _
  have h2 : (Int32.ofInt x &&& Int32.ofInt 255).toInt = ((BitVec.ofInt 32 x &&& 255#32).toNat : Int) := by
    show (Int32.ofInt x &&& Int32.ofInt 255).toBitVec.toInt = _
    rw [e, BitVec.toInt_eq_toNat_of_lt (by rw [h1]; omega)]
  have h3 : (Int32.ofInt x &&& Int32.ofInt 255).toInt = x % 256 := by
    rw [h2, h1, BitVec.toNat_ofInt]
    omega
  rw [← h3, Int32.ofInt_toInt]
section OMX
variable {d x y : Nat} {lv : List (Nat × pv)} {r : List pv} {h : pH}
theorem pq_a255 {v : Int} : px_push eL d none .iand x y lv (oI 255 :: oI v :: r) h = some (oI (v % 256) :: r) := by
  show some ((.inl (Int32.ofInt v &&& Int32.ofInt 255) : pv) :: r) = _
  rw [om_m]
theorem pq_lj {k n : Nat} {e : Int} (hk : eL[k]? = some (3, n)) (hn : Nat.ble n 10000 = true) (he : 0 ≤ e ∧ e < n) : px_push eL d none .laload x y lv (oI e :: pvR k :: r) h = some (.inr (.inl (fL h k e.toNat)) :: r) := by
  have h1 := Nat.le_of_ble_eq_true hn
  have h2 : (Int32.ofInt e).toInt = e := oT (by omega) (by omega)
  have h3 := pq_la (d := d) (x := x) (y := y) (lv := lv) (h := h) (r := r) (j := Int32.ofInt e) hk (by rw [h2]; exact he)
  rw [h2] at h3
  exact h3
end OMX
theorem S_lw {ks : List (Nat × Nat)} {as : List Nat} {W : Nat} {g0 g g1 : pH} {vs : List Int} {cs : List (Nat → Int)} (h : sE ks as W g0 g vs cs) (hJ : J_ W g0 g1) (h1 : g1.1 = g.1) (h2 : g1.2.2.2.1 = g.2.2.2.1) : sE ks as W g0 g1 vs cs := by
  refine ⟨hJ, fun i hi => ?_, fun i hi => ?_⟩
  · have := h.2.1 i hi
    unfold cF at this ⊢
    rw [h1]
    exact this
  · have := h.2.2 i hi
    unfold fA at this ⊢
    rw [h2]
    exact this
/-- the place in a row of numbers is the place among the taken -/
theorem om_z {b : Nat → Bool} {sp : tC} {N : Nat} (hbN : cnt b 32 = N) (hsp : oNu b sp) {z i : Int} (h : (z = -1 ∧ ∀ k : Nat, (k : Int) < N → sp k ≠ i) ∨ (0 ≤ z ∧ z < N ∧ sp z.toNat = i)) : z = oz_ b i := by
  have f : ∀ k : Nat, (k : Int) < N → ∃ j : Nat, j < 32 ∧ b j = true ∧ cnt b j = k ∧ sp k = j := fun k hk => by
    obtain ⟨j, h1, h2, h3⟩ := cnt_x (f := b) (n := 32) (k := k) (by omega)
    exact ⟨j, h1, h2, h3, by rw [← h3]; exact hsp j h1 h2⟩
  unfold oz_
  by_cases q : 0 ≤ i ∧ i < 32 ∧ b i.toNat = true
  · rw [if_pos q]
    have h1 := hsp i.toNat (by omega) q.2.2
    have h2 := cnt_u q.2.2 (show i.toNat < 32 by omega)
    rcases h with ⟨-, h⟩ | ⟨h3, h4, h5⟩
    · exact absurd (by omega) (h (cnt b i.toNat) (by omega))
    · obtain ⟨j, g1, g2, g3, g4⟩ := f z.toNat (by omega)
      rw [h5] at g4
      have : j = i.toNat := by omega
      subst this
      omega
  · rw [if_neg q]
    rcases h with ⟨h, -⟩ | ⟨h3, h4, h5⟩
    · exact h
    · obtain ⟨j, g1, g2, g3, g4⟩ := f z.toNat (by omega)
      rw [h5] at g4
      exact absurd ⟨by omega, by omega, by rw [g4]; exact g2⟩ q
def oc0 (N s : Nat) : Int := if s + 1 = 2 ^ N then 1 else 0
theorem oF_0 {A : Nat → Nat} {N s : Nat} (hs : s < 2 ^ N) : oc0 N s + oS (ocf A N s) N = oF A N s := by
  unfold oc0
  by_cases e : s + 1 = 2 ^ N
  · rw [if_pos e, oF_1 e, oS_z (fun k hk => ?_)]
    · rfl
    · refine if_neg (fun z => ?_)
      have h1 := oc_b z
      rw [show s = 2 ^ N - 1 by omega, Nat.testBit_two_pow_sub_one, decide_eq_true hk] at h1
      cases h1
  · rw [if_neg e, oF_c (by omega), Int.zero_add]
theorem oeo_196 : eL[196]? = some (0, 12) := by decide +kernel
theorem ogu_206 : eG (cn 206) = (0, 31, []) := by decide +kernel
theorem ogu_207 : eG (cn 207) = (0, 31, []) := by decide +kernel
theorem ogu_238 : eG (cn 238) = (0, 31, []) := by decide +kernel
theorem ogu_239 : eG (cn 239) = ((-2147483648), 2147483647, []) := by decide +kernel
theorem ogu_240 : eG (cn 240) = ((-9223372036854775808), 9223372036854775807, []) := by decide +kernel
theorem ogy_196_71 : eG (cn 196 + 71) = (0, 12, []) := by decide +kernel
theorem och_196_11 : (eG (cn 196 + 11)).2.2 = [207] := by decide +kernel
theorem ocq_196_11 {d i : Nat} {lv : List (Nat × pv)} {r : List pv} {g : pH} (hG : g_I eG g) : px_push eL d none (.getfield i) 12 11 lv (pvR 196 :: r) g = some (pvR 206 :: r) := pget oeo_196 (gI_r (r := 206) hG oeo_196 (Nat.le_of_ble_eq_true rfl) (y := 11) rfl och_196_11)
theorem och_196_12 : (eG (cn 196 + 12)).2.2 = [208] := by decide +kernel
theorem ocq_196_12 {d i : Nat} {lv : List (Nat × pv)} {r : List pv} {g : pH} (hG : g_I eG g) : px_push eL d none (.getfield i) 12 12 lv (pvR 196 :: r) g = some (pvR 207 :: r) := pget oeo_196 (gI_r (r := 207) hG oeo_196 (Nat.le_of_ble_eq_true rfl) (y := 12) rfl och_196_12)
theorem och_196_16 : (eG (cn 196 + 16)).2.2 = [212] := by decide +kernel
theorem ocq_196_16 {d i : Nat} {lv : List (Nat × pv)} {r : List pv} {g : pH} (hG : g_I eG g) : px_push eL d none (.getfield i) 12 16 lv (pvR 196 :: r) g = some (pvR 211 :: r) := pget oeo_196 (gI_r (r := 211) hG oeo_196 (Nat.le_of_ble_eq_true rfl) (y := 16) rfl och_196_16)
theorem och_196_68 : (eG (cn 196 + 68)).2.2 = [239] := by decide +kernel
theorem ocq_196_68 {d i : Nat} {lv : List (Nat × pv)} {r : List pv} {g : pH} (hG : g_I eG g) : px_push eL d none (.getfield i) 12 68 lv (pvR 196 :: r) g = some (pvR 238 :: r) := pget oeo_196 (gI_r (r := 238) hG oeo_196 (Nat.le_of_ble_eq_true rfl) (y := 68) rfl och_196_68)
theorem och_196_69 : (eG (cn 196 + 69)).2.2 = [240] := by decide +kernel
theorem ocq_196_69 {d i : Nat} {lv : List (Nat × pv)} {r : List pv} {g : pH} (hG : g_I eG g) : px_push eL d none (.getfield i) 12 69 lv (pvR 196 :: r) g = some (pvR 239 :: r) := pget oeo_196 (gI_r (r := 239) hG oeo_196 (Nat.le_of_ble_eq_true rfl) (y := 69) rfl och_196_69)
theorem och_196_70 : (eG (cn 196 + 70)).2.2 = [241] := by decide +kernel
theorem ocq_196_70 {d i : Nat} {lv : List (Nat × pv)} {r : List pv} {g : pH} (hG : g_I eG g) : px_push eL d none (.getfield i) 12 70 lv (pvR 196 :: r) g = some (pvR 240 :: r) := pget oeo_196 (gI_r (r := 240) hG oeo_196 (Nat.le_of_ble_eq_true rfl) (y := 70) rfl och_196_70)
theorem oez_206 : eL[206]? = some (1, 24) := by decide +kernel
theorem oez_207 : eL[207]? = some (1, 24) := by decide +kernel
theorem oez_211 : eL[211]? = some (2, 260) := by decide +kernel
theorem oez_238 : eL[238]? = some (1, 12) := by decide +kernel
theorem oez_239 : eL[239]? = some (1, 12) := by decide +kernel
theorem oez_240 : eL[240]? = some (3, 4096) := by decide +kernel
theorem wt_jMo_196_71 : jMo.testBit (cn 196 + 71) = true := by decide +kernel
theorem wu_jMo_238 : jMo.testBit (cn 238) = true := by decide +kernel
theorem wu_jMo_239 : jMo.testBit (cn 239) = true := by decide +kernel
set_option maxHeartbeats 2000000 in
theorem omtL1 {d N : Nat} (hd : 3 ≤ d) (hN : N ≤ 12) {g0 : pH} {B : tC} (hB : tpR B (fA g0 211)) {P : Option pv × pH → Prop} {g : pH} {nn : Int} {sp mb : tC} (hS : mE g0 g nn sp mb) (h0 : ¬ oGd (toM g0) B N → P (some (oI 0), g)) (hC : ∀ (M : Int32), oBt (toM g0) B N M → ∀ {lv : List (Nat × pv)}, px_lg lv 0 = some (pvR 196) → px_lg lv 1 = some (oI (N : Int)) → px_lg lv 2 = some (.inl M) → t_X d 261 59 lv [] g P) : ∀ (m k : Nat) (M : Int32), N - k ≤ m → k ≤ N → oBt (toM g0) B k M → ∀ {lv : List (Nat × pv)}, px_lg lv 0 = some (pvR 196) → px_lg lv 1 = some (oI (N : Int)) → px_lg lv 2 = some (.inl M) → px_lg lv 3 = some (oI (k : Int)) → t_X d 261 9 lv [] g P := by
  have e211 : fA g 211 = fA g0 211 := fA_M (S_J hS).2 jMo_b.2.2.2.1
  have hM0 : ∀ i, toM g i ↔ toM g0 i := fun i => by
    unfold toM bM
    rw [((S_J hS).2.1 196 0 (by decide +kernel)).1]
  intro m
  induction m with
  | zero =>
    intro k M hm hk hM lv l0 l1 l2 l3
    have hkN : k = N := by omega
    refine t_0 omt_9 rfl (ld_i l3) ?_
    refine t_0 omt_10 rfl (ld_i l1) ?_
    refine tb_ge omt_11 (by decide) ⟨by omega, by omega⟩ ⟨by omega, by omega⟩ (fun c1 => ?_) (fun c1 => absurd c1 (by omega))
    show t_X d 261 59 lv [] g P
    rw [hkN] at hM
    exact hC _ hM l0 l1 l2
  | succ m ih =>
    intro k M hm hk hM lv l0 l1 l2 l3
    by_cases hkN : k = N
    · refine t_0 omt_9 rfl (ld_i l3) ?_
      refine t_0 omt_10 rfl (ld_i l1) ?_
      refine tb_ge omt_11 (by decide) ⟨by omega, by omega⟩ ⟨by omega, by omega⟩ (fun c1 => ?_) (fun c1 => absurd c1 (by omega))
      show t_X d 261 59 lv [] g P
      rw [hkN] at hM
      exact hC _ hM l0 l1 l2
    refine t_0 omt_9 rfl (ld_i l3) ?_
    refine t_0 omt_10 rfl (ld_i l1) ?_
    refine tb_ge omt_11 (by decide) ⟨by omega, by omega⟩ ⟨by omega, by omega⟩ (fun c1 => absurd c1 (by omega)) (fun c1 => ?_)
    show t_X d 261 14 lv [] g P
    refine t_0 omt_14 rfl (ld_a l0) ?_
    refine t_0 omt_15 rfl (ocq_196_16 (S_J hS).1) ?_
    show t_X d 261 18 lv [pvR 211] g P
    refine t_0 omt_18 rfl (ld_i l3) ?_
    have x9 := (e211 ▸ hB : tpR B (fA g 211)) (k : Int).toNat (by omega)
    refine t_0 omt_19 rfl (pq_ba oez_211 rfl ⟨by omega, by omega⟩) ?_
    show t_X d 261 20 lv [oI (fA g 211 (k : Int).toNat)] g P
    refine t_0 omt_20 rfl (pq_s (by decide)) ?_
    refine t_0 omt_23 rfl pq_a255 ?_
    rw [show (fA g 211 (k : Int).toNat) % 256 = B k from x9.1.symm]
    show t_X d 261 24 lv [oI (B k)] g P
    have hBk : 0 ≤ B k ∧ B k ≤ 255 := by have := x9.1; rw [show B k = fA g 211 (k : Int).toNat % 256 from this]; omega
    refine t_2 omt_24 rfl (w := (px_s1 lv 4 (oI (B k)), [])) rfl ?_
    replace l0 : px_lg (px_s1 lv 4 (oI (B k))) 0 = some (pvR 196) := s1_ne (by decide) (fun _ => rfl) l0
    replace l1 : px_lg (px_s1 lv 4 (oI (B k))) 1 = some (oI ((N : Int))) := s1_ne (by decide) (fun _ => rfl) l1
    replace l2 : px_lg (px_s1 lv 4 (oI (B k))) 2 = some (.inl (M)) := s1_ne (by decide) (fun _ => rfl) l2
    replace l3 : px_lg (px_s1 lv 4 (oI (B k))) 3 = some (oI ((k : Int))) := s1_ne (by decide) (fun _ => rfl) l3
    have l4 : px_lg (px_s1 lv 4 (oI (B k))) 4 = some (oI (B k)) := s1_eq
    generalize px_s1 lv 4 (oI (B k)) = lv2 at l0 l1 l2 l3 l4 ⊢
    show t_X d 261 26 lv2 [] g P
    refine t_0 omt_26 rfl (ld_a l0) ?_
    refine t_0 omt_27 rfl (ld_i l4) ?_
    refine t_3 omt_29 rfl (ar := ([pvR 196, oI (B k)], [])) (pcal_w (as := [oI (B k)]) rfl rfl rfl oeo_196) ⟨by omega, Nat.le_of_ble_eq_true rfl, Nat.le_of_ble_eq_true rfl, rfl⟩ ?_
    refine it_run (by omega) ⟨by omega, by omega⟩ rfl rfl (fun m9 hm9 em9 ht9 => ?_) (fun ht9 => ?_)
    · have hTm : toM g0 (B k) := (hM0 _).mp ⟨m9, hm9, em9, ht9⟩
      show t_X d 261 32 lv2 [oI 1] g P
      refine tz_eq omt_32 (by decide) ⟨by omega, by omega⟩ (fun c3 => absurd c3 (by omega)) (fun c3 => ?_)
      show t_X d 261 35 lv2 [] g P
      refine t_0 omt_35 rfl (ld_i l2) ?_
      refine t_0 omt_36 rfl (ld_i l4) ?_
      refine t_3 omt_38 rfl (ar := ([.inl (M), oI (B k)], [])) (pcal_s ⟨Or.inl rfl, rfl, Nat.le_of_ble_eq_true rfl⟩) ⟨by omega, Nat.le_of_ble_eq_true rfl, Nat.le_of_ble_eq_true rfl, rfl⟩ ?_
      refine has_run (fun t8 => ?_) (fun t8 => ?_)
      · rw [em9, ← nI_o, bt_has hm9] at t8
        show t_X d 261 41 lv2 [oI 1] g P
        refine tz_eq omt_41 (by decide) ⟨by omega, by omega⟩ (fun c4 => absurd c4 (by omega)) (fun c4 => ?_)
        show t_X d 261 44 lv2 [] g P
        refine t_0 omt_44 rfl rfl ?_
        refine t_5 omt_45 rfl rfl ?_
        exact h0 (oBt_d hM hm9 (by omega) em9 t8)
      · rw [em9, ← nI_o, bt_has hm9] at t8
        show t_X d 261 41 lv2 [oI 0] g P
        refine tz_eq omt_41 (by decide) ⟨by omega, by omega⟩ (fun c5 => ?_) (fun c5 => absurd c5 (by omega))
        show t_X d 261 46 lv2 [] g P
        refine t_0 omt_46 rfl (ld_i l2) ?_
        refine t_0 omt_47 rfl rfl ?_
        refine t_0 omt_48 rfl (ld_i l4) ?_
        refine t_0 omt_50 rfl rfl ?_
        refine t_0 omt_51 rfl rfl ?_
        refine t_2 omt_52 rfl (w := (px_s1 lv2 2 (.inl ((M) ||| ((Int32.ofInt (1)) <<< ((Int32.ofInt (B k)) &&& 31)))), [])) rfl ?_
        replace l0 : px_lg (px_s1 lv2 2 (.inl ((M) ||| ((Int32.ofInt (1)) <<< ((Int32.ofInt (B k)) &&& 31))))) 0 = some (pvR 196) := s1_ne (by decide) (fun _ => rfl) l0
        replace l1 : px_lg (px_s1 lv2 2 (.inl ((M) ||| ((Int32.ofInt (1)) <<< ((Int32.ofInt (B k)) &&& 31))))) 1 = some (oI ((N : Int))) := s1_ne (by decide) (fun _ => rfl) l1
        replace l3 : px_lg (px_s1 lv2 2 (.inl ((M) ||| ((Int32.ofInt (1)) <<< ((Int32.ofInt (B k)) &&& 31))))) 3 = some (oI ((k : Int))) := s1_ne (by decide) (fun _ => rfl) l3
        replace l4 : px_lg (px_s1 lv2 2 (.inl ((M) ||| ((Int32.ofInt (1)) <<< ((Int32.ofInt (B k)) &&& 31))))) 4 = some (oI (B k)) := s1_ne (by decide) (fun _ => rfl) l4
        have l2 : px_lg (px_s1 lv2 2 (.inl ((M) ||| ((Int32.ofInt (1)) <<< ((Int32.ofInt (B k)) &&& 31))))) 2 = some (.inl ((M) ||| ((Int32.ofInt (1)) <<< ((Int32.ofInt (B k)) &&& 31)))) := s1_eq
        generalize px_s1 lv2 2 (.inl ((M) ||| ((Int32.ofInt (1)) <<< ((Int32.ofInt (B k)) &&& 31)))) = lv6 at l0 l1 l3 l4 l2 ⊢
        show t_X d 261 53 lv6 [] g P
        refine t_2 omt_53 rfl (w := (px_s1 lv6 3 (oI ((k : Int) + 1)), [])) (pq_inc l3 (by decide)) ?_
        replace l0 : px_lg (px_s1 lv6 3 (oI ((k : Int) + 1))) 0 = some (pvR 196) := s1_ne (by decide) (fun _ => rfl) l0
        replace l1 : px_lg (px_s1 lv6 3 (oI ((k : Int) + 1))) 1 = some (oI ((N : Int))) := s1_ne (by decide) (fun _ => rfl) l1
        replace l4 : px_lg (px_s1 lv6 3 (oI ((k : Int) + 1))) 4 = some (oI (B k)) := s1_ne (by decide) (fun _ => rfl) l4
        replace l2 : px_lg (px_s1 lv6 3 (oI ((k : Int) + 1))) 2 = some (.inl ((M) ||| ((Int32.ofInt (1)) <<< ((Int32.ofInt (B k)) &&& 31)))) := s1_ne (by decide) (fun _ => rfl) l2
        have l3 : px_lg (px_s1 lv6 3 (oI ((k : Int) + 1))) 3 = some (oI ((k : Int) + 1)) := s1_eq
        generalize px_s1 lv6 3 (oI ((k : Int) + 1)) = lv7 at l0 l1 l4 l2 l3 ⊢
        show t_X d 261 56 lv7 [] g P
        refine t_1 omt_56 rfl (pb_goto (pc := 56) (by decide)) ?_
        show t_X d 261 9 lv7 [] g P
        have hM2 := oBt_s hM hm9 em9 hTm (by cases q : M.toBitVec.getLsbD m9 with | true => exact absurd q t8 | false => rfl)
        rw [← em9] at hM2
        exact ih (k + 1) _ (by omega) (by omega) hM2 l0 l1 l2 l3
    · show t_X d 261 32 lv2 [oI 0] g P
      refine tz_eq omt_32 (by decide) ⟨by omega, by omega⟩ (fun c8 => ?_) (fun c8 => absurd c8 (by omega))
      show t_X d 261 44 lv2 [] g P
      refine t_0 omt_44 rfl rfl ?_
      refine t_5 omt_45 rfl rfl ?_
      exact h0 (fun z => ht9 ((hM0 _).mpr (z.1 k (by omega))))
set_option maxHeartbeats 2000000 in
theorem omtL2 {d N : Nat} (hd : 3 ≤ d) (hN : N ≤ 12) {g0 : pH} {mb : tC} {M : Int32} (hM : cnt (fun j => M.toBitVec.getLsbD j) 32 = N) {P : Option pv × pH → Prop} (hP : ∀ (g : pH) (sp : tC), oNu (fun j => M.toBitVec.getLsbD j) sp → mE g0 g N sp mb → P (some (oI 1), g)) : ∀ (m i : Nat) (g : pH) {sp : tC}, 32 - i ≤ m → i ≤ 32 → (∀ j : Nat, j < i → M.toBitVec.getLsbD j = true → sp (cnt (fun j => M.toBitVec.getLsbD j) j) = j) → mE g0 g N sp mb → ∀ {lv : List (Nat × pv)}, px_lg lv 0 = some (pvR 196) → px_lg lv 2 = some (.inl M) → px_lg lv 3 = some (oI (cnt (fun j => M.toBitVec.getLsbD j) i : Int)) → px_lg lv 4 = some (oI (i : Int)) → t_X d 261 64 lv [] g P := by
  intro m
  induction m with
  | zero =>
    intro i g sp hm hi hnu hS lv l0 l2 l3 l4
    refine t_0 omt_64 rfl (ld_i l4) ?_
    refine t_0 omt_66 rfl (pq_b (by decide)) ?_
    refine tb_ge omt_68 (by decide) ⟨by omega, by omega⟩ ⟨by omega, by omega⟩ (fun c1 => ?_) (fun c1 => absurd c1 (by omega))
    show t_X d 261 101 lv [] g P
    refine t_0 omt_101 rfl rfl ?_
    refine t_5 omt_102 rfl rfl ?_
    exact hP _ _ (fun j hj hbj => hnu j (by omega) hbj) hS
  | succ m ih =>
    intro i g sp hm hi hnu hS lv l0 l2 l3 l4
    by_cases hi32 : i = 32
    · refine t_0 omt_64 rfl (ld_i l4) ?_
      refine t_0 omt_66 rfl (pq_b (by decide)) ?_
      refine tb_ge omt_68 (by decide) ⟨by omega, by omega⟩ ⟨by omega, by omega⟩ (fun c1 => ?_) (fun c1 => absurd c1 (by omega))
      show t_X d 261 101 lv [] g P
      refine t_0 omt_101 rfl rfl ?_
      refine t_5 omt_102 rfl rfl ?_
      exact hP _ _ (fun j hj hbj => hnu j (by omega) hbj) hS
    refine t_0 omt_64 rfl (ld_i l4) ?_
    refine t_0 omt_66 rfl (pq_b (by decide)) ?_
    refine tb_ge omt_68 (by decide) ⟨by omega, by omega⟩ ⟨by omega, by omega⟩ (fun c1 => absurd c1 (by omega)) (fun c1 => ?_)
    show t_X d 261 71 lv [] g P
    refine t_0 omt_71 rfl (ld_i l2) ?_
    refine t_0 omt_72 rfl (ld_i l4) ?_
    refine t_3 omt_74 rfl (ar := ([.inl (M), oI ((i : Int))], [])) (pcal_s ⟨Or.inl rfl, rfl, Nat.le_of_ble_eq_true rfl⟩) ⟨by omega, Nat.le_of_ble_eq_true rfl, Nat.le_of_ble_eq_true rfl, rfl⟩ ?_
    refine has_run (fun t8 => ?_) (fun t8 => ?_)
    · rw [← nI_o, bt_has (by omega)] at t8
      have hcu := cnt_u (f := (fun j => M.toBitVec.getLsbD j)) t8 (show i < 32 by omega)
      have ec : cnt (fun j => M.toBitVec.getLsbD j) (i + 1) = cnt (fun j => M.toBitVec.getLsbD j) i + 1 := by show cnt (fun j => M.toBitVec.getLsbD j) i + (if M.toBitVec.getLsbD i then 1 else 0) = _; rw [t8]; rfl
      show t_X d 261 77 lv [oI 1] g P
      refine tz_ne omt_77 (by decide) ⟨by omega, by omega⟩ (fun c2 => ?_) (fun c2 => absurd c2 (by omega))
      show t_X d 261 83 lv [] g P
      refine t_0 omt_83 rfl (ld_a l0) ?_
      refine t_0 omt_84 rfl (ocq_196_68 (S_J hS).1) ?_
      show t_X d 261 87 lv [pvR 238] g P
      refine t_0 omt_87 rfl (ld_i l3) ?_
      refine t_0 omt_88 rfl (ld_i l4) ?_
      refine ts_a (n := 0) rfl rfl (by decide) omt_90 hS oez_238 rfl wu_jMo_238 ogu_238 (by decide) ⟨by omega, by omega⟩ ⟨by omega, by omega⟩ (fun g3 hS3 => ?_)
      replace hS3 : mE g0 g3 (N : Int) (updI sp (cnt (fun j => M.toBitVec.getLsbD j) i : Int).toNat (i : Int)) mb := hS3
      show t_X d 261 91 lv [] g3 P
      refine t_0 omt_91 rfl (ld_i l3) ?_
      refine t_0 omt_92 rfl rfl ?_
      refine t_0 omt_93 rfl pq_add ?_
      refine t_2 omt_94 rfl (w := (px_s1 lv 3 (oI ((cnt (fun j => M.toBitVec.getLsbD j) i : Int) + 1)), [])) rfl ?_
      replace l0 : px_lg (px_s1 lv 3 (oI ((cnt (fun j => M.toBitVec.getLsbD j) i : Int) + 1))) 0 = some (pvR 196) := s1_ne (by decide) (fun _ => rfl) l0
      replace l2 : px_lg (px_s1 lv 3 (oI ((cnt (fun j => M.toBitVec.getLsbD j) i : Int) + 1))) 2 = some (.inl (M)) := s1_ne (by decide) (fun _ => rfl) l2
      replace l4 : px_lg (px_s1 lv 3 (oI ((cnt (fun j => M.toBitVec.getLsbD j) i : Int) + 1))) 4 = some (oI ((i : Int))) := s1_ne (by decide) (fun _ => rfl) l4
      have l3 : px_lg (px_s1 lv 3 (oI ((cnt (fun j => M.toBitVec.getLsbD j) i : Int) + 1))) 3 = some (oI ((cnt (fun j => M.toBitVec.getLsbD j) i : Int) + 1)) := s1_eq
      generalize px_s1 lv 3 (oI ((cnt (fun j => M.toBitVec.getLsbD j) i : Int) + 1)) = lv4 at l0 l2 l4 l3 ⊢
      show t_X d 261 95 lv4 [] g3 P
      refine t_2 omt_95 rfl (w := (px_s1 lv4 4 (oI ((i : Int) + 1)), [])) (pq_inc l4 (by decide)) ?_
      replace l0 : px_lg (px_s1 lv4 4 (oI ((i : Int) + 1))) 0 = some (pvR 196) := s1_ne (by decide) (fun _ => rfl) l0
      replace l2 : px_lg (px_s1 lv4 4 (oI ((i : Int) + 1))) 2 = some (.inl (M)) := s1_ne (by decide) (fun _ => rfl) l2
      replace l3 : px_lg (px_s1 lv4 4 (oI ((i : Int) + 1))) 3 = some (oI ((cnt (fun j => M.toBitVec.getLsbD j) i : Int) + 1)) := s1_ne (by decide) (fun _ => rfl) l3
      have l4 : px_lg (px_s1 lv4 4 (oI ((i : Int) + 1))) 4 = some (oI ((i : Int) + 1)) := s1_eq
      generalize px_s1 lv4 4 (oI ((i : Int) + 1)) = lv5 at l0 l2 l3 l4 ⊢
      show t_X d 261 98 lv5 [] g3 P
      refine t_1 omt_98 rfl (pb_goto (pc := 98) (by decide)) ?_
      show t_X d 261 64 lv5 [] g3 P
      refine ih (i + 1) _ (by omega) (by omega) (fun j hj hbj => ?_) hS3 l0 l2 (by rw [ec]; exact l3) l4
      unfold updI
      by_cases e : j = i
      · rw [e]; exact if_pos rfl
      · have := cnt_u (f := (fun j => M.toBitVec.getLsbD j)) hbj (show j < i by omega)
        rw [if_neg (fun z => by have z : cnt (fun j => M.toBitVec.getLsbD j) j = cnt (fun j => M.toBitVec.getLsbD j) i := z; omega)]; exact hnu j (by omega) hbj
    · rw [← nI_o, bt_has (by omega), Bool.not_eq_true] at t8
      have ec : cnt (fun j => M.toBitVec.getLsbD j) (i + 1) = cnt (fun j => M.toBitVec.getLsbD j) i := by show cnt (fun j => M.toBitVec.getLsbD j) i + (if M.toBitVec.getLsbD i then 1 else 0) = _; rw [t8]; rfl
      show t_X d 261 77 lv [oI 0] g P
      refine tz_ne omt_77 (by decide) ⟨by omega, by omega⟩ (fun c6 => absurd c6 (by omega)) (fun c6 => ?_)
      show t_X d 261 80 lv [] g P
      refine t_1 omt_80 rfl (pb_goto (pc := 80) (by decide)) ?_
      show t_X d 261 95 lv [] g P
      refine t_2 omt_95 rfl (w := (px_s1 lv 4 (oI ((i : Int) + 1)), [])) (pq_inc l4 (by decide)) ?_
      replace l0 : px_lg (px_s1 lv 4 (oI ((i : Int) + 1))) 0 = some (pvR 196) := s1_ne (by decide) (fun _ => rfl) l0
      replace l2 : px_lg (px_s1 lv 4 (oI ((i : Int) + 1))) 2 = some (.inl (M)) := s1_ne (by decide) (fun _ => rfl) l2
      replace l3 : px_lg (px_s1 lv 4 (oI ((i : Int) + 1))) 3 = some (oI ((cnt (fun j => M.toBitVec.getLsbD j) i : Int))) := s1_ne (by decide) (fun _ => rfl) l3
      have l4 : px_lg (px_s1 lv 4 (oI ((i : Int) + 1))) 4 = some (oI ((i : Int) + 1)) := s1_eq
      generalize px_s1 lv 4 (oI ((i : Int) + 1)) = lv7 at l0 l2 l3 l4 ⊢
      show t_X d 261 98 lv7 [] g P
      refine t_1 omt_98 rfl (pb_goto (pc := 98) (by decide)) ?_
      show t_X d 261 64 lv7 [] g P
      refine ih (i + 1) _ (by omega) (by omega) (fun j hj hbj => ?_) hS l0 l2 (by rw [ec]; exact l3) l4
      by_cases e : j = i
      · rw [e, t8] at hbj; cases hbj
      · exact hnu j (by omega) hbj
set_option maxHeartbeats 2000000 in
theorem omt_run {d N : Nat} (hd : 3 ≤ d) (hN : N ≤ 12) {g0 : pH} {B : tC} (hB : tpR B (fA g0 211)) {P : Option pv × pH → Prop} {g : pH} {nn : Int} {sp mb : tC} (hS : mE g0 g nn sp mb) (h0 : ¬ oGd (toM g0) B N → ∀ (g : pH) (sp : tC), mE g0 g N sp mb → P (some (oI 0), g)) (h1 : ∀ (M : Int32), oBt (toM g0) B N M → ∀ (g : pH) (sp mb : tC), oNu (fun j => M.toBitVec.getLsbD j) sp → mE g0 g N sp mb → P (some (oI 1), g)) {lv : List (Nat × pv)} (l0 : px_lg lv 0 = some (pvR 196)) (l1 : px_lg lv 1 = some (oI (N : Int))) : t_X d 261 0 lv [] g P := by
  refine t_0 omt_0 rfl (ld_a l0) ?_
  refine t_0 omt_1 rfl (ld_i l1) ?_
  refine ts_f (n := 0) rfl rfl (by decide) omt_2 rfl oeo_196 hS wt_jMo_196_71 ogy_196_71 (by decide) ⟨by omega, by omega⟩ (fun g1 hS1 => ?_)
  replace hS1 : mE g0 g1 (N : Int) sp mb := hS1
  show t_X d 261 5 lv [] g1 P
  refine t_0 omt_5 rfl rfl ?_
  refine t_2 omt_6 rfl (w := (px_s1 lv 2 (oI 0), [])) rfl ?_
  replace l0 : px_lg (px_s1 lv 2 (oI 0)) 0 = some (pvR 196) := s1_ne (by decide) (fun _ => rfl) l0
  replace l1 : px_lg (px_s1 lv 2 (oI 0)) 1 = some (oI ((N : Int))) := s1_ne (by decide) (fun _ => rfl) l1
  have l2 : px_lg (px_s1 lv 2 (oI 0)) 2 = some (oI 0) := s1_eq
  generalize px_s1 lv 2 (oI 0) = lv2 at l0 l1 l2 ⊢
  show t_X d 261 7 lv2 [] g1 P
  refine t_0 omt_7 rfl rfl ?_
  refine t_2 omt_8 rfl (w := (px_s1 lv2 3 (oI 0), [])) rfl ?_
  replace l0 : px_lg (px_s1 lv2 3 (oI 0)) 0 = some (pvR 196) := s1_ne (by decide) (fun _ => rfl) l0
  replace l1 : px_lg (px_s1 lv2 3 (oI 0)) 1 = some (oI ((N : Int))) := s1_ne (by decide) (fun _ => rfl) l1
  replace l2 : px_lg (px_s1 lv2 3 (oI 0)) 2 = some (oI 0) := s1_ne (by decide) (fun _ => rfl) l2
  have l3 : px_lg (px_s1 lv2 3 (oI 0)) 3 = some (oI 0) := s1_eq
  generalize px_s1 lv2 3 (oI 0) = lv3 at l0 l1 l2 l3 ⊢
  show t_X d 261 9 lv3 [] g1 P
  refine omtL1 hd hN hB hS1 (fun z => h0 z _ _ hS1) (fun M hM {lv9} l0 l1 l2 => ?_) N 0 _ (by omega) (by omega) oBt_0 l0 l1 l2 l3
  show t_X d 261 59 lv9 [] g1 P
  refine t_0 omt_59 rfl rfl ?_
  refine t_2 omt_60 rfl (w := (px_s1 lv9 3 (oI 0), [])) rfl ?_
  replace l0 : px_lg (px_s1 lv9 3 (oI 0)) 0 = some (pvR 196) := s1_ne (by decide) (fun _ => rfl) l0
  replace l1 : px_lg (px_s1 lv9 3 (oI 0)) 1 = some (oI ((N : Int))) := s1_ne (by decide) (fun _ => rfl) l1
  replace l2 : px_lg (px_s1 lv9 3 (oI 0)) 2 = some (.inl (M)) := s1_ne (by decide) (fun _ => rfl) l2
  have l3 : px_lg (px_s1 lv9 3 (oI 0)) 3 = some (oI 0) := s1_eq
  generalize px_s1 lv9 3 (oI 0) = lv4 at l0 l1 l2 l3 ⊢
  show t_X d 261 61 lv4 [] g1 P
  refine t_0 omt_61 rfl rfl ?_
  refine t_2 omt_62 rfl (w := (px_s1 lv4 4 (oI 0), [])) rfl ?_
  replace l0 : px_lg (px_s1 lv4 4 (oI 0)) 0 = some (pvR 196) := s1_ne (by decide) (fun _ => rfl) l0
  replace l1 : px_lg (px_s1 lv4 4 (oI 0)) 1 = some (oI ((N : Int))) := s1_ne (by decide) (fun _ => rfl) l1
  replace l2 : px_lg (px_s1 lv4 4 (oI 0)) 2 = some (.inl (M)) := s1_ne (by decide) (fun _ => rfl) l2
  replace l3 : px_lg (px_s1 lv4 4 (oI 0)) 3 = some (oI 0) := s1_ne (by decide) (fun _ => rfl) l3
  have l4 : px_lg (px_s1 lv4 4 (oI 0)) 4 = some (oI 0) := s1_eq
  generalize px_s1 lv4 4 (oI 0) = lv5 at l0 l1 l2 l3 l4 ⊢
  show t_X d 261 64 lv5 [] g1 P
  exact omtL2 hd hN hM.2.2 (fun g8 sp8 hnu8 hS8 => h1 M hM _ _ _ hnu8 hS8) 32 0 _ (by omega) (by omega) (fun j hj => absurd hj (Nat.not_lt_zero _)) hS1 l0 l2 l3 l4
set_option maxHeartbeats 4000000 in
theorem omlL2 {d N : Nat} (hd : 2 ≤ d) (hN : N ≤ 12) {g0 : pH} {cl : Int} {sp ca cb : tC} (hcl : cF g0 196 22 = cl) (hca : fA g0 206 = ca) (hcb : fA g0 207 = cb) (hcl2 : 0 ≤ cl ∧ cl ≤ 24) {b : Nat → Bool} (hbN : cnt b 32 = N) (hsp : oNu b sp) {P : Option pv × pH → Prop} {p q : Int} (hC : ∀ (g : pH) (mb : tC), (∀ u : Nat, u < N → mb u = (oCk (oz_ b) ca cb cl.toNat u : Int)) → mE g0 g N sp mb → ∀ {lv : List (Nat × pv)}, px_lg lv 0 = some (pvR 196) → px_lg lv 1 = some (oI p) → px_lg lv 2 = some (oI q) → t_X d 215 94 lv [] g P) : ∀ (m k : Nat) (g : pH) {mb : tC}, cl - k ≤ m → k ≤ cl → (∀ u : Nat, u < N → mb u = (oCk (oz_ b) ca cb k u : Int)) → mE g0 g N sp mb → ∀ {lv : List (Nat × pv)}, px_lg lv 0 = some (pvR 196) → px_lg lv 1 = some (oI p) → px_lg lv 2 = some (oI q) → px_lg lv 3 = some (oI (k : Int)) → t_X d 215 25 lv [] g P := by
  intro m
  induction m with
  | zero =>
    intro k g mb hm hk hah hS lv l0 l1 l2 l3
    refine t_0 oml_25 rfl (ld_i l3) ?_
    refine t_0 oml_26 rfl (ld_a l0) ?_
    refine t_0 oml_27 rfl (pq_cv oeo_196 rfl ((cF_M (S_J hS).2 jMo_b.1).trans hcl : cF g 196 22 = cl)) ?_
    show t_X d 215 30 lv [oI (cl), oI ((k : Int))] g P
    refine tb_ge oml_30 (by decide) ⟨by omega, by omega⟩ ⟨by omega, by omega⟩ (fun c1 => ?_) (fun c1 => absurd c1 (by omega))
    show t_X d 215 94 lv [] g P
    exact hC _ _ (by have e : k = cl.toNat := (by omega); rw [← e]; exact hah) hS l0 l1 l2
  | succ m ih =>
    intro k g mb hm hk hah hS lv l0 l1 l2 l3
    by_cases hkN : (k : Int) = cl
    · refine t_0 oml_25 rfl (ld_i l3) ?_
      refine t_0 oml_26 rfl (ld_a l0) ?_
      refine t_0 oml_27 rfl (pq_cv oeo_196 rfl ((cF_M (S_J hS).2 jMo_b.1).trans hcl : cF g 196 22 = cl)) ?_
      show t_X d 215 30 lv [oI (cl), oI ((k : Int))] g P
      refine tb_ge oml_30 (by decide) ⟨by omega, by omega⟩ ⟨by omega, by omega⟩ (fun c1 => ?_) (fun c1 => absurd c1 (by omega))
      show t_X d 215 94 lv [] g P
      exact hC _ _ (by have e : k = cl.toNat := (by omega); rw [← e]; exact hah) hS l0 l1 l2
    have hz1 := oz_b (b := b) (i := ca k)
    have hz2 := oz_b (b := b) (i := cb k)
    refine t_0 oml_25 rfl (ld_i l3) ?_
    refine t_0 oml_26 rfl (ld_a l0) ?_
    refine t_0 oml_27 rfl (pq_cv oeo_196 rfl ((cF_M (S_J hS).2 jMo_b.1).trans hcl : cF g 196 22 = cl)) ?_
    show t_X d 215 30 lv [oI (cl), oI ((k : Int))] g P
    refine tb_ge oml_30 (by decide) ⟨by omega, by omega⟩ ⟨by omega, by omega⟩ (fun c1 => absurd c1 (by omega)) (fun c1 => ?_)
    show t_X d 215 33 lv [] g P
    refine t_0 oml_33 rfl (ld_a l0) ?_
    refine t_0 oml_34 rfl (ld_a l0) ?_
    refine t_0 oml_35 rfl (ocq_196_11 (S_J hS).1) ?_
    show t_X d 215 38 lv [pvR 206, pvR 196] g P
    refine t_0 oml_38 rfl (ld_i l3) ?_
    have r2 := pb_a (S_J hS).1 oez_206 (j := k) (by omega) ogu_206 ((fA_M (S_J hS).2 jMo_b.2.1).trans hca : fA g 206 = ca)
    refine t_0 oml_39 rfl (pq_iv oez_206 rfl ⟨by omega, by omega⟩ ((fA_M (S_J hS).2 jMo_b.2.1).trans hca : fA g 206 = ca)) ?_
    show t_X d 215 40 lv [oI (ca k), pvR 196] g P
    show t_X d 215 40 lv [oI (ca k), pvR 196] g P
    refine t_3 oml_40 rfl (ar := ([pvR 196, oI (ca k)], [])) (pcal_w (as := [oI (ca k)]) rfl rfl rfl oeo_196) ⟨by omega, Nat.le_of_ble_eq_true rfl, Nat.le_of_ble_eq_true rfl, rfl⟩ ?_
    refine sa_run (S_J hS).1 ⟨by omega, by omega⟩ (fun z3 hz3 => ?_) rfl rfl
    have ez3 : z3 = oz_ b (ca k) := om_z hbN hsp (by rw [show fF g 71 = (N : Int) from S_f hS 0 (Nat.le_of_ble_eq_true rfl), show fA g 238 = sp from S_a hS 0 (Nat.le_of_ble_eq_true rfl)] at hz3; exact hz3)
    rw [ez3]
    show t_X d 215 43 lv [oI (oz_ b (ca k))] g P
    refine t_2 oml_43 rfl (w := (px_s1 lv 4 (oI (oz_ b (ca k))), [])) rfl ?_
    replace l0 : px_lg (px_s1 lv 4 (oI (oz_ b (ca k)))) 0 = some (pvR 196) := s1_ne (by decide) (fun _ => rfl) l0
    replace l1 : px_lg (px_s1 lv 4 (oI (oz_ b (ca k)))) 1 = some (oI (p)) := s1_ne (by decide) (fun _ => rfl) l1
    replace l2 : px_lg (px_s1 lv 4 (oI (oz_ b (ca k)))) 2 = some (oI (q)) := s1_ne (by decide) (fun _ => rfl) l2
    replace l3 : px_lg (px_s1 lv 4 (oI (oz_ b (ca k)))) 3 = some (oI ((k : Int))) := s1_ne (by decide) (fun _ => rfl) l3
    have l4 : px_lg (px_s1 lv 4 (oI (oz_ b (ca k)))) 4 = some (oI (oz_ b (ca k))) := s1_eq
    generalize px_s1 lv 4 (oI (oz_ b (ca k))) = lv4 at l0 l1 l2 l3 l4 ⊢
    show t_X d 215 45 lv4 [] g P
    refine t_0 oml_45 rfl (ld_a l0) ?_
    refine t_0 oml_46 rfl (ld_a l0) ?_
    refine t_0 oml_47 rfl (ocq_196_12 (S_J hS).1) ?_
    show t_X d 215 50 lv4 [pvR 207, pvR 196] g P
    refine t_0 oml_50 rfl (ld_i l3) ?_
    have r5 := pb_a (S_J hS).1 oez_207 (j := k) (by omega) ogu_207 ((fA_M (S_J hS).2 jMo_b.2.2.1).trans hcb : fA g 207 = cb)
    refine t_0 oml_51 rfl (pq_iv oez_207 rfl ⟨by omega, by omega⟩ ((fA_M (S_J hS).2 jMo_b.2.2.1).trans hcb : fA g 207 = cb)) ?_
    show t_X d 215 52 lv4 [oI (cb k), pvR 196] g P
    show t_X d 215 52 lv4 [oI (cb k), pvR 196] g P
    refine t_3 oml_52 rfl (ar := ([pvR 196, oI (cb k)], [])) (pcal_w (as := [oI (cb k)]) rfl rfl rfl oeo_196) ⟨by omega, Nat.le_of_ble_eq_true rfl, Nat.le_of_ble_eq_true rfl, rfl⟩ ?_
    refine sa_run (S_J hS).1 ⟨by omega, by omega⟩ (fun z6 hz6 => ?_) rfl rfl
    have ez6 : z6 = oz_ b (cb k) := om_z hbN hsp (by rw [show fF g 71 = (N : Int) from S_f hS 0 (Nat.le_of_ble_eq_true rfl), show fA g 238 = sp from S_a hS 0 (Nat.le_of_ble_eq_true rfl)] at hz6; exact hz6)
    rw [ez6]
    show t_X d 215 55 lv4 [oI (oz_ b (cb k))] g P
    refine t_2 oml_55 rfl (w := (px_s1 lv4 5 (oI (oz_ b (cb k))), [])) rfl ?_
    replace l0 : px_lg (px_s1 lv4 5 (oI (oz_ b (cb k)))) 0 = some (pvR 196) := s1_ne (by decide) (fun _ => rfl) l0
    replace l1 : px_lg (px_s1 lv4 5 (oI (oz_ b (cb k)))) 1 = some (oI (p)) := s1_ne (by decide) (fun _ => rfl) l1
    replace l2 : px_lg (px_s1 lv4 5 (oI (oz_ b (cb k)))) 2 = some (oI (q)) := s1_ne (by decide) (fun _ => rfl) l2
    replace l3 : px_lg (px_s1 lv4 5 (oI (oz_ b (cb k)))) 3 = some (oI ((k : Int))) := s1_ne (by decide) (fun _ => rfl) l3
    replace l4 : px_lg (px_s1 lv4 5 (oI (oz_ b (cb k)))) 4 = some (oI (oz_ b (ca k))) := s1_ne (by decide) (fun _ => rfl) l4
    have l5 : px_lg (px_s1 lv4 5 (oI (oz_ b (cb k)))) 5 = some (oI (oz_ b (cb k))) := s1_eq
    generalize px_s1 lv4 5 (oI (oz_ b (cb k))) = lv7 at l0 l1 l2 l3 l4 l5 ⊢
    show t_X d 215 57 lv7 [] g P
    refine t_0 oml_57 rfl (ld_i l4) ?_
    refine t_0 oml_59 rfl rfl ?_
    refine tb_eq oml_60 (by decide) ⟨by omega, by omega⟩ ⟨by omega, by omega⟩ (fun c8 => ?_) (fun c8 => ?_)
    · show t_X d 215 88 lv7 [] g P
      refine t_2 oml_88 rfl (w := (px_s1 lv7 3 (oI ((k : Int) + 1)), [])) (pq_inc l3 (by decide)) ?_
      replace l0 : px_lg (px_s1 lv7 3 (oI ((k : Int) + 1))) 0 = some (pvR 196) := s1_ne (by decide) (fun _ => rfl) l0
      replace l1 : px_lg (px_s1 lv7 3 (oI ((k : Int) + 1))) 1 = some (oI (p)) := s1_ne (by decide) (fun _ => rfl) l1
      replace l2 : px_lg (px_s1 lv7 3 (oI ((k : Int) + 1))) 2 = some (oI (q)) := s1_ne (by decide) (fun _ => rfl) l2
      replace l4 : px_lg (px_s1 lv7 3 (oI ((k : Int) + 1))) 4 = some (oI (oz_ b (ca k))) := s1_ne (by decide) (fun _ => rfl) l4
      replace l5 : px_lg (px_s1 lv7 3 (oI ((k : Int) + 1))) 5 = some (oI (oz_ b (cb k))) := s1_ne (by decide) (fun _ => rfl) l5
      have l3 : px_lg (px_s1 lv7 3 (oI ((k : Int) + 1))) 3 = some (oI ((k : Int) + 1)) := s1_eq
      generalize px_s1 lv7 3 (oI ((k : Int) + 1)) = lv9 at l0 l1 l2 l4 l5 l3 ⊢
      show t_X d 215 91 lv9 [] g P
      refine t_1 oml_91 rfl (pb_goto (pc := 91) (by decide)) ?_
      show t_X d 215 25 lv9 [] g P
      refine ih (k + 1) _ (by omega) (by omega) (fun u hu => ?_) hS l0 l1 l2 l3
      show mb u = ((if oz_ b (ca k) ≠ -1 ∧ oz_ b (cb k) ≠ -1 then oA (oCk (oz_ b) ca cb k) (oz_ b (ca k)).toNat (oz_ b (cb k)).toNat else oCk (oz_ b) ca cb k) u : Nat)
      rw [if_neg (by omega)]
      exact hah u hu
    · show t_X d 215 63 lv7 [] g P
      refine t_0 oml_63 rfl (ld_i l5) ?_
      refine t_0 oml_65 rfl rfl ?_
      refine tb_eq oml_66 (by decide) ⟨by omega, by omega⟩ ⟨by omega, by omega⟩ (fun c10 => ?_) (fun c10 => ?_)
      · show t_X d 215 88 lv7 [] g P
        refine t_2 oml_88 rfl (w := (px_s1 lv7 3 (oI ((k : Int) + 1)), [])) (pq_inc l3 (by decide)) ?_
        replace l0 : px_lg (px_s1 lv7 3 (oI ((k : Int) + 1))) 0 = some (pvR 196) := s1_ne (by decide) (fun _ => rfl) l0
        replace l1 : px_lg (px_s1 lv7 3 (oI ((k : Int) + 1))) 1 = some (oI (p)) := s1_ne (by decide) (fun _ => rfl) l1
        replace l2 : px_lg (px_s1 lv7 3 (oI ((k : Int) + 1))) 2 = some (oI (q)) := s1_ne (by decide) (fun _ => rfl) l2
        replace l4 : px_lg (px_s1 lv7 3 (oI ((k : Int) + 1))) 4 = some (oI (oz_ b (ca k))) := s1_ne (by decide) (fun _ => rfl) l4
        replace l5 : px_lg (px_s1 lv7 3 (oI ((k : Int) + 1))) 5 = some (oI (oz_ b (cb k))) := s1_ne (by decide) (fun _ => rfl) l5
        have l3 : px_lg (px_s1 lv7 3 (oI ((k : Int) + 1))) 3 = some (oI ((k : Int) + 1)) := s1_eq
        generalize px_s1 lv7 3 (oI ((k : Int) + 1)) = lv11 at l0 l1 l2 l4 l5 l3 ⊢
        show t_X d 215 91 lv11 [] g P
        refine t_1 oml_91 rfl (pb_goto (pc := 91) (by decide)) ?_
        show t_X d 215 25 lv11 [] g P
        refine ih (k + 1) _ (by omega) (by omega) (fun u hu => ?_) hS l0 l1 l2 l3
        show mb u = ((if oz_ b (ca k) ≠ -1 ∧ oz_ b (cb k) ≠ -1 then oA (oCk (oz_ b) ca cb k) (oz_ b (ca k)).toNat (oz_ b (cb k)).toNat else oCk (oz_ b) ca cb k) u : Nat)
        rw [if_neg (by omega)]
        exact hah u hu
      · show t_X d 215 69 lv7 [] g P
        obtain ⟨y, hy⟩ : ∃ y : Nat, oz_ b (cb k) = y := ⟨(oz_ b (cb k)).toNat, by omega⟩
        obtain ⟨x, hx⟩ : ∃ x : Nat, oz_ b (ca k) = x := ⟨(oz_ b (ca k)).toNat, by omega⟩
        rw [hy] at l5
        rw [hx] at l4
        refine t_0 oml_69 rfl (ld_a l0) ?_
        refine t_0 oml_70 rfl (ocq_196_69 (S_J hS).1) ?_
        show t_X d 215 73 lv7 [pvR 239] g P
        refine t_0 oml_73 rfl (ld_i l5) ?_
        refine t_0 oml_75 rfl (ld_a l0) ?_
        refine t_0 oml_76 rfl (ocq_196_69 (S_J hS).1) ?_
        show t_X d 215 79 lv7 [pvR 239, oI ((y : Int)), pvR 239] g P
        refine t_0 oml_79 rfl (ld_i l5) ?_
        have r12 := pb_a (S_J hS).1 oez_239 (j := (y : Int).toNat) (by omega) ogu_239 (show fA g 239 = mb from S_a hS 1 (Nat.le_of_ble_eq_true rfl))
        refine t_0 oml_81 rfl (pq_iv oez_239 rfl ⟨by omega, by omega⟩ (show fA g 239 = mb from S_a hS 1 (Nat.le_of_ble_eq_true rfl))) ?_
        show t_X d 215 82 lv7 [oI (mb ((y : Int).toNat)), oI ((y : Int)), pvR 239] g P
        rw [show mb (y : Int).toNat = (oCk (oz_ b) ca cb k y : Int) from hah y (by omega)]
        show t_X d 215 82 lv7 [oI ((oCk (oz_ b) ca cb k y : Int)), oI ((y : Int)), pvR 239] g P
        refine t_0 oml_82 rfl rfl ?_
        refine t_0 oml_83 rfl (ld_i l4) ?_
        refine t_0 oml_85 rfl rfl ?_
        have hqb := oCk_b (b := b) (by omega) (ca := ca) (cb := cb) (m := k) (k := y)
        have hq2 : oCk (oz_ b) ca cb k y ||| 2 ^ x < 4096 := Nat.or_lt_two_pow (n := 12) hqb (Nat.pow_lt_pow_right (by decide) (by omega))
        refine t_0 oml_86 rfl (pq_orx (s := oCk (oz_ b) ca cb k y) (k := x) (by omega) (by omega)) ?_
        refine ts_a (n := 1) rfl rfl (by decide) oml_87 hS oez_239 rfl wu_jMo_239 ogu_239 (by decide) ⟨by omega, by omega⟩ ⟨by omega, by omega⟩ (fun g13 hS13 => ?_)
        replace hS13 : mE g0 g13 (N : Int) sp (updI mb (y : Int).toNat ((oCk (oz_ b) ca cb k y ||| 2 ^ x : Nat) : Int)) := hS13
        show t_X d 215 88 lv7 [] g13 P
        refine t_2 oml_88 rfl (w := (px_s1 lv7 3 (oI ((k : Int) + 1)), [])) (pq_inc l3 (by decide)) ?_
        replace l0 : px_lg (px_s1 lv7 3 (oI ((k : Int) + 1))) 0 = some (pvR 196) := s1_ne (by decide) (fun _ => rfl) l0
        replace l1 : px_lg (px_s1 lv7 3 (oI ((k : Int) + 1))) 1 = some (oI (p)) := s1_ne (by decide) (fun _ => rfl) l1
        replace l2 : px_lg (px_s1 lv7 3 (oI ((k : Int) + 1))) 2 = some (oI (q)) := s1_ne (by decide) (fun _ => rfl) l2
        replace l4 : px_lg (px_s1 lv7 3 (oI ((k : Int) + 1))) 4 = some (oI ((x : Int))) := s1_ne (by decide) (fun _ => rfl) l4
        replace l5 : px_lg (px_s1 lv7 3 (oI ((k : Int) + 1))) 5 = some (oI ((y : Int))) := s1_ne (by decide) (fun _ => rfl) l5
        have l3 : px_lg (px_s1 lv7 3 (oI ((k : Int) + 1))) 3 = some (oI ((k : Int) + 1)) := s1_eq
        generalize px_s1 lv7 3 (oI ((k : Int) + 1)) = lv14 at l0 l1 l2 l4 l5 l3 ⊢
        show t_X d 215 91 lv14 [] g13 P
        refine t_1 oml_91 rfl (pb_goto (pc := 91) (by decide)) ?_
        show t_X d 215 25 lv14 [] g13 P
        refine ih (k + 1) _ (by omega) (by omega) (fun u hu => ?_) hS13 l0 l1 l2 l3
        show (updI mb (y : Int).toNat ((oCk (oz_ b) ca cb k y ||| 2 ^ x : Nat) : Int)) u = ((if oz_ b (ca k) ≠ -1 ∧ oz_ b (cb k) ≠ -1 then oA (oCk (oz_ b) ca cb k) (oz_ b (ca k)).toNat (oz_ b (cb k)).toNat else oCk (oz_ b) ca cb k) u : Nat)
        rw [if_pos ⟨by omega, by omega⟩, hx, hy]
        unfold updI oA
        by_cases e : u = y
        · rw [if_pos (by rw [e]; rfl), if_pos (by rw [e]; rfl)]; rfl
        · rw [if_neg (fun z => e (by rw [z]; rfl)), if_neg (fun z => e (by rw [z]; rfl))]; exact hah u hu
set_option maxHeartbeats 1000000 in
theorem omlL1 {d N : Nat} (hN : N ≤ 12) {g0 : pH} {sp : tC} {P : Option pv × pH → Prop} {p q : Int} (hC : ∀ (g : pH) (mb : tC), (∀ u : Nat, u < N → mb u = 0) → mE g0 g N sp mb → ∀ {lv : List (Nat × pv)}, px_lg lv 0 = some (pvR 196) → px_lg lv 1 = some (oI p) → px_lg lv 2 = some (oI q) → t_X d 215 23 lv [] g P) : ∀ (m k : Nat) (g : pH) {mb : tC}, N - k ≤ m → k ≤ N → (∀ u : Nat, u < k → mb u = 0) → mE g0 g N sp mb → ∀ {lv : List (Nat × pv)}, px_lg lv 0 = some (pvR 196) → px_lg lv 1 = some (oI p) → px_lg lv 2 = some (oI q) → px_lg lv 3 = some (oI (k : Int)) → t_X d 215 2 lv [] g P := by
  intro m
  induction m with
  | zero =>
    intro k g mb hm hk hz hS lv l0 l1 l2 l3
    refine t_0 oml_2 rfl (ld_i l3) ?_
    refine t_0 oml_3 rfl (ld_a l0) ?_
    refine t_0 oml_4 rfl (pq_cv oeo_196 rfl (show cF g 196 71 = (N : Int) from S_f hS 0 (Nat.le_of_ble_eq_true rfl))) ?_
    show t_X d 215 7 lv [oI ((N : Int)), oI ((k : Int))] g P
    refine tb_ge oml_7 (by decide) ⟨by omega, by omega⟩ ⟨by omega, by omega⟩ (fun c1 => ?_) (fun c1 => absurd c1 (by omega))
    show t_X d 215 23 lv [] g P
    exact hC _ _ (fun u hu => hz u (by omega)) hS l0 l1 l2
  | succ m ih =>
    intro k g mb hm hk hz hS lv l0 l1 l2 l3
    by_cases hkN : k = N
    · refine t_0 oml_2 rfl (ld_i l3) ?_
      refine t_0 oml_3 rfl (ld_a l0) ?_
      refine t_0 oml_4 rfl (pq_cv oeo_196 rfl (show cF g 196 71 = (N : Int) from S_f hS 0 (Nat.le_of_ble_eq_true rfl))) ?_
      show t_X d 215 7 lv [oI ((N : Int)), oI ((k : Int))] g P
      refine tb_ge oml_7 (by decide) ⟨by omega, by omega⟩ ⟨by omega, by omega⟩ (fun c1 => ?_) (fun c1 => absurd c1 (by omega))
      show t_X d 215 23 lv [] g P
      exact hC _ _ (fun u hu => hz u (by omega)) hS l0 l1 l2
    refine t_0 oml_2 rfl (ld_i l3) ?_
    refine t_0 oml_3 rfl (ld_a l0) ?_
    refine t_0 oml_4 rfl (pq_cv oeo_196 rfl (show cF g 196 71 = (N : Int) from S_f hS 0 (Nat.le_of_ble_eq_true rfl))) ?_
    show t_X d 215 7 lv [oI ((N : Int)), oI ((k : Int))] g P
    refine tb_ge oml_7 (by decide) ⟨by omega, by omega⟩ ⟨by omega, by omega⟩ (fun c1 => absurd c1 (by omega)) (fun c1 => ?_)
    show t_X d 215 10 lv [] g P
    refine t_0 oml_10 rfl (ld_a l0) ?_
    refine t_0 oml_11 rfl (ocq_196_69 (S_J hS).1) ?_
    show t_X d 215 14 lv [pvR 239] g P
    refine t_0 oml_14 rfl (ld_i l3) ?_
    refine t_0 oml_15 rfl rfl ?_
    refine ts_a (n := 1) rfl rfl (by decide) oml_16 hS oez_239 rfl wu_jMo_239 ogu_239 (by decide) ⟨by omega, by omega⟩ ⟨by omega, by omega⟩ (fun g2 hS2 => ?_)
    replace hS2 : mE g0 g2 (N : Int) sp (updI mb (k : Int).toNat 0) := hS2
    show t_X d 215 17 lv [] g2 P
    refine t_2 oml_17 rfl (w := (px_s1 lv 3 (oI ((k : Int) + 1)), [])) (pq_inc l3 (by decide)) ?_
    replace l0 : px_lg (px_s1 lv 3 (oI ((k : Int) + 1))) 0 = some (pvR 196) := s1_ne (by decide) (fun _ => rfl) l0
    replace l1 : px_lg (px_s1 lv 3 (oI ((k : Int) + 1))) 1 = some (oI (p)) := s1_ne (by decide) (fun _ => rfl) l1
    replace l2 : px_lg (px_s1 lv 3 (oI ((k : Int) + 1))) 2 = some (oI (q)) := s1_ne (by decide) (fun _ => rfl) l2
    have l3 : px_lg (px_s1 lv 3 (oI ((k : Int) + 1))) 3 = some (oI ((k : Int) + 1)) := s1_eq
    generalize px_s1 lv 3 (oI ((k : Int) + 1)) = lv3 at l0 l1 l2 l3 ⊢
    show t_X d 215 20 lv3 [] g2 P
    refine t_1 oml_20 rfl (pb_goto (pc := 20) (by decide)) ?_
    show t_X d 215 2 lv3 [] g2 P
    refine ih (k + 1) _ (by omega) (by omega) (fun u hu => ?_) hS2 l0 l1 l2 l3
    unfold updI
    by_cases e : u = k
    · rw [if_pos (by rw [e]; rfl)]
    · rw [if_neg (fun z => e (by rw [z]; rfl))]; exact hz u (by omega)
set_option maxHeartbeats 4000000 in
theorem omlL4 {d N : Nat} (hd : 2 ≤ d) (hN : N ≤ 12) {A : Nat → Nat} {g0 : pH} {sp mb : tC} (hA : oAh A N mb) {P : Option pv × pH → Prop} {s : Nat} (hs : s < 2 ^ N) {g : pH} (hS : mE g0 g N sp mb) (hL : ∀ T : Nat, s < T → T < 2 ^ N → fL g 240 T = Int64.ofInt (oF A N T)) (hC : ∀ {lv : List (Nat × pv)}, px_lg lv 0 = some (pvR 196) → px_lg lv 3 = some (oI ((2 ^ N - 1 : Nat) : Int)) → px_lg lv 4 = some (oI (s : Int)) → px_lg lv 5 = some (.inr (.inl (Int64.ofInt (oc0 N s + oS (ocf A N s) N)))) → t_X d 215 205 lv [] g P) : ∀ (m k : Nat), N - k ≤ m → k ≤ N → ∀ {lv : List (Nat × pv)}, px_lg lv 0 = some (pvR 196) → px_lg lv 3 = some (oI ((2 ^ N - 1 : Nat) : Int)) → px_lg lv 4 = some (oI (s : Int)) → px_lg lv 5 = some (.inr (.inl (Int64.ofInt (oc0 N s + oS (ocf A N s) k)))) → px_lg lv 7 = some (oI (k : Int)) → t_X d 215 148 lv [] g P := by
  have hp := pw_12 hN
  have hp1 : 1 ≤ 2 ^ N := Nat.one_le_two_pow
  intro m
  induction m with
  | zero =>
    intro k hm hk lv l0 l3 l4 l5 l7
    have hkN : k = N := by omega
    refine t_0 oml_148 rfl (ld_i l7) ?_
    refine t_0 oml_150 rfl (ld_a l0) ?_
    refine t_0 oml_151 rfl (pq_cv oeo_196 rfl (show cF g 196 71 = (N : Int) from S_f hS 0 (Nat.le_of_ble_eq_true rfl))) ?_
    show t_X d 215 154 lv [oI ((N : Int)), oI ((k : Int))] g P
    refine tb_ge oml_154 (by decide) ⟨by omega, by omega⟩ ⟨by omega, by omega⟩ (fun c1 => ?_) (fun c1 => absurd c1 (by omega))
    show t_X d 215 205 lv [] g P
    exact hC l0 l3 l4 (by rw [hkN] at l5; exact l5)
  | succ m ih =>
    intro k hm hk lv l0 l3 l4 l5 l7
    by_cases hkN : k = N
    · refine t_0 oml_148 rfl (ld_i l7) ?_
      refine t_0 oml_150 rfl (ld_a l0) ?_
      refine t_0 oml_151 rfl (pq_cv oeo_196 rfl (show cF g 196 71 = (N : Int) from S_f hS 0 (Nat.le_of_ble_eq_true rfl))) ?_
      show t_X d 215 154 lv [oI ((N : Int)), oI ((k : Int))] g P
      refine tb_ge oml_154 (by decide) ⟨by omega, by omega⟩ ⟨by omega, by omega⟩ (fun c1 => ?_) (fun c1 => absurd c1 (by omega))
      show t_X d 215 205 lv [] g P
      exact hC l0 l3 l4 (by rw [hkN] at l5; exact l5)
    have hx : s ||| 2 ^ k < 2 ^ N := ob_up (by omega) (by omega)
    refine t_0 oml_148 rfl (ld_i l7) ?_
    refine t_0 oml_150 rfl (ld_a l0) ?_
    refine t_0 oml_151 rfl (pq_cv oeo_196 rfl (show cF g 196 71 = (N : Int) from S_f hS 0 (Nat.le_of_ble_eq_true rfl))) ?_
    show t_X d 215 154 lv [oI ((N : Int)), oI ((k : Int))] g P
    refine tb_ge oml_154 (by decide) ⟨by omega, by omega⟩ ⟨by omega, by omega⟩ (fun c1 => absurd c1 (by omega)) (fun c1 => ?_)
    show t_X d 215 157 lv [] g P
    refine t_0 oml_157 rfl (ld_i l4) ?_
    refine t_0 oml_159 rfl (ld_i l7) ?_
    refine t_3 oml_161 rfl (ar := ([oI ((s : Int)), oI ((k : Int))], [])) (pcal_s ⟨Or.inl rfl, rfl, Nat.le_of_ble_eq_true rfl⟩) ⟨by omega, Nat.le_of_ble_eq_true rfl, Nat.le_of_ble_eq_true rfl, rfl⟩ ?_
    refine has_run (fun t2 => ?_) (fun t2 => ?_)
    · have b1 : s.testBit k = true := (hs_t (by omega) (by omega)).mp t2
      show t_X d 215 164 lv [oI 1] g P
      refine tz_ne oml_164 (by decide) ⟨by omega, by omega⟩ (fun c3 => ?_) (fun c3 => absurd c3 (by omega))
      show t_X d 215 199 lv [] g P
      refine t_2 oml_199 rfl (w := (px_s1 lv 7 (oI ((k : Int) + 1)), [])) (pq_inc l7 (by decide)) ?_
      replace l0 : px_lg (px_s1 lv 7 (oI ((k : Int) + 1))) 0 = some (pvR 196) := s1_ne (by decide) (fun _ => rfl) l0
      replace l3 : px_lg (px_s1 lv 7 (oI ((k : Int) + 1))) 3 = some (oI (((2 ^ N - 1 : Nat) : Int))) := s1_ne (by decide) (fun _ => rfl) l3
      replace l4 : px_lg (px_s1 lv 7 (oI ((k : Int) + 1))) 4 = some (oI ((s : Int))) := s1_ne (by decide) (fun _ => rfl) l4
      replace l5 : px_lg (px_s1 lv 7 (oI ((k : Int) + 1))) 5 = some (.inr (.inl (Int64.ofInt (oc0 N s + oS (ocf A N s) k)))) := s1_ne (by decide) (fun z => absurd z (by decide)) l5
      have l7 : px_lg (px_s1 lv 7 (oI ((k : Int) + 1))) 7 = some (oI ((k : Int) + 1)) := s1_eq
      generalize px_s1 lv 7 (oI ((k : Int) + 1)) = lv4 at l0 l3 l4 l5 l7 ⊢
      show t_X d 215 202 lv4 [] g P
      refine t_1 oml_202 rfl (pb_goto (pc := 202) (by decide)) ?_
      show t_X d 215 148 lv4 [] g P
      have hoc : ¬ oc A k s = true := fun z => by have := oc_b z; rw [b1] at this; cases this
      have es : oS (ocf A N s) (k + 1) = oS (ocf A N s) k := by show oS (ocf A N s) k + ocf A N s k = _; rw [show ocf A N s k = 0 from if_neg hoc, Int.add_zero]
      exact ih (k + 1) (by omega) (by omega) l0 l3 l4 (by rw [es]; exact l5) l7
    · have b1 : s.testBit k = false := by cases q : s.testBit k with | true => exact absurd ((hs_t (by omega) (by omega)).mpr q) t2 | false => rfl
      show t_X d 215 164 lv [oI 0] g P
      refine tz_ne oml_164 (by decide) ⟨by omega, by omega⟩ (fun c5 => absurd c5 (by omega)) (fun c5 => ?_)
      show t_X d 215 167 lv [] g P
      refine t_0 oml_167 rfl (ld_a l0) ?_
      refine t_0 oml_168 rfl (ocq_196_69 (S_J hS).1) ?_
      show t_X d 215 171 lv [pvR 239] g P
      refine t_0 oml_171 rfl (ld_i l7) ?_
      have r6 := pb_a (S_J hS).1 oez_239 (j := (k : Int).toNat) (by omega) ogu_239 (show fA g 239 = mb from S_a hS 1 (Nat.le_of_ble_eq_true rfl))
      refine t_0 oml_173 rfl (pq_iv oez_239 rfl ⟨by omega, by omega⟩ (show fA g 239 = mb from S_a hS 1 (Nat.le_of_ble_eq_true rfl))) ?_
      show t_X d 215 174 lv [oI (mb ((k : Int).toNat))] g P
      rw [show mb (k : Int).toNat = (A k : Int) from (hA k (by omega)).1]
      show t_X d 215 174 lv [oI ((A k : Int))] g P
      refine t_0 oml_174 rfl (ld_i l4) ?_
      refine t_0 oml_176 rfl rfl ?_
      refine t_0 oml_177 rfl rfl ?_
      refine t_0 oml_178 rfl rfl ?_
      refine tx_ne oml_179 (by decide) (fun c7 => ?_) (fun c7 => ?_)
      · show t_X d 215 199 lv [] g P
        refine t_2 oml_199 rfl (w := (px_s1 lv 7 (oI ((k : Int) + 1)), [])) (pq_inc l7 (by decide)) ?_
        replace l0 : px_lg (px_s1 lv 7 (oI ((k : Int) + 1))) 0 = some (pvR 196) := s1_ne (by decide) (fun _ => rfl) l0
        replace l3 : px_lg (px_s1 lv 7 (oI ((k : Int) + 1))) 3 = some (oI (((2 ^ N - 1 : Nat) : Int))) := s1_ne (by decide) (fun _ => rfl) l3
        replace l4 : px_lg (px_s1 lv 7 (oI ((k : Int) + 1))) 4 = some (oI ((s : Int))) := s1_ne (by decide) (fun _ => rfl) l4
        replace l5 : px_lg (px_s1 lv 7 (oI ((k : Int) + 1))) 5 = some (.inr (.inl (Int64.ofInt (oc0 N s + oS (ocf A N s) k)))) := s1_ne (by decide) (fun z => absurd z (by decide)) l5
        have l7 : px_lg (px_s1 lv 7 (oI ((k : Int) + 1))) 7 = some (oI ((k : Int) + 1)) := s1_eq
        generalize px_s1 lv 7 (oI ((k : Int) + 1)) = lv8 at l0 l3 l4 l5 l7 ⊢
        show t_X d 215 202 lv8 [] g P
        refine t_1 oml_202 rfl (pb_goto (pc := 202) (by decide)) ?_
        show t_X d 215 148 lv8 [] g P
        have hoc : ¬ oc A k s = true := fun z => by unfold oc at z; rw [Bool.and_eq_true, beq_iff_eq] at z; exact c7 ((oc_2 (hA k (by omega)).2).mpr z.2)
        have es : oS (ocf A N s) (k + 1) = oS (ocf A N s) k := by show oS (ocf A N s) k + ocf A N s k = _; rw [show ocf A N s k = 0 from if_neg hoc, Int.add_zero]
        exact ih (k + 1) (by omega) (by omega) l0 l3 l4 (by rw [es]; exact l5) l7
      · show t_X d 215 182 lv [] g P
        refine t_0 oml_182 rfl (ld_l l5) ?_
        refine t_0 oml_184 rfl (ld_a l0) ?_
        refine t_0 oml_185 rfl (ocq_196_70 (S_J hS).1) ?_
        show t_X d 215 188 lv [pvR 240, .inr (.inl (Int64.ofInt (oc0 N s + oS (ocf A N s) k)))] g P
        refine t_0 oml_188 rfl (ld_i l4) ?_
        refine t_0 oml_190 rfl rfl ?_
        refine t_0 oml_191 rfl (ld_i l7) ?_
        refine t_0 oml_193 rfl rfl ?_
        refine t_0 oml_194 rfl (pq_orx (s := s) (k := k) (by omega) (by omega)) ?_
        refine t_0 oml_195 rfl (pq_lj oez_240 rfl ⟨by omega, by omega⟩) ?_
        have hoc : oc A k s = true := by unfold oc; rw [b1, beq_iff_eq.mpr ((oc_2 (hA k (by omega)).2).mp c7)]; rfl
        rw [show fL g 240 ((s ||| 2 ^ k : Nat) : Int).toNat = Int64.ofInt (oF A N (s ||| 2 ^ k)) from hL _ (ob_lt b1) hx]
        show t_X d 215 196 lv [.inr (.inl (Int64.ofInt (oF A N (s ||| 2 ^ k)))), .inr (.inl (Int64.ofInt (oc0 N s + oS (ocf A N s) k)))] g P
        refine t_0 oml_196 rfl rfl ?_
        show t_X d 215 197 lv [.inr (.inl ((Int64.ofInt (oc0 N s + oS (ocf A N s) k)) + (Int64.ofInt (oF A N (s ||| 2 ^ k)))))] g P
        rw [show Int64.ofInt (oc0 N s + oS (ocf A N s) k) + Int64.ofInt (oF A N (s ||| 2 ^ k)) = Int64.ofInt (oc0 N s + oS (ocf A N s) (k + 1)) from by rw [← Int64.ofInt_add, Int.add_assoc]; congr 2; show _ = oS (ocf A N s) k + ocf A N s k; rw [show ocf A N s k = oF A N (s ||| 2 ^ k) from if_pos hoc]]
        show t_X d 215 197 lv [.inr (.inl (Int64.ofInt (oc0 N s + oS (ocf A N s) (k + 1))))] g P
        refine t_2 oml_197 rfl (w := (px_s2 lv 5 (.inr (.inl (Int64.ofInt (oc0 N s + oS (ocf A N s) (k + 1))))), [])) rfl ?_
        replace l0 : px_lg (px_s2 lv 5 (.inr (.inl (Int64.ofInt (oc0 N s + oS (ocf A N s) (k + 1)))))) 0 = some (pvR 196) := s2_ne (by decide) (fun _ => rfl) l0
        replace l3 : px_lg (px_s2 lv 5 (.inr (.inl (Int64.ofInt (oc0 N s + oS (ocf A N s) (k + 1)))))) 3 = some (oI (((2 ^ N - 1 : Nat) : Int))) := s2_ne (by decide) (fun _ => rfl) l3
        replace l4 : px_lg (px_s2 lv 5 (.inr (.inl (Int64.ofInt (oc0 N s + oS (ocf A N s) (k + 1)))))) 4 = some (oI ((s : Int))) := s2_ne (by decide) (fun _ => rfl) l4
        replace l7 : px_lg (px_s2 lv 5 (.inr (.inl (Int64.ofInt (oc0 N s + oS (ocf A N s) (k + 1)))))) 7 = some (oI ((k : Int))) := s2_ne (by decide) (fun _ => rfl) l7
        have l5 : px_lg (px_s2 lv 5 (.inr (.inl (Int64.ofInt (oc0 N s + oS (ocf A N s) (k + 1)))))) 5 = some (.inr (.inl (Int64.ofInt (oc0 N s + oS (ocf A N s) (k + 1))))) := s2_eq
        generalize px_s2 lv 5 (.inr (.inl (Int64.ofInt (oc0 N s + oS (ocf A N s) (k + 1))))) = lv9 at l0 l3 l4 l7 l5 ⊢
        show t_X d 215 199 lv9 [] g P
        refine t_2 oml_199 rfl (w := (px_s1 lv9 7 (oI ((k : Int) + 1)), [])) (pq_inc l7 (by decide)) ?_
        replace l0 : px_lg (px_s1 lv9 7 (oI ((k : Int) + 1))) 0 = some (pvR 196) := s1_ne (by decide) (fun _ => rfl) l0
        replace l3 : px_lg (px_s1 lv9 7 (oI ((k : Int) + 1))) 3 = some (oI (((2 ^ N - 1 : Nat) : Int))) := s1_ne (by decide) (fun _ => rfl) l3
        replace l4 : px_lg (px_s1 lv9 7 (oI ((k : Int) + 1))) 4 = some (oI ((s : Int))) := s1_ne (by decide) (fun _ => rfl) l4
        replace l5 : px_lg (px_s1 lv9 7 (oI ((k : Int) + 1))) 5 = some (.inr (.inl (Int64.ofInt (oc0 N s + oS (ocf A N s) (k + 1))))) := s1_ne (by decide) (fun z => absurd z (by decide)) l5
        have l7 : px_lg (px_s1 lv9 7 (oI ((k : Int) + 1))) 7 = some (oI ((k : Int) + 1)) := s1_eq
        generalize px_s1 lv9 7 (oI ((k : Int) + 1)) = lv10 at l0 l3 l4 l5 l7 ⊢
        show t_X d 215 202 lv10 [] g P
        refine t_1 oml_202 rfl (pb_goto (pc := 202) (by decide)) ?_
        show t_X d 215 148 lv10 [] g P
        exact ih (k + 1) (by omega) (by omega) l0 l3 l4 l5 l7
set_option maxHeartbeats 4000000 in
theorem omlL3 {d N : Nat} (hd : 2 ≤ d) (hN : N ≤ 12) {A : Nat → Nat} {g0 : pH} {sp mb : tC} (hA : oAh A N mb) {P : Option pv × pH → Prop} (hP : ∀ (g : pH) (mb : tC), mE g0 g N sp mb → P (some (.inr (.inl (Int64.ofInt (oF A N 0)))), g)) : ∀ (m : Nat) (x : Int) (g : pH), x + 1 ≤ m → -1 ≤ x ∧ x < ((2 ^ N : Nat) : Int) → (∀ T : Nat, x < T → T < 2 ^ N → fL g 240 T = Int64.ofInt (oF A N T)) → mE g0 g N sp mb → ∀ {lv : List (Nat × pv)}, px_lg lv 0 = some (pvR 196) → px_lg lv 3 = some (oI ((2 ^ N - 1 : Nat) : Int)) → px_lg lv 4 = some (oI x) → t_X d 215 127 lv [] g P := by
  have hp := pw_12 hN
  have hp1 : 1 ≤ 2 ^ N := Nat.one_le_two_pow
  intro m
  induction m with
  | zero =>
    intro x g hm hs hL hS lv l0 l3 l4
    refine t_0 oml_127 rfl (ld_i l4) ?_
    refine tz_lt oml_129 (by decide) ⟨by omega, by omega⟩ (fun c1 => ?_) (fun c1 => absurd c1 (by omega))
    show t_X d 215 220 lv [] g P
    refine t_0 oml_220 rfl (ld_a l0) ?_
    refine t_0 oml_221 rfl (ocq_196_70 (S_J hS).1) ?_
    show t_X d 215 224 lv [pvR 240] g P
    refine t_0 oml_224 rfl rfl ?_
    refine t_0 oml_225 rfl (pq_lj oez_240 rfl ⟨by decide, by decide⟩) ?_
    refine t_5 oml_226 rfl rfl ?_
    rw [show fL g 240 (0 : Int).toNat = Int64.ofInt (oF A N 0) from hL 0 (by omega) (by omega)]
    exact hP _ _ hS
  | succ m ih =>
    intro x g hm hs hL hS lv l0 l3 l4
    by_cases hsN : x < 0
    · refine t_0 oml_127 rfl (ld_i l4) ?_
      refine tz_lt oml_129 (by decide) ⟨by omega, by omega⟩ (fun c1 => ?_) (fun c1 => absurd c1 (by omega))
      show t_X d 215 220 lv [] g P
      refine t_0 oml_220 rfl (ld_a l0) ?_
      refine t_0 oml_221 rfl (ocq_196_70 (S_J hS).1) ?_
      show t_X d 215 224 lv [pvR 240] g P
      refine t_0 oml_224 rfl rfl ?_
      refine t_0 oml_225 rfl (pq_lj oez_240 rfl ⟨by decide, by decide⟩) ?_
      refine t_5 oml_226 rfl rfl ?_
      rw [show fL g 240 (0 : Int).toNat = Int64.ofInt (oF A N 0) from hL 0 (by omega) (by omega)]
      exact hP _ _ hS
    obtain ⟨s, rfl⟩ : ∃ s : Nat, x = s := ⟨x.toNat, by omega⟩
    replace hL : ∀ T : Nat, s < T → T < 2 ^ N → fL g 240 T = Int64.ofInt (oF A N T) := fun T h1 h2 => hL T (by omega) h2
    refine t_0 oml_127 rfl (ld_i l4) ?_
    refine tz_lt oml_129 (by decide) ⟨by omega, by omega⟩ (fun c1 => absurd c1 (by omega)) (fun c1 => ?_)
    show t_X d 215 132 lv [] g P
    refine t_0 oml_132 rfl (ld_i l4) ?_
    refine t_0 oml_134 rfl (ld_i l3) ?_
    refine tb_ne oml_135 (by decide) ⟨by omega, by omega⟩ ⟨by omega, by omega⟩ (fun c2 => ?_) (fun c2 => ?_)
    · show t_X d 215 142 lv [] g P
      refine t_0 oml_142 rfl rfl ?_
      refine t_2 oml_143 rfl (w := (px_s2 lv 5 (.inr (.inl (Int64.ofNat 0))), [])) rfl ?_
      replace l0 : px_lg (px_s2 lv 5 (.inr (.inl (Int64.ofNat 0)))) 0 = some (pvR 196) := s2_ne (by decide) (fun _ => rfl) l0
      replace l3 : px_lg (px_s2 lv 5 (.inr (.inl (Int64.ofNat 0)))) 3 = some (oI (((2 ^ N - 1 : Nat) : Int))) := s2_ne (by decide) (fun _ => rfl) l3
      replace l4 : px_lg (px_s2 lv 5 (.inr (.inl (Int64.ofNat 0)))) 4 = some (oI ((s : Int))) := s2_ne (by decide) (fun _ => rfl) l4
      have l5 : px_lg (px_s2 lv 5 (.inr (.inl (Int64.ofNat 0)))) 5 = some (.inr (.inl (Int64.ofNat 0))) := s2_eq
      generalize px_s2 lv 5 (.inr (.inl (Int64.ofNat 0))) = lv3 at l0 l3 l4 l5 ⊢
      show t_X d 215 145 lv3 [] g P
      refine t_0 oml_145 rfl rfl ?_
      refine t_2 oml_146 rfl (w := (px_s1 lv3 7 (oI 0), [])) rfl ?_
      replace l0 : px_lg (px_s1 lv3 7 (oI 0)) 0 = some (pvR 196) := s1_ne (by decide) (fun _ => rfl) l0
      replace l3 : px_lg (px_s1 lv3 7 (oI 0)) 3 = some (oI (((2 ^ N - 1 : Nat) : Int))) := s1_ne (by decide) (fun _ => rfl) l3
      replace l4 : px_lg (px_s1 lv3 7 (oI 0)) 4 = some (oI ((s : Int))) := s1_ne (by decide) (fun _ => rfl) l4
      replace l5 : px_lg (px_s1 lv3 7 (oI 0)) 5 = some (.inr (.inl (Int64.ofNat 0))) := s1_ne (by decide) (fun z => absurd z (by decide)) l5
      have l7 : px_lg (px_s1 lv3 7 (oI 0)) 7 = some (oI 0) := s1_eq
      generalize px_s1 lv3 7 (oI 0) = lv4 at l0 l3 l4 l5 l7 ⊢
      show t_X d 215 148 lv4 [] g P
      refine omlL4 hd hN hA (by omega) hS hL (fun {lv9} l0 l3 l4 l5 => ?_) N 0 (by omega) (by omega) l0 l3 l4 (by rw [show Int64.ofInt (oc0 N s + oS (ocf A N s) 0) = Int64.ofNat 0 from by show Int64.ofInt (oc0 N s + 0) = _; rw [Int.add_zero, show oc0 N s = 0 from if_neg (by omega)]; rfl]; exact l5) l7
      rw [oF_0 (by omega)] at l5
      show t_X d 215 205 lv9 [] g P
      refine t_0 oml_205 rfl (ld_a l0) ?_
      refine t_0 oml_206 rfl (ocq_196_70 (S_J hS).1) ?_
      show t_X d 215 209 lv9 [pvR 240] g P
      refine t_0 oml_209 rfl (ld_i l4) ?_
      refine t_0 oml_211 rfl (ld_l l5) ?_
      refine tw_l oml_213 (S_J hS) oez_240 rfl jMo_b.2.2.2.2 ogu_240 ⟨by omega, by omega⟩ (fun g1 J1 a1 a2 a3 a4 => ?_)
      have hS1 : mE g0 g1 N sp mb := S_lw hS J1 a1 a2
      show t_X d 215 214 lv9 [] g1 P
      refine t_2 oml_214 rfl (w := (px_s1 lv9 4 (oI ((s : Int) + (-1))), [])) (pq_inc l4 (by decide)) ?_
      replace l0 : px_lg (px_s1 lv9 4 (oI ((s : Int) + (-1)))) 0 = some (pvR 196) := s1_ne (by decide) (fun _ => rfl) l0
      replace l3 : px_lg (px_s1 lv9 4 (oI ((s : Int) + (-1)))) 3 = some (oI (((2 ^ N - 1 : Nat) : Int))) := s1_ne (by decide) (fun _ => rfl) l3
      replace l5 : px_lg (px_s1 lv9 4 (oI ((s : Int) + (-1)))) 5 = some (.inr (.inl (Int64.ofInt (oF A N s)))) := s1_ne (by decide) (fun z => absurd z (by decide)) l5
      have l4 : px_lg (px_s1 lv9 4 (oI ((s : Int) + (-1)))) 4 = some (oI ((s : Int) + (-1))) := s1_eq
      generalize px_s1 lv9 4 (oI ((s : Int) + (-1))) = lv5 at l0 l3 l5 l4 ⊢
      show t_X d 215 217 lv5 [] g1 P
      refine t_1 oml_217 rfl (pb_goto (pc := 217) (by decide)) ?_
      show t_X d 215 127 lv5 [] g1 P
      refine ih ((s : Int) + (-1)) _ (by omega) ⟨by omega, by omega⟩ (fun T h1 h2 => ?_) hS1 l0 l3 l4
      by_cases e : T = s
      · rw [e]; exact a3
      · exact (a4 T (fun z => e (by rw [z]; rfl))).trans (hL T (by omega) h2)
    · show t_X d 215 138 lv [] g P
      refine t_0 oml_138 rfl rfl ?_
      refine t_1 oml_139 rfl (pb_goto (pc := 139) (by decide)) ?_
      show t_X d 215 143 lv [.inr (.inl (Int64.ofNat 1))] g P
      refine t_2 oml_143 rfl (w := (px_s2 lv 5 (.inr (.inl (Int64.ofNat 1))), [])) rfl ?_
      replace l0 : px_lg (px_s2 lv 5 (.inr (.inl (Int64.ofNat 1)))) 0 = some (pvR 196) := s2_ne (by decide) (fun _ => rfl) l0
      replace l3 : px_lg (px_s2 lv 5 (.inr (.inl (Int64.ofNat 1)))) 3 = some (oI (((2 ^ N - 1 : Nat) : Int))) := s2_ne (by decide) (fun _ => rfl) l3
      replace l4 : px_lg (px_s2 lv 5 (.inr (.inl (Int64.ofNat 1)))) 4 = some (oI ((s : Int))) := s2_ne (by decide) (fun _ => rfl) l4
      have l5 : px_lg (px_s2 lv 5 (.inr (.inl (Int64.ofNat 1)))) 5 = some (.inr (.inl (Int64.ofNat 1))) := s2_eq
      generalize px_s2 lv 5 (.inr (.inl (Int64.ofNat 1))) = lv6 at l0 l3 l4 l5 ⊢
      show t_X d 215 145 lv6 [] g P
      refine t_0 oml_145 rfl rfl ?_
      refine t_2 oml_146 rfl (w := (px_s1 lv6 7 (oI 0), [])) rfl ?_
      replace l0 : px_lg (px_s1 lv6 7 (oI 0)) 0 = some (pvR 196) := s1_ne (by decide) (fun _ => rfl) l0
      replace l3 : px_lg (px_s1 lv6 7 (oI 0)) 3 = some (oI (((2 ^ N - 1 : Nat) : Int))) := s1_ne (by decide) (fun _ => rfl) l3
      replace l4 : px_lg (px_s1 lv6 7 (oI 0)) 4 = some (oI ((s : Int))) := s1_ne (by decide) (fun _ => rfl) l4
      replace l5 : px_lg (px_s1 lv6 7 (oI 0)) 5 = some (.inr (.inl (Int64.ofNat 1))) := s1_ne (by decide) (fun z => absurd z (by decide)) l5
      have l7 : px_lg (px_s1 lv6 7 (oI 0)) 7 = some (oI 0) := s1_eq
      generalize px_s1 lv6 7 (oI 0) = lv7 at l0 l3 l4 l5 l7 ⊢
      show t_X d 215 148 lv7 [] g P
      refine omlL4 hd hN hA (by omega) hS hL (fun {lv9} l0 l3 l4 l5 => ?_) N 0 (by omega) (by omega) l0 l3 l4 (by rw [show Int64.ofInt (oc0 N s + oS (ocf A N s) 0) = Int64.ofNat 1 from by show Int64.ofInt (oc0 N s + 0) = _; rw [Int.add_zero, show oc0 N s = 1 from if_pos (by omega)]; rfl]; exact l5) l7
      rw [oF_0 (by omega)] at l5
      show t_X d 215 205 lv9 [] g P
      refine t_0 oml_205 rfl (ld_a l0) ?_
      refine t_0 oml_206 rfl (ocq_196_70 (S_J hS).1) ?_
      show t_X d 215 209 lv9 [pvR 240] g P
      refine t_0 oml_209 rfl (ld_i l4) ?_
      refine t_0 oml_211 rfl (ld_l l5) ?_
      refine tw_l oml_213 (S_J hS) oez_240 rfl jMo_b.2.2.2.2 ogu_240 ⟨by omega, by omega⟩ (fun g1 J1 a1 a2 a3 a4 => ?_)
      have hS1 : mE g0 g1 N sp mb := S_lw hS J1 a1 a2
      show t_X d 215 214 lv9 [] g1 P
      refine t_2 oml_214 rfl (w := (px_s1 lv9 4 (oI ((s : Int) + (-1))), [])) (pq_inc l4 (by decide)) ?_
      replace l0 : px_lg (px_s1 lv9 4 (oI ((s : Int) + (-1)))) 0 = some (pvR 196) := s1_ne (by decide) (fun _ => rfl) l0
      replace l3 : px_lg (px_s1 lv9 4 (oI ((s : Int) + (-1)))) 3 = some (oI (((2 ^ N - 1 : Nat) : Int))) := s1_ne (by decide) (fun _ => rfl) l3
      replace l5 : px_lg (px_s1 lv9 4 (oI ((s : Int) + (-1)))) 5 = some (.inr (.inl (Int64.ofInt (oF A N s)))) := s1_ne (by decide) (fun z => absurd z (by decide)) l5
      have l4 : px_lg (px_s1 lv9 4 (oI ((s : Int) + (-1)))) 4 = some (oI ((s : Int) + (-1))) := s1_eq
      generalize px_s1 lv9 4 (oI ((s : Int) + (-1))) = lv8 at l0 l3 l5 l4 ⊢
      show t_X d 215 217 lv8 [] g1 P
      refine t_1 oml_217 rfl (pb_goto (pc := 217) (by decide)) ?_
      show t_X d 215 127 lv8 [] g1 P
      refine ih ((s : Int) + (-1)) _ (by omega) ⟨by omega, by omega⟩ (fun T h1 h2 => ?_) hS1 l0 l3 l4
      by_cases e : T = s
      · rw [e]; exact a3
      · exact (a4 T (fun z => e (by rw [z]; rfl))).trans (hL T (by omega) h2)
set_option maxHeartbeats 1000000 in
theorem oml_n {d N : Nat} (hd : 2 ≤ d) (hN : N ≤ 12) {A : Nat → Nat} {g0 : pH} {sp mb : tC} (hA : oAh A N mb) {P : Option pv × pH → Prop} (hP : ∀ (g : pH) (mb : tC), mE g0 g N sp mb → P (some (.inr (.inl (Int64.ofInt (oF A N 0)))), g)) {q : Int} {g : pH} (hS : mE g0 g N sp mb) {lv : List (Nat × pv)} (l0 : px_lg lv 0 = some (pvR 196)) (l1 : px_lg lv 1 = some (oI (-1))) (l2 : px_lg lv 2 = some (oI q)) : t_X d 215 94 lv [] g P := by
  have hp := pw_12 hN
  have hp1 : 1 ≤ 2 ^ N := Nat.one_le_two_pow
  refine t_0 oml_94 rfl (ld_i l1) ?_
  refine t_0 oml_95 rfl rfl ?_
  refine tb_eq oml_96 (by decide) ⟨by omega, by omega⟩ ⟨by omega, by omega⟩ (fun c1 => ?_) (fun c1 => absurd c1 (by omega))
  show t_X d 215 115 lv [] g P
  refine t_0 oml_115 rfl rfl ?_
  refine t_0 oml_116 rfl (ld_a l0) ?_
  refine t_0 oml_117 rfl (pq_cv oeo_196 rfl (show cF g 196 71 = (N : Int) from S_f hS 0 (Nat.le_of_ble_eq_true rfl))) ?_
  show t_X d 215 120 lv [oI ((N : Int)), oI 1] g P
  refine t_0 oml_120 rfl rfl ?_
  refine t_0 oml_121 rfl rfl ?_
  refine t_0 oml_122 rfl rfl ?_
  show t_X d 215 123 lv [.inl (((Int32.ofInt (1)) <<< ((Int32.ofInt ((N : Int))) &&& 31)) - (Int32.ofInt (1)))] g P
  rw [allC hN]
  show t_X d 215 123 lv [oI (((2 ^ N - 1 : Nat) : Int))] g P
  refine t_2 oml_123 rfl (w := (px_s1 lv 3 (oI (((2 ^ N - 1 : Nat) : Int))), [])) rfl ?_
  replace l0 : px_lg (px_s1 lv 3 (oI (((2 ^ N - 1 : Nat) : Int)))) 0 = some (pvR 196) := s1_ne (by decide) (fun _ => rfl) l0
  replace l1 : px_lg (px_s1 lv 3 (oI (((2 ^ N - 1 : Nat) : Int)))) 1 = some (oI (-1)) := s1_ne (by decide) (fun _ => rfl) l1
  replace l2 : px_lg (px_s1 lv 3 (oI (((2 ^ N - 1 : Nat) : Int)))) 2 = some (oI (q)) := s1_ne (by decide) (fun _ => rfl) l2
  have l3 : px_lg (px_s1 lv 3 (oI (((2 ^ N - 1 : Nat) : Int)))) 3 = some (oI (((2 ^ N - 1 : Nat) : Int))) := s1_eq
  generalize px_s1 lv 3 (oI (((2 ^ N - 1 : Nat) : Int))) = lv2 at l0 l1 l2 l3 ⊢
  show t_X d 215 124 lv2 [] g P
  refine t_0 oml_124 rfl (ld_i l3) ?_
  refine t_2 oml_125 rfl (w := (px_s1 lv2 4 (oI (((2 ^ N - 1 : Nat) : Int))), [])) rfl ?_
  replace l0 : px_lg (px_s1 lv2 4 (oI (((2 ^ N - 1 : Nat) : Int)))) 0 = some (pvR 196) := s1_ne (by decide) (fun _ => rfl) l0
  replace l1 : px_lg (px_s1 lv2 4 (oI (((2 ^ N - 1 : Nat) : Int)))) 1 = some (oI (-1)) := s1_ne (by decide) (fun _ => rfl) l1
  replace l2 : px_lg (px_s1 lv2 4 (oI (((2 ^ N - 1 : Nat) : Int)))) 2 = some (oI (q)) := s1_ne (by decide) (fun _ => rfl) l2
  replace l3 : px_lg (px_s1 lv2 4 (oI (((2 ^ N - 1 : Nat) : Int)))) 3 = some (oI (((2 ^ N - 1 : Nat) : Int))) := s1_ne (by decide) (fun _ => rfl) l3
  have l4 : px_lg (px_s1 lv2 4 (oI (((2 ^ N - 1 : Nat) : Int)))) 4 = some (oI (((2 ^ N - 1 : Nat) : Int))) := s1_eq
  generalize px_s1 lv2 4 (oI (((2 ^ N - 1 : Nat) : Int))) = lv3 at l0 l1 l2 l3 l4 ⊢
  show t_X d 215 127 lv3 [] g P
  exact omlL3 hd hN hA hP (2 ^ N) _ _ (by omega) ⟨by omega, by omega⟩ (fun T h1 h2 => absurd h2 (by omega)) hS l0 l3 l4
set_option maxHeartbeats 1000000 in
theorem oml_x {d N : Nat} (hd : 2 ≤ d) (hN : N ≤ 12) {A : Nat → Nat} {g0 : pH} {sp mb : tC} (hA : oAh A N mb) {P : Option pv × pH → Prop} {x y : Nat} (hx : x < N) (hy : y < N) (hP : ∀ (g : pH) (mb : tC), mE g0 g N sp mb → P (some (.inr (.inl (Int64.ofInt (oR A N x y)))), g)) {g : pH} (hS : mE g0 g N sp mb) {lv : List (Nat × pv)} (l0 : px_lg lv 0 = some (pvR 196)) (l1 : px_lg lv 1 = some (oI (x : Int))) (l2 : px_lg lv 2 = some (oI (y : Int))) : t_X d 215 94 lv [] g P := by
  have hp := pw_12 hN
  have hp1 : 1 ≤ 2 ^ N := Nat.one_le_two_pow
  refine t_0 oml_94 rfl (ld_i l1) ?_
  refine t_0 oml_95 rfl rfl ?_
  refine tb_eq oml_96 (by decide) ⟨by omega, by omega⟩ ⟨by omega, by omega⟩ (fun c1 => absurd c1 (by omega)) (fun c1 => ?_)
  show t_X d 215 99 lv [] g P
  refine t_0 oml_99 rfl (ld_a l0) ?_
  refine t_0 oml_100 rfl (ocq_196_69 (S_J hS).1) ?_
  show t_X d 215 103 lv [pvR 239] g P
  refine t_0 oml_103 rfl (ld_i l2) ?_
  refine t_0 oml_104 rfl (ld_a l0) ?_
  refine t_0 oml_105 rfl (ocq_196_69 (S_J hS).1) ?_
  show t_X d 215 108 lv [pvR 239, oI ((y : Int)), pvR 239] g P
  refine t_0 oml_108 rfl (ld_i l2) ?_
  have r2 := pb_a (S_J hS).1 oez_239 (j := (y : Int).toNat) (by omega) ogu_239 (show fA g 239 = mb from S_a hS 1 (Nat.le_of_ble_eq_true rfl))
  refine t_0 oml_109 rfl (pq_iv oez_239 rfl ⟨by omega, by omega⟩ (show fA g 239 = mb from S_a hS 1 (Nat.le_of_ble_eq_true rfl))) ?_
  show t_X d 215 110 lv [oI (mb ((y : Int).toNat)), oI ((y : Int)), pvR 239] g P
  rw [show mb (y : Int).toNat = (A y : Int) from (hA y hy).1]
  show t_X d 215 110 lv [oI ((A y : Int)), oI ((y : Int)), pvR 239] g P
  refine t_0 oml_110 rfl rfl ?_
  refine t_0 oml_111 rfl (ld_i l1) ?_
  refine t_0 oml_112 rfl rfl ?_
  have hA4 := (hA y hy).2
  have hq2 : A y ||| 2 ^ x < 4096 := Nat.or_lt_two_pow (n := 12) hA4 (Nat.pow_lt_pow_right (by decide) (by omega))
  refine t_0 oml_113 rfl (pq_orx (s := A y) (k := x) (by omega) (by omega)) ?_
  refine ts_a (n := 1) rfl rfl (by decide) oml_114 hS oez_239 rfl wu_jMo_239 ogu_239 (by decide) ⟨by omega, by omega⟩ ⟨by omega, by omega⟩ (fun g3 hS3 => ?_)
  replace hS3 : mE g0 g3 (N : Int) sp (updI mb (y : Int).toNat ((A y ||| 2 ^ x : Nat) : Int)) := hS3
  show t_X d 215 115 lv [] g3 P
  replace hS3 : mE g0 g3 (N : Int) sp (updI mb y ((A y ||| 2 ^ x : Nat) : Int)) := hS3
  have hA2 : oAh (oA A x y) N (updI mb y ((A y ||| 2 ^ x : Nat) : Int)) := fun u hu => by
    unfold updI oA
    by_cases e : u = y
    · rw [if_pos e, if_pos e]; exact ⟨rfl, hq2⟩
    · rw [if_neg e, if_neg e]; exact hA u hu
  show t_X d 215 115 lv [] g3 P
  refine t_0 oml_115 rfl rfl ?_
  refine t_0 oml_116 rfl (ld_a l0) ?_
  refine t_0 oml_117 rfl (pq_cv oeo_196 rfl (show cF g3 196 71 = (N : Int) from S_f hS3 0 (Nat.le_of_ble_eq_true rfl))) ?_
  show t_X d 215 120 lv [oI ((N : Int)), oI 1] g3 P
  refine t_0 oml_120 rfl rfl ?_
  refine t_0 oml_121 rfl rfl ?_
  refine t_0 oml_122 rfl rfl ?_
  show t_X d 215 123 lv [.inl (((Int32.ofInt (1)) <<< ((Int32.ofInt ((N : Int))) &&& 31)) - (Int32.ofInt (1)))] g3 P
  rw [allC hN]
  show t_X d 215 123 lv [oI (((2 ^ N - 1 : Nat) : Int))] g3 P
  refine t_2 oml_123 rfl (w := (px_s1 lv 3 (oI (((2 ^ N - 1 : Nat) : Int))), [])) rfl ?_
  replace l0 : px_lg (px_s1 lv 3 (oI (((2 ^ N - 1 : Nat) : Int)))) 0 = some (pvR 196) := s1_ne (by decide) (fun _ => rfl) l0
  replace l1 : px_lg (px_s1 lv 3 (oI (((2 ^ N - 1 : Nat) : Int)))) 1 = some (oI ((x : Int))) := s1_ne (by decide) (fun _ => rfl) l1
  replace l2 : px_lg (px_s1 lv 3 (oI (((2 ^ N - 1 : Nat) : Int)))) 2 = some (oI ((y : Int))) := s1_ne (by decide) (fun _ => rfl) l2
  have l3 : px_lg (px_s1 lv 3 (oI (((2 ^ N - 1 : Nat) : Int)))) 3 = some (oI (((2 ^ N - 1 : Nat) : Int))) := s1_eq
  generalize px_s1 lv 3 (oI (((2 ^ N - 1 : Nat) : Int))) = lv4 at l0 l1 l2 l3 ⊢
  show t_X d 215 124 lv4 [] g3 P
  refine t_0 oml_124 rfl (ld_i l3) ?_
  refine t_2 oml_125 rfl (w := (px_s1 lv4 4 (oI (((2 ^ N - 1 : Nat) : Int))), [])) rfl ?_
  replace l0 : px_lg (px_s1 lv4 4 (oI (((2 ^ N - 1 : Nat) : Int)))) 0 = some (pvR 196) := s1_ne (by decide) (fun _ => rfl) l0
  replace l1 : px_lg (px_s1 lv4 4 (oI (((2 ^ N - 1 : Nat) : Int)))) 1 = some (oI ((x : Int))) := s1_ne (by decide) (fun _ => rfl) l1
  replace l2 : px_lg (px_s1 lv4 4 (oI (((2 ^ N - 1 : Nat) : Int)))) 2 = some (oI ((y : Int))) := s1_ne (by decide) (fun _ => rfl) l2
  replace l3 : px_lg (px_s1 lv4 4 (oI (((2 ^ N - 1 : Nat) : Int)))) 3 = some (oI (((2 ^ N - 1 : Nat) : Int))) := s1_ne (by decide) (fun _ => rfl) l3
  have l4 : px_lg (px_s1 lv4 4 (oI (((2 ^ N - 1 : Nat) : Int)))) 4 = some (oI (((2 ^ N - 1 : Nat) : Int))) := s1_eq
  generalize px_s1 lv4 4 (oI (((2 ^ N - 1 : Nat) : Int))) = lv5 at l0 l1 l2 l3 l4 ⊢
  show t_X d 215 127 lv5 [] g3 P
  exact omlL3 hd hN hA2 hP (2 ^ N) _ _ (by omega) ⟨by omega, by omega⟩ (fun T h1 h2 => absurd h2 (by omega)) hS3 l0 l3 l4
set_option maxHeartbeats 1000000 in
theorem omlL0 {d N : Nat} (hd : 2 ≤ d) (hN : N ≤ 12) {g0 : pH} {cl : Int} {sp ca cb : tC} (hcl : cF g0 196 22 = cl) (hca : fA g0 206 = ca) (hcb : fA g0 207 = cb) (hcl2 : 0 ≤ cl ∧ cl ≤ 24) {b : Nat → Bool} (hbN : cnt b 32 = N) (hsp : oNu b sp) {P : Option pv × pH → Prop} {p q : Int} (hC : ∀ (g : pH) (mb : tC), oAh (oCk (oz_ b) ca cb cl.toNat) N mb → mE g0 g N sp mb → ∀ {lv : List (Nat × pv)}, px_lg lv 0 = some (pvR 196) → px_lg lv 1 = some (oI p) → px_lg lv 2 = some (oI q) → t_X d 215 94 lv [] g P) {g : pH} {mb : tC} (hS : mE g0 g N sp mb) {lv : List (Nat × pv)} (l0 : px_lg lv 0 = some (pvR 196)) (l1 : px_lg lv 1 = some (oI p)) (l2 : px_lg lv 2 = some (oI q)) : t_X d 215 0 lv [] g P := by
  refine t_0 oml_0 rfl rfl ?_
  refine t_2 oml_1 rfl (w := (px_s1 lv 3 (oI 0), [])) rfl ?_
  replace l0 : px_lg (px_s1 lv 3 (oI 0)) 0 = some (pvR 196) := s1_ne (by decide) (fun _ => rfl) l0
  replace l1 : px_lg (px_s1 lv 3 (oI 0)) 1 = some (oI (p)) := s1_ne (by decide) (fun _ => rfl) l1
  replace l2 : px_lg (px_s1 lv 3 (oI 0)) 2 = some (oI (q)) := s1_ne (by decide) (fun _ => rfl) l2
  have l3 : px_lg (px_s1 lv 3 (oI 0)) 3 = some (oI 0) := s1_eq
  generalize px_s1 lv 3 (oI 0) = lv1 at l0 l1 l2 l3 ⊢
  show t_X d 215 2 lv1 [] g P
  refine omlL1 hN (fun g8 mb8 hz8 hS8 {lv8} l0 l1 l2 => ?_) N 0 _ (by omega) (by omega) (fun u hu => absurd hu (Nat.not_lt_zero _)) hS l0 l1 l2 l3
  show t_X d 215 23 lv8 [] g8 P
  refine t_0 oml_23 rfl rfl ?_
  refine t_2 oml_24 rfl (w := (px_s1 lv8 3 (oI 0), [])) rfl ?_
  replace l0 : px_lg (px_s1 lv8 3 (oI 0)) 0 = some (pvR 196) := s1_ne (by decide) (fun _ => rfl) l0
  replace l1 : px_lg (px_s1 lv8 3 (oI 0)) 1 = some (oI (p)) := s1_ne (by decide) (fun _ => rfl) l1
  replace l2 : px_lg (px_s1 lv8 3 (oI 0)) 2 = some (oI (q)) := s1_ne (by decide) (fun _ => rfl) l2
  have l3 : px_lg (px_s1 lv8 3 (oI 0)) 3 = some (oI 0) := s1_eq
  generalize px_s1 lv8 3 (oI 0) = lv2 at l0 l1 l2 l3 ⊢
  show t_X d 215 25 lv2 [] g8 P
  exact omlL2 hd hN hcl hca hcb hcl2 hbN hsp (fun g9 mb9 hah9 hS9 {lv9} u0 u1 u2 => hC g9 mb9 (fun u hu => ⟨hah9 u hu, oCk_b (by omega)⟩) hS9 u0 u1 u2) 24 0 _ (by omega) (by omega) hz8 hS8 l0 l1 l2 l3
