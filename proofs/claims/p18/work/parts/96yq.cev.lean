/-! the law of the class as it is asked, exactly (printed by wip/e2/x7.py) -/
theorem rjo_0 : xe_look (xc 35) 0 = some (.iload_n 1, 1, 0, 0, 0) := by decide +kernel
theorem rjo_1 : xe_look (xc 35) 1 = some (.tableswitch 92 2 9 #[47, 51, 55, 92, 92, 59, 70, 81], 47, 0, 0, 0) := by decide +kernel
theorem rjo_48 : xe_look (xc 35) 48 = some (.iload_n 2, 1, 0, 0, 0) := by decide +kernel
theorem rjo_49 : xe_look (xc 35) 49 = some (.iload_n 3, 1, 0, 0, 0) := by decide +kernel
theorem rjo_50 : xe_look (xc 35) 50 = some (.iadd, 1, 0, 0, 0) := by decide +kernel
theorem rjo_51 : xe_look (xc 35) 51 = some (.ireturn, 1, 0, 0, 0) := by decide +kernel
theorem rjo_52 : xe_look (xc 35) 52 = some (.iload_n 2, 1, 0, 0, 0) := by decide +kernel
theorem rjo_53 : xe_look (xc 35) 53 = some (.iload_n 3, 1, 0, 0, 0) := by decide +kernel
theorem rjo_54 : xe_look (xc 35) 54 = some (.isub, 1, 0, 0, 0) := by decide +kernel
theorem rjo_55 : xe_look (xc 35) 55 = some (.ireturn, 1, 0, 0, 0) := by decide +kernel
theorem rjo_56 : xe_look (xc 35) 56 = some (.iload_n 2, 1, 0, 0, 0) := by decide +kernel
theorem rjo_57 : xe_look (xc 35) 57 = some (.iload_n 3, 1, 0, 0, 0) := by decide +kernel
theorem rjo_58 : xe_look (xc 35) 58 = some (.imul, 1, 0, 0, 0) := by decide +kernel
theorem rjo_59 : xe_look (xc 35) 59 = some (.ireturn, 1, 0, 0, 0) := by decide +kernel
theorem rjo_60 : xe_look (xc 35) 60 = some (.iload_n 2, 1, 0, 0, 0) := by decide +kernel
theorem rjo_61 : xe_look (xc 35) 61 = some (.iload_n 3, 1, 0, 0, 0) := by decide +kernel
theorem rjo_62 : xe_look (xc 35) 62 = some (.if_icmp .ge 7, 3, 0, 0, 0) := by decide +kernel
theorem rjo_65 : xe_look (xc 35) 65 = some (.iconst 1, 1, 0, 0, 0) := by decide +kernel
theorem rjo_66 : xe_look (xc 35) 66 = some (.goto 4, 3, 0, 0, 0) := by decide +kernel
theorem rjo_69 : xe_look (xc 35) 69 = some (.iconst 0, 1, 0, 0, 0) := by decide +kernel
theorem rjo_70 : xe_look (xc 35) 70 = some (.ireturn, 1, 0, 0, 0) := by decide +kernel
theorem rjo_71 : xe_look (xc 35) 71 = some (.iload_n 2, 1, 0, 0, 0) := by decide +kernel
theorem rjo_72 : xe_look (xc 35) 72 = some (.iload_n 3, 1, 0, 0, 0) := by decide +kernel
theorem rjo_73 : xe_look (xc 35) 73 = some (.if_icmp .le 7, 3, 0, 0, 0) := by decide +kernel
theorem rjo_76 : xe_look (xc 35) 76 = some (.iconst 1, 1, 0, 0, 0) := by decide +kernel
theorem rjo_77 : xe_look (xc 35) 77 = some (.goto 4, 3, 0, 0, 0) := by decide +kernel
theorem rjo_80 : xe_look (xc 35) 80 = some (.iconst 0, 1, 0, 0, 0) := by decide +kernel
theorem rjo_81 : xe_look (xc 35) 81 = some (.ireturn, 1, 0, 0, 0) := by decide +kernel
theorem rjo_82 : xe_look (xc 35) 82 = some (.iload_n 2, 1, 0, 0, 0) := by decide +kernel
theorem rjo_83 : xe_look (xc 35) 83 = some (.iload_n 3, 1, 0, 0, 0) := by decide +kernel
theorem rjo_84 : xe_look (xc 35) 84 = some (.if_icmp .ne 7, 3, 0, 0, 0) := by decide +kernel
theorem rjo_87 : xe_look (xc 35) 87 = some (.iconst 1, 1, 0, 0, 0) := by decide +kernel
theorem rjo_88 : xe_look (xc 35) 88 = some (.goto 4, 3, 0, 0, 0) := by decide +kernel
theorem rjo_91 : xe_look (xc 35) 91 = some (.iconst 0, 1, 0, 0, 0) := by decide +kernel
theorem rjo_92 : xe_look (xc 35) 92 = some (.ireturn, 1, 0, 0, 0) := by decide +kernel
theorem rjo_93 : xe_look (xc 35) 93 = some (.aload_n 0, 1, 0, 0, 0) := by decide +kernel
theorem rjo_94 : xe_look (xc 35) 94 = some (.iload_n 3, 1, 0, 0, 0) := by decide +kernel
theorem rjo_95 : xe_look (xc 35) 95 = some (.ifCond .ne 7, 3, 0, 0, 0) := by decide +kernel
theorem rjo_98 : xe_look (xc 35) 98 = some (.iconst 1, 1, 0, 0, 0) := by decide +kernel
theorem rjo_99 : xe_look (xc 35) 99 = some (.goto 4, 3, 0, 0, 0) := by decide +kernel
theorem rjo_102 : xe_look (xc 35) 102 = some (.iconst 0, 1, 0, 0, 0) := by decide +kernel
theorem rjo_103 : xe_look (xc 35) 103 = some (.putfield 57, 3, 3, 2, 845) := by decide +kernel
theorem rjo_106 : xe_look (xc 35) 106 = some (.aload_n 0, 1, 0, 0, 0) := by decide +kernel
theorem rjo_107 : xe_look (xc 35) 107 = some (.getfield 57, 3, 3, 2, 845) := by decide +kernel
theorem rjo_110 : xe_look (xc 35) 110 = some (.ifCond .eq 5, 3, 0, 0, 0) := by decide +kernel
theorem rjo_113 : xe_look (xc 35) 113 = some (.iconst 0, 1, 0, 0, 0) := by decide +kernel
theorem rjo_114 : xe_look (xc 35) 114 = some (.ireturn, 1, 0, 0, 0) := by decide +kernel
theorem rjo_115 : xe_look (xc 35) 115 = some (.iload_n 1, 1, 0, 0, 0) := by decide +kernel
theorem rjo_116 : xe_look (xc 35) 116 = some (.iconst 5, 1, 0, 0, 0) := by decide +kernel
theorem rjo_117 : xe_look (xc 35) 117 = some (.if_icmp .ne 9, 3, 0, 0, 0) := by decide +kernel
theorem rjo_120 : xe_look (xc 35) 120 = some (.iload_n 2, 1, 0, 0, 0) := by decide +kernel
theorem rjo_121 : xe_look (xc 35) 121 = some (.iload_n 3, 1, 0, 0, 0) := by decide +kernel
theorem rjo_122 : xe_look (xc 35) 122 = some (.idiv, 1, 0, 0, 0) := by decide +kernel
theorem rjo_123 : xe_look (xc 35) 123 = some (.goto 6, 3, 0, 0, 0) := by decide +kernel
theorem rjo_126 : xe_look (xc 35) 126 = some (.iload_n 2, 1, 0, 0, 0) := by decide +kernel
theorem rjo_127 : xe_look (xc 35) 127 = some (.iload_n 3, 1, 0, 0, 0) := by decide +kernel
theorem rjo_128 : xe_look (xc 35) 128 = some (.irem, 1, 0, 0, 0) := by decide +kernel
theorem rjo_129 : xe_look (xc 35) 129 = some (.ireturn, 1, 0, 0, 0) := by decide +kernel
theorem rre_0 : xe_look (xc 38) 0 = some (.iconst (-1), 1, 0, 0, 0) := by decide +kernel
theorem rre_1 : xe_look (xc 38) 1 = some (.istore 4, 2, 0, 0, 0) := by decide +kernel
theorem rre_3 : xe_look (xc 38) 3 = some (.aload_n 0, 1, 0, 0, 0) := by decide +kernel
theorem rre_4 : xe_look (xc 38) 4 = some (.iconst 0, 1, 0, 0, 0) := by decide +kernel
theorem rre_5 : xe_look (xc 38) 5 = some (.putfield 57, 3, 3, 2, 845) := by decide +kernel
theorem rre_8 : xe_look (xc 38) 8 = some (.iload_n 1, 1, 0, 0, 0) := by decide +kernel
theorem rre_9 : xe_look (xc 38) 9 = some (.istore 5, 2, 0, 0, 0) := by decide +kernel
theorem rre_11 : xe_look (xc 38) 11 = some (.iload 5, 2, 0, 0, 0) := by decide +kernel
theorem rre_13 : xe_look (xc 38) 13 = some (.iload_n 2, 1, 0, 0, 0) := by decide +kernel
theorem rre_14 : xe_look (xc 38) 14 = some (.if_icmp .ge 275, 3, 0, 0, 0) := by decide +kernel
theorem rre_17 : xe_look (xc 38) 17 = some (.iload 5, 2, 0, 0, 0) := by decide +kernel
theorem rre_19 : xe_look (xc 38) 19 = some (.sipush 240, 3, 0, 0, 0) := by decide +kernel
theorem rre_22 : xe_look (xc 38) 22 = some (.if_icmp .ge 267, 3, 0, 0, 0) := by decide +kernel
theorem rre_25 : xe_look (xc 38) 25 = some (.aload_n 0, 1, 0, 0, 0) := by decide +kernel
theorem rre_26 : xe_look (xc 38) 26 = some (.getfield 9, 3, 3, 3, 838) := by decide +kernel
theorem rre_29 : xe_look (xc 38) 29 = some (.iload 5, 2, 0, 0, 0) := by decide +kernel
theorem rre_31 : xe_look (xc 38) 31 = some (.iaload, 1, 0, 0, 0) := by decide +kernel
theorem rre_32 : xe_look (xc 38) 32 = some (.istore 6, 2, 0, 0, 0) := by decide +kernel
theorem rre_34 : xe_look (xc 38) 34 = some (.aload_n 0, 1, 0, 0, 0) := by decide +kernel
theorem rre_35 : xe_look (xc 38) 35 = some (.getfield 15, 3, 3, 4, 839) := by decide +kernel
theorem rre_38 : xe_look (xc 38) 38 = some (.iload 5, 2, 0, 0, 0) := by decide +kernel
theorem rre_40 : xe_look (xc 38) 40 = some (.iaload, 1, 0, 0, 0) := by decide +kernel
theorem rre_41 : xe_look (xc 38) 41 = some (.istore 7, 2, 0, 0, 0) := by decide +kernel
theorem rre_43 : xe_look (xc 38) 43 = some (.iload 6, 2, 0, 0, 0) := by decide +kernel
theorem rre_45 : xe_look (xc 38) 45 = some (.ifCond .eq 9, 3, 0, 0, 0) := by decide +kernel
theorem rre_48 : xe_look (xc 38) 48 = some (.iload 6, 2, 0, 0, 0) := by decide +kernel
theorem rre_50 : xe_look (xc 38) 50 = some (.iconst 1, 1, 0, 0, 0) := by decide +kernel
theorem rre_51 : xe_look (xc 38) 51 = some (.if_icmp .ne 60, 3, 0, 0, 0) := by decide +kernel
theorem rre_54 : xe_look (xc 38) 54 = some (.iload 4, 2, 0, 0, 0) := by decide +kernel
theorem rre_56 : xe_look (xc 38) 56 = some (.iconst 1, 1, 0, 0, 0) := by decide +kernel
theorem rre_57 : xe_look (xc 38) 57 = some (.iadd, 1, 0, 0, 0) := by decide +kernel
theorem rre_58 : xe_look (xc 38) 58 = some (.bipush 40, 2, 0, 0, 0) := by decide +kernel
theorem rre_60 : xe_look (xc 38) 60 = some (.if_icmp .ge 22, 3, 0, 0, 0) := by decide +kernel
theorem rre_63 : xe_look (xc 38) 63 = some (.iload 6, 2, 0, 0, 0) := by decide +kernel
theorem rre_65 : xe_look (xc 38) 65 = some (.iconst 1, 1, 0, 0, 0) := by decide +kernel
theorem rre_66 : xe_look (xc 38) 66 = some (.if_icmp .ne 18, 3, 0, 0, 0) := by decide +kernel
theorem rre_69 : xe_look (xc 38) 69 = some (.iload 7, 2, 0, 0, 0) := by decide +kernel
theorem rre_71 : xe_look (xc 38) 71 = some (.iconst 0, 1, 0, 0, 0) := by decide +kernel
theorem rre_72 : xe_look (xc 38) 72 = some (.aload_n 3, 1, 0, 0, 0) := by decide +kernel
theorem rre_73 : xe_look (xc 38) 73 = some (.arraylength, 1, 0, 0, 0) := by decide +kernel
theorem rre_74 : xe_look (xc 38) 74 = some (.iconst 1, 1, 0, 0, 0) := by decide +kernel
theorem rre_75 : xe_look (xc 38) 75 = some (.isub, 1, 0, 0, 0) := by decide +kernel
theorem rre_76 : xe_look (xc 38) 76 = some (.invokestatic 40, 3, 1, 124, 2) := by decide +kernel
theorem rre_79 : xe_look (xc 38) 79 = some (.ifCond .ne 5, 3, 0, 0, 0) := by decide +kernel
theorem rre_84 : xe_look (xc 38) 84 = some (.iinc 4 1, 3, 0, 0, 0) := by decide +kernel
theorem rre_87 : xe_look (xc 38) 87 = some (.aload_n 0, 1, 0, 0, 0) := by decide +kernel
theorem rre_88 : xe_look (xc 38) 88 = some (.getfield 30, 3, 3, 9, 844) := by decide +kernel
theorem rre_91 : xe_look (xc 38) 91 = some (.iload 4, 2, 0, 0, 0) := by decide +kernel
theorem rre_93 : xe_look (xc 38) 93 = some (.iload 6, 2, 0, 0, 0) := by decide +kernel
theorem rre_95 : xe_look (xc 38) 95 = some (.ifCond .ne 8, 3, 0, 0, 0) := by decide +kernel
theorem rre_98 : xe_look (xc 38) 98 = some (.iload 7, 2, 0, 0, 0) := by decide +kernel
theorem rre_100 : xe_look (xc 38) 100 = some (.goto 7, 3, 0, 0, 0) := by decide +kernel
theorem rre_103 : xe_look (xc 38) 103 = some (.aload_n 3, 1, 0, 0, 0) := by decide +kernel
theorem rre_104 : xe_look (xc 38) 104 = some (.iload 7, 2, 0, 0, 0) := by decide +kernel
theorem rre_106 : xe_look (xc 38) 106 = some (.iaload, 1, 0, 0, 0) := by decide +kernel
theorem rre_107 : xe_look (xc 38) 107 = some (.iastore, 1, 0, 0, 0) := by decide +kernel
theorem rre_108 : xe_look (xc 38) 108 = some (.goto 166, 3, 0, 0, 0) := by decide +kernel
theorem rre_111 : xe_look (xc 38) 111 = some (.iload 4, 2, 0, 0, 0) := by decide +kernel
theorem rre_113 : xe_look (xc 38) 113 = some (.ifCond .ge 5, 3, 0, 0, 0) := by decide +kernel
theorem rre_118 : xe_look (xc 38) 118 = some (.iload 6, 2, 0, 0, 0) := by decide +kernel
theorem rre_120 : xe_look (xc 38) 120 = some (.bipush 10, 2, 0, 0, 0) := by decide +kernel
theorem rre_122 : xe_look (xc 38) 122 = some (.if_icmp .ne 22, 3, 0, 0, 0) := by decide +kernel
theorem rre_125 : xe_look (xc 38) 125 = some (.aload_n 0, 1, 0, 0, 0) := by decide +kernel
theorem rre_126 : xe_look (xc 38) 126 = some (.getfield 30, 3, 3, 9, 844) := by decide +kernel
theorem rre_129 : xe_look (xc 38) 129 = some (.iload 4, 2, 0, 0, 0) := by decide +kernel
theorem rre_131 : xe_look (xc 38) 131 = some (.iconst 1, 1, 0, 0, 0) := by decide +kernel
theorem rre_132 : xe_look (xc 38) 132 = some (.aload_n 0, 1, 0, 0, 0) := by decide +kernel
theorem rre_133 : xe_look (xc 38) 133 = some (.getfield 30, 3, 3, 9, 844) := by decide +kernel
theorem rre_136 : xe_look (xc 38) 136 = some (.iload 4, 2, 0, 0, 0) := by decide +kernel
theorem rre_138 : xe_look (xc 38) 138 = some (.iaload, 1, 0, 0, 0) := by decide +kernel
theorem rre_139 : xe_look (xc 38) 139 = some (.isub, 1, 0, 0, 0) := by decide +kernel
theorem rre_140 : xe_look (xc 38) 140 = some (.iastore, 1, 0, 0, 0) := by decide +kernel
theorem rre_141 : xe_look (xc 38) 141 = some (.goto 133, 3, 0, 0, 0) := by decide +kernel
theorem rre_144 : xe_look (xc 38) 144 = some (.iload 6, 2, 0, 0, 0) := by decide +kernel
theorem rre_146 : xe_look (xc 38) 146 = some (.bipush 11, 2, 0, 0, 0) := by decide +kernel
theorem rre_148 : xe_look (xc 38) 148 = some (.if_icmp .eq 10, 3, 0, 0, 0) := by decide +kernel
theorem rre_151 : xe_look (xc 38) 151 = some (.iload 6, 2, 0, 0, 0) := by decide +kernel
theorem rre_153 : xe_look (xc 38) 153 = some (.bipush 12, 2, 0, 0, 0) := by decide +kernel
theorem rre_155 : xe_look (xc 38) 155 = some (.if_icmp .ne 79, 3, 0, 0, 0) := by decide +kernel
theorem rre_158 : xe_look (xc 38) 158 = some (.aload_n 0, 1, 0, 0, 0) := by decide +kernel
theorem rre_159 : xe_look (xc 38) 159 = some (.getfield 30, 3, 3, 9, 844) := by decide +kernel
theorem rre_162 : xe_look (xc 38) 162 = some (.iload 4, 2, 0, 0, 0) := by decide +kernel
theorem rre_164 : xe_look (xc 38) 164 = some (.iaload, 1, 0, 0, 0) := by decide +kernel
theorem rre_165 : xe_look (xc 38) 165 = some (.ifCond .eq 7, 3, 0, 0, 0) := by decide +kernel
theorem rre_168 : xe_look (xc 38) 168 = some (.iconst 1, 1, 0, 0, 0) := by decide +kernel
theorem rre_169 : xe_look (xc 38) 169 = some (.goto 4, 3, 0, 0, 0) := by decide +kernel
theorem rre_172 : xe_look (xc 38) 172 = some (.iconst 0, 1, 0, 0, 0) := by decide +kernel
theorem rre_173 : xe_look (xc 38) 173 = some (.iload 6, 2, 0, 0, 0) := by decide +kernel
theorem rre_175 : xe_look (xc 38) 175 = some (.bipush 12, 2, 0, 0, 0) := by decide +kernel
theorem rre_177 : xe_look (xc 38) 177 = some (.if_icmp .ne 7, 3, 0, 0, 0) := by decide +kernel
theorem rre_180 : xe_look (xc 38) 180 = some (.iconst 1, 1, 0, 0, 0) := by decide +kernel
theorem rre_181 : xe_look (xc 38) 181 = some (.goto 4, 3, 0, 0, 0) := by decide +kernel
theorem rre_184 : xe_look (xc 38) 184 = some (.iconst 0, 1, 0, 0, 0) := by decide +kernel
theorem rre_185 : xe_look (xc 38) 185 = some (.if_icmp .ne 7, 3, 0, 0, 0) := by decide +kernel
theorem rre_188 : xe_look (xc 38) 188 = some (.iconst 1, 1, 0, 0, 0) := by decide +kernel
theorem rre_189 : xe_look (xc 38) 189 = some (.goto 4, 3, 0, 0, 0) := by decide +kernel
theorem rre_192 : xe_look (xc 38) 192 = some (.iconst 0, 1, 0, 0, 0) := by decide +kernel
theorem rre_193 : xe_look (xc 38) 193 = some (.istore 8, 2, 0, 0, 0) := by decide +kernel
theorem rre_195 : xe_look (xc 38) 195 = some (.iload 8, 2, 0, 0, 0) := by decide +kernel
theorem rre_197 : xe_look (xc 38) 197 = some (.ifCond .eq 15, 3, 0, 0, 0) := by decide +kernel
theorem rre_200 : xe_look (xc 38) 200 = some (.iload 5, 2, 0, 0, 0) := by decide +kernel
theorem rre_202 : xe_look (xc 38) 202 = some (.iload 7, 2, 0, 0, 0) := by decide +kernel
theorem rre_204 : xe_look (xc 38) 204 = some (.iconst 1, 1, 0, 0, 0) := by decide +kernel
theorem rre_205 : xe_look (xc 38) 205 = some (.isub, 1, 0, 0, 0) := by decide +kernel
theorem rre_206 : xe_look (xc 38) 206 = some (.invokestatic 54, 3, 2, 0, 846) := by decide +kernel
theorem rre_209 : xe_look (xc 38) 209 = some (.goto 5, 3, 0, 0, 0) := by decide +kernel
theorem rre_212 : xe_look (xc 38) 212 = some (.iload 5, 2, 0, 0, 0) := by decide +kernel
theorem rre_214 : xe_look (xc 38) 214 = some (.istore 5, 2, 0, 0, 0) := by decide +kernel
theorem rre_216 : xe_look (xc 38) 216 = some (.iload 4, 2, 0, 0, 0) := by decide +kernel
theorem rre_218 : xe_look (xc 38) 218 = some (.iload 8, 2, 0, 0, 0) := by decide +kernel
theorem rre_220 : xe_look (xc 38) 220 = some (.ifCond .eq 7, 3, 0, 0, 0) := by decide +kernel
theorem rre_223 : xe_look (xc 38) 223 = some (.iconst 0, 1, 0, 0, 0) := by decide +kernel
theorem rre_224 : xe_look (xc 38) 224 = some (.goto 4, 3, 0, 0, 0) := by decide +kernel
theorem rre_227 : xe_look (xc 38) 227 = some (.iconst 1, 1, 0, 0, 0) := by decide +kernel
theorem rre_228 : xe_look (xc 38) 228 = some (.isub, 1, 0, 0, 0) := by decide +kernel
theorem rre_229 : xe_look (xc 38) 229 = some (.istore 4, 2, 0, 0, 0) := by decide +kernel
theorem rre_231 : xe_look (xc 38) 231 = some (.goto 43, 3, 0, 0, 0) := by decide +kernel
theorem rre_234 : xe_look (xc 38) 234 = some (.iload 4, 2, 0, 0, 0) := by decide +kernel
theorem rre_236 : xe_look (xc 38) 236 = some (.iconst 1, 1, 0, 0, 0) := by decide +kernel
theorem rre_237 : xe_look (xc 38) 237 = some (.if_icmp .ge 5, 3, 0, 0, 0) := by decide +kernel
theorem rre_242 : xe_look (xc 38) 242 = some (.iinc 4 (-1), 3, 0, 0, 0) := by decide +kernel
theorem rre_245 : xe_look (xc 38) 245 = some (.aload_n 0, 1, 0, 0, 0) := by decide +kernel
theorem rre_246 : xe_look (xc 38) 246 = some (.getfield 30, 3, 3, 9, 844) := by decide +kernel
theorem rre_249 : xe_look (xc 38) 249 = some (.iload 4, 2, 0, 0, 0) := by decide +kernel
theorem rre_251 : xe_look (xc 38) 251 = some (.aload_n 0, 1, 0, 0, 0) := by decide +kernel
theorem rre_252 : xe_look (xc 38) 252 = some (.iload 6, 2, 0, 0, 0) := by decide +kernel
theorem rre_254 : xe_look (xc 38) 254 = some (.aload_n 0, 1, 0, 0, 0) := by decide +kernel
theorem rre_255 : xe_look (xc 38) 255 = some (.getfield 30, 3, 3, 9, 844) := by decide +kernel
theorem rre_258 : xe_look (xc 38) 258 = some (.iload 4, 2, 0, 0, 0) := by decide +kernel
theorem rre_260 : xe_look (xc 38) 260 = some (.iaload, 1, 0, 0, 0) := by decide +kernel
theorem rre_261 : xe_look (xc 38) 261 = some (.aload_n 0, 1, 0, 0, 0) := by decide +kernel
theorem rre_262 : xe_look (xc 38) 262 = some (.getfield 30, 3, 3, 9, 844) := by decide +kernel
theorem rre_265 : xe_look (xc 38) 265 = some (.iload 4, 2, 0, 0, 0) := by decide +kernel
theorem rre_267 : xe_look (xc 38) 267 = some (.iconst 1, 1, 0, 0, 0) := by decide +kernel
theorem rre_268 : xe_look (xc 38) 268 = some (.iadd, 1, 0, 0, 0) := by decide +kernel
theorem rre_269 : xe_look (xc 38) 269 = some (.iaload, 1, 0, 0, 0) := by decide +kernel
theorem rre_270 : xe_look (xc 38) 270 = some (.invokevirtual 61, 3, 0, 35, 847) := by decide +kernel
theorem rre_273 : xe_look (xc 38) 273 = some (.iastore, 1, 0, 0, 0) := by decide +kernel
theorem rre_274 : xe_look (xc 38) 274 = some (.aload_n 0, 1, 0, 0, 0) := by decide +kernel
theorem rre_275 : xe_look (xc 38) 275 = some (.getfield 57, 3, 3, 2, 845) := by decide +kernel
theorem rre_278 : xe_look (xc 38) 278 = some (.ifCond .eq 5, 3, 0, 0, 0) := by decide +kernel
theorem rre_281 : xe_look (xc 38) 281 = some (.iconst 0, 1, 0, 0, 0) := by decide +kernel
theorem rre_282 : xe_look (xc 38) 282 = some (.ireturn, 1, 0, 0, 0) := by decide +kernel
theorem rre_283 : xe_look (xc 38) 283 = some (.iinc 5 1, 3, 0, 0, 0) := by decide +kernel
theorem rre_286 : xe_look (xc 38) 286 = some (.goto (-275), 3, 0, 0, 0) := by decide +kernel
theorem rre_289 : xe_look (xc 38) 289 = some (.iload 4, 2, 0, 0, 0) := by decide +kernel
theorem rre_291 : xe_look (xc 38) 291 = some (.ifCond .ge 7, 3, 0, 0, 0) := by decide +kernel
theorem rre_298 : xe_look (xc 38) 298 = some (.aload_n 0, 1, 0, 0, 0) := by decide +kernel
theorem rre_299 : xe_look (xc 38) 299 = some (.getfield 30, 3, 3, 9, 844) := by decide +kernel
theorem rre_302 : xe_look (xc 38) 302 = some (.iload 4, 2, 0, 0, 0) := by decide +kernel
theorem rre_304 : xe_look (xc 38) 304 = some (.iaload, 1, 0, 0, 0) := by decide +kernel
theorem rre_305 : xe_look (xc 38) 305 = some (.ireturn, 1, 0, 0, 0) := by decide +kernel
/-- as an int holds it -/
def b32 (x : Int) : Int := (Int32.ofInt x).toInt
theorem b32_o (x : Int) : (oI x : pv) = oI (b32 x) := oI_r (Int32.ofInt x)
theorem b32_b (x : Int) : -2147483648 ≤ b32 x ∧ b32 x ≤ 2147483647 := i32_b _
theorem b32_i {x : Int} (h0 : -2147483648 ≤ x) (h1 : x ≤ 2147483647) : b32 x = x := oT h0 h1
/-- through and rest, as the machine has them -/
def dvJ (x y : Int) : Int := (Int32.ofInt x / Int32.ofInt y).toInt
def rmJ (x y : Int) : Int := (Int32.ofInt x - Int32.ofInt x / Int32.ofInt y * Int32.ofInt y).toInt
theorem dvJ_b (x y : Int) : -2147483648 ≤ dvJ x y ∧ dvJ x y ≤ 2147483647 := i32_b _
theorem rmJ_b (x y : Int) : -2147483648 ≤ rmJ x y ∧ rmJ x y ≤ 2147483647 := i32_b _
theorem pq_dvJ {d x y : Nat} {lv : List (Nat × pv)} {r : List pv} {h : pH} {a b : Int} (hb : -2147483648 ≤ b ∧ b ≤ 2147483647) (hn : b ≠ 0) : px_push eL d none .idiv x y lv (oI b :: oI a :: r) h = some (oI (dvJ a b) :: r) := by
  have e : px_push eL d none .idiv x y lv (oI b :: oI a :: r) h = some (.inl (Int32.ofInt a / Int32.ofInt b) :: r) := if_neg (ne_oI hb hn)
  rw [e, oI_r]
  rfl
theorem pq_rmJ {d x y : Nat} {lv : List (Nat × pv)} {r : List pv} {h : pH} {a b : Int} (hb : -2147483648 ≤ b ∧ b ≤ 2147483647) (hn : b ≠ 0) : px_push eL d none .irem x y lv (oI b :: oI a :: r) h = some (oI (rmJ a b) :: r) := by
  have e : px_push eL d none .irem x y lv (oI b :: oI a :: r) h = some (.inl (Int32.ofInt a - Int32.ofInt a / Int32.ofInt b * Int32.ofInt b) :: r) := if_neg (ne_oI hb hn)
  rw [e, oI_r]
  rfl
/-- what two come to -/
def aop (c x y : Int) : Int := if c = 2 then b32 (x + y) else if c = 3 then b32 (x - y) else if c = 4 then b32 (x * y) else if c = 5 then dvJ x y else if c = 6 then rmJ x y else if c = 7 then (if x < y then 1 else 0) else if c = 8 then (if y < x then 1 else 0) else (if x = y then 1 else 0)
theorem aop_b (c x y : Int) : -2147483648 ≤ aop c x y ∧ aop c x y ≤ 2147483647 := by
  have h1 := b32_b (x + y)
  have h2 := b32_b (x - y)
  have h3 := b32_b (x * y)
  have h4 := dvJ_b x y
  have h5 := rmJ_b x y
  unfold aop
  repeat' split
  all_goals omega
def aRf (c y : Int) : Prop := (c = 5 ∨ c = 6) ∧ y = 0
/-- codes asked: e the end, m fuel, k the place, n how many on the stack -/
def am (o v f : tC) (e : Nat) : Nat → Nat → Nat → tC → Int
  | 0, _, _, s => s 0
  | m + 1, k, n, s => if e ≤ k then s 0
    else if o k = 0 then am o v f e m (k + 1) (n + 1) (updI s n (v k))
    else if o k = 1 then am o v f e m (k + 1) (n + 1) (updI s n (f (v k).toNat))
    else if o k = 10 then am o v f e m (k + 1) n (updI s (n - 1) (b32 (1 - s (n - 1))))
    else if o k = 11 then (if s (n - 1) = 0 then am o v f e m (v k).toNat n s else am o v f e m (k + 1) (n - 1) s)
    else if o k = 12 then (if s (n - 1) = 0 then am o v f e m (k + 1) (n - 1) s else am o v f e m (v k).toNat n s)
    else if (o k = 5 ∨ o k = 6) ∧ s (n - 1) = 0 then 0
    else am o v f e m (k + 1) (n - 1) (updI s (n - 2) (aop (o k) (s (n - 2)) (s (n - 1))))
def rW (K : Nat) : Nat := 2 ^ (cn K + 2) + 2 ^ cn (K + 7)
def rkk (K : Nat) : List (Nat × Nat) := [(K, 2)]
def rka (K : Nat) : List Nat := [K + 7]
/-- the law of the class as it is asked: refused, the stack -/
abbrev rE (K : Nat) (g0 g : pH) (rf : Int) (s : tC) : Prop := sE (rkk K) (rka K) (rW K) g0 g [rf] [s]
theorem rk_t7 {K : Nat} (hK : lK K) : eL[K + 7]? = some (1, 40) := by rcases hK with rfl | rfl <;> decide +kernel
theorem rk_G7 {K : Nat} (hK : lK K) : eG (cn (K + 7)) = ((-2147483648), 2147483647, []) := by rcases hK with rfl | rfl <;> decide +kernel
theorem rk_g2 {K : Nat} (hK : lK K) : eG (cn K + 2) = (0, 1, []) := by rcases hK with rfl | rfl <;> decide +kernel
theorem rk_f {K : Nat} (hK : lK K) : sEf (rkk K) K 2 0 = true := by rcases hK with rfl | rfl <;> decide +kernel
theorem rk_a {K : Nat} (hK : lK K) : sEa (rka K) (K + 7) 0 = true := by rcases hK with rfl | rfl <;> decide +kernel
theorem rk_w {K : Nat} (hK : lK K) : (rW K).testBit (cn K + 2) = true := by rcases hK with rfl | rfl <;> decide +kernel
theorem rk_u {K : Nat} (hK : lK K) : (rW K).testBit (cn (K + 7)) = true := by rcases hK with rfl | rfl <;> decide +kernel
theorem rk_h9 {K : Nat} (hK : lK K) : (eG (cn K + 9)).2.2 = [K + 7 + 1] := by rcases hK with rfl | rfl <;> decide +kernel
theorem rk_r9 {K : Nat} (hK : lK K) {d i : Nat} {lv : List (Nat × pv)} {r : List pv} {g : pH} (hG : g_I eG g) : px_push eL d none (.getfield i) 3 9 lv (pvR K :: r) g = some (pvR (K + 7) :: r) := pget (lk_e hK) (gI_r (r := K + 7) hG (lk_e hK) (Nat.le_of_ble_eq_true rfl) (y := 9) rfl (rk_h9 hK))
theorem rk_n {K : Nat} (hK : lK K) : (rW K).testBit (cn K + 0) = false ∧ (rW K).testBit (cn (K + 1)) = false ∧ (rW K).testBit (cn (K + 2)) = false ∧ (rW K).testBit (cn (K + 3)) = false ∧ (rW K).testBit (cn (K + 4)) = false ∧ (rW K).testBit (cn (K + 5)) = false ∧ (rW K).testBit (cn (K + 6)) = false ∧ (rW K).testBit (cn 173) = false := by rcases hK with rfl | rfl <;> decide +kernel
theorem pq_mx {d y : Nat} {lv : List (Nat × pv)} {r : List pv} {h : pH} {a b : Int} (hd : 1 ≤ d) (hs : px_sum (oI b :: oI a :: r) ≤ 8) (ha : -2147483648 ≤ a ∧ a ≤ 2147483647) (hb : -2147483648 ≤ b ∧ b ≤ 2147483647) {i : Nat} : px_push eL d none (.invokestatic i) 2 y lv (oI b :: oI a :: r) h = some (oI (if a < b then b else a) :: r) := by
  show (if 1 ≤ d ∧ px_sum (oI b :: oI a :: r) ≤ 8 then px_u2 xe_max (oI b :: oI a :: r) else none) = _
  rw [if_pos ⟨hd, hs⟩]
  show some ((.inl (xe_max (Int32.ofInt a) (Int32.ofInt b)) : pv) :: r) = _
  unfold xe_max
  by_cases q : a < b
  · rw [if_pos q, if_pos ((lt_oI ha hb).mpr q)]
  · rw [if_neg q, if_neg (fun z => q ((lt_oI ha hb).mp z))]
section AM
variable {o v f s : tC} {e m k n : Nat}
theorem am_e (h : e ≤ k) : am o v f e m k n s = s 0 := by
  cases m with
  | zero => rfl
  | succ m => exact if_pos h
theorem am_0 (hk : k < e) (h : o k = 0) : am o v f e (m + 1) k n s = am o v f e m (k + 1) (n + 1) (updI s n (v k)) := by
  rw [am, if_neg (by omega), if_pos h]
theorem am_1 (hk : k < e) (h : o k = 1) : am o v f e (m + 1) k n s = am o v f e m (k + 1) (n + 1) (updI s n (f (v k).toNat)) := by
  rw [am, if_neg (by omega), if_neg (by omega), if_pos h]
theorem am_n (hk : k < e) (h : o k = 10) : am o v f e (m + 1) k n s = am o v f e m (k + 1) n (updI s (n - 1) (b32 (1 - s (n - 1)))) := by
  rw [am, if_neg (by omega), if_neg (by omega), if_neg (by omega), if_pos h]
theorem am_a (hk : k < e) (h : o k = 11) (hs : s (n - 1) = 0) : am o v f e (m + 1) k n s = am o v f e m (v k).toNat n s := by
  rw [am, if_neg (by omega), if_neg (by omega), if_neg (by omega), if_neg (by omega), if_pos h, if_pos hs]
theorem am_a2 (hk : k < e) (h : o k = 11) (hs : ¬ s (n - 1) = 0) : am o v f e (m + 1) k n s = am o v f e m (k + 1) (n - 1) s := by
  rw [am, if_neg (by omega), if_neg (by omega), if_neg (by omega), if_neg (by omega), if_pos h, if_neg hs]
theorem am_o (hk : k < e) (h : o k = 12) (hs : ¬ s (n - 1) = 0) : am o v f e (m + 1) k n s = am o v f e m (v k).toNat n s := by
  rw [am, if_neg (by omega), if_neg (by omega), if_neg (by omega), if_neg (by omega), if_neg (by omega), if_pos h, if_neg hs]
theorem am_o2 (hk : k < e) (h : o k = 12) (hs : s (n - 1) = 0) : am o v f e (m + 1) k n s = am o v f e m (k + 1) (n - 1) s := by
  rw [am, if_neg (by omega), if_neg (by omega), if_neg (by omega), if_neg (by omega), if_neg (by omega), if_pos h, if_pos hs]
theorem am_r (hk : k < e) (h : 2 ≤ o k ∧ o k ≤ 9) (hr : (o k = 5 ∨ o k = 6) ∧ s (n - 1) = 0) : am o v f e (m + 1) k n s = 0 := by
  rw [am, if_neg (by omega), if_neg (by omega), if_neg (by omega), if_neg (by omega), if_neg (by omega), if_neg (by omega), if_pos hr]
theorem am_b (hk : k < e) (h : 2 ≤ o k ∧ o k ≤ 9) (hr : ¬ ((o k = 5 ∨ o k = 6) ∧ s (n - 1) = 0)) : am o v f e (m + 1) k n s = am o v f e m (k + 1) (n - 1) (updI s (n - 2) (aop (o k) (s (n - 2)) (s (n - 1)))) := by
  rw [am, if_neg (by omega), if_neg (by omega), if_neg (by omega), if_neg (by omega), if_neg (by omega), if_neg (by omega), if_neg hr]
end AM
theorem rgu_173 : eG (cn 173) = ((-2147483648), 2147483647, []) := by decide +kernel
theorem rez_173 : eL[173]? = some (1, 11) := by decide +kernel
set_option maxHeartbeats 1000000 in
theorem rjo_run {K : Nat} (hK : lK K) {d : Nat} {g0 g : pH} {s : tC} (hS : rE K g0 g 0 s) {c x y : Int} (hc : 2 ≤ c ∧ c ≤ 9) (hx : -2147483648 ≤ x ∧ x ≤ 2147483647) (hy : -2147483648 ≤ y ∧ y ≤ 2147483647) {P : Option pv × pH → Prop} (h0 : ¬ aRf c y → ∀ g1 : pH, rE K g0 g1 0 s → P (some (oI (aop c x y)), g1)) (h1 : aRf c y → ∀ g1 : pH, rE K g0 g1 1 s → P (some (oI 0), g1)) {lv : List (Nat × pv)} (l0 : px_lg lv 0 = some (pvR K)) (l1 : px_lg lv 1 = some (oI c)) (l2 : px_lg lv 2 = some (oI x)) (l3 : px_lg lv 3 = some (oI y)) : t_X d 35 0 lv [] g P := by
  unfold aRf at h0 h1
  have hc9 : c = 2 ∨ c = 3 ∨ c = 4 ∨ c = 5 ∨ c = 6 ∨ c = 7 ∨ c = 8 ∨ c = 9 := by omega
  rcases hc9 with rfl | rfl | rfl | rfl | rfl | rfl | rfl | rfl
  · refine t_0 rjo_0 rfl (ld_i l1) ?_
    refine t_1 rjo_1 rfl (t := (48, [])) rfl ?_
    show t_X d 35 48 lv [] g P
    refine t_0 rjo_48 rfl (ld_i l2) ?_
    refine t_0 rjo_49 rfl (ld_i l3) ?_
    refine t_0 rjo_50 rfl pq_add ?_
    refine t_5 rjo_51 rfl rfl ?_
    show P (some (oI (x + y)), g)
    rw [b32_o (x + y)]
    exact h0 (fun z => by have := z.1; omega) _ hS
  · refine t_0 rjo_0 rfl (ld_i l1) ?_
    refine t_1 rjo_1 rfl (t := (52, [])) rfl ?_
    show t_X d 35 52 lv [] g P
    refine t_0 rjo_52 rfl (ld_i l2) ?_
    refine t_0 rjo_53 rfl (ld_i l3) ?_
    refine t_0 rjo_54 rfl pq_sub ?_
    refine t_5 rjo_55 rfl rfl ?_
    show P (some (oI (x - y)), g)
    rw [b32_o (x - y)]
    exact h0 (fun z => by have := z.1; omega) _ hS
  · refine t_0 rjo_0 rfl (ld_i l1) ?_
    refine t_1 rjo_1 rfl (t := (56, [])) rfl ?_
    show t_X d 35 56 lv [] g P
    refine t_0 rjo_56 rfl (ld_i l2) ?_
    refine t_0 rjo_57 rfl (ld_i l3) ?_
    refine t_0 rjo_58 rfl pq_mul ?_
    refine t_5 rjo_59 rfl rfl ?_
    show P (some (oI (x * y)), g)
    rw [b32_o (x * y)]
    exact h0 (fun z => by have := z.1; omega) _ hS
  · refine t_0 rjo_0 rfl (ld_i l1) ?_
    refine t_1 rjo_1 rfl (t := (93, [])) rfl ?_
    show t_X d 35 93 lv [] g P
    refine t_0 rjo_93 rfl (ld_a l0) ?_
    refine t_0 rjo_94 rfl (ld_i l3) ?_
    refine tz_ne rjo_95 (by decide) ⟨by omega, by omega⟩ (fun c1 => ?_) (fun c1 => ?_)
    · show t_X d 35 102 lv [pvR K] g P
      refine t_0 rjo_102 rfl rfl ?_
      refine ts_z (n := 0) rfl rfl (rk_f hK) rjo_103 rfl (lk_e hK) hS (rk_w hK) (rk_g2 hK) (by decide) ⟨by omega, by omega⟩ (by omega) (fun g2 hS2 => ?_)
      replace hS2 : rE K g0 g2 0 s := hS2
      show t_X d 35 106 lv [] g2 P
      refine t_0 rjo_106 rfl (ld_a l0) ?_
      refine t_0 rjo_107 rfl (pq_zv (lk_e hK) rfl (show cF g2 K 2 = 0 from S_f hS2 0 (Nat.le_of_ble_eq_true rfl))) ?_
      show t_X d 35 110 lv [oI 0] g2 P
      refine tz_eq rjo_110 (by decide) ⟨by omega, by omega⟩ (fun c3 => ?_) (fun c3 => absurd c3 (by omega))
      show t_X d 35 115 lv [] g2 P
      refine t_0 rjo_115 rfl (ld_i l1) ?_
      refine t_0 rjo_116 rfl rfl ?_
      refine tb_ne rjo_117 (by decide) ⟨by omega, by omega⟩ ⟨by omega, by omega⟩ (fun c4 => absurd c4 (by omega)) (fun c4 => ?_)
      show t_X d 35 120 lv [] g2 P
      refine t_0 rjo_120 rfl (ld_i l2) ?_
      refine t_0 rjo_121 rfl (ld_i l3) ?_
      refine t_0 rjo_122 rfl (pq_dvJ (by omega) (by omega)) ?_
      show t_X d 35 123 lv [oI (dvJ x y)] g2 P
      refine t_1 rjo_123 rfl (pb_goto (pc := 123) (by decide)) ?_
      show t_X d 35 129 lv [oI (dvJ x y)] g2 P
      refine t_5 rjo_129 rfl rfl ?_
      exact h0 (fun z => by have := z.2; omega) _ hS2
    · show t_X d 35 98 lv [pvR K] g P
      refine t_0 rjo_98 rfl rfl ?_
      refine t_1 rjo_99 rfl (pb_goto (pc := 99) (by decide)) ?_
      show t_X d 35 103 lv [oI 1, pvR K] g P
      refine ts_z (n := 0) rfl rfl (rk_f hK) rjo_103 rfl (lk_e hK) hS (rk_w hK) (rk_g2 hK) (by decide) ⟨by omega, by omega⟩ (by omega) (fun g5 hS5 => ?_)
      replace hS5 : rE K g0 g5 1 s := hS5
      show t_X d 35 106 lv [] g5 P
      refine t_0 rjo_106 rfl (ld_a l0) ?_
      refine t_0 rjo_107 rfl (pq_zv (lk_e hK) rfl (show cF g5 K 2 = 1 from S_f hS5 0 (Nat.le_of_ble_eq_true rfl))) ?_
      show t_X d 35 110 lv [oI 1] g5 P
      refine tz_eq rjo_110 (by decide) ⟨by omega, by omega⟩ (fun c6 => absurd c6 (by omega)) (fun c6 => ?_)
      show t_X d 35 113 lv [] g5 P
      refine t_0 rjo_113 rfl rfl ?_
      refine t_5 rjo_114 rfl rfl ?_
      exact h1 ⟨Or.inl rfl, by omega⟩ _ hS5
  · refine t_0 rjo_0 rfl (ld_i l1) ?_
    refine t_1 rjo_1 rfl (t := (93, [])) rfl ?_
    show t_X d 35 93 lv [] g P
    refine t_0 rjo_93 rfl (ld_a l0) ?_
    refine t_0 rjo_94 rfl (ld_i l3) ?_
    refine tz_ne rjo_95 (by decide) ⟨by omega, by omega⟩ (fun c1 => ?_) (fun c1 => ?_)
    · show t_X d 35 102 lv [pvR K] g P
      refine t_0 rjo_102 rfl rfl ?_
      refine ts_z (n := 0) rfl rfl (rk_f hK) rjo_103 rfl (lk_e hK) hS (rk_w hK) (rk_g2 hK) (by decide) ⟨by omega, by omega⟩ (by omega) (fun g2 hS2 => ?_)
      replace hS2 : rE K g0 g2 0 s := hS2
      show t_X d 35 106 lv [] g2 P
      refine t_0 rjo_106 rfl (ld_a l0) ?_
      refine t_0 rjo_107 rfl (pq_zv (lk_e hK) rfl (show cF g2 K 2 = 0 from S_f hS2 0 (Nat.le_of_ble_eq_true rfl))) ?_
      show t_X d 35 110 lv [oI 0] g2 P
      refine tz_eq rjo_110 (by decide) ⟨by omega, by omega⟩ (fun c3 => ?_) (fun c3 => absurd c3 (by omega))
      show t_X d 35 115 lv [] g2 P
      refine t_0 rjo_115 rfl (ld_i l1) ?_
      refine t_0 rjo_116 rfl rfl ?_
      refine tb_ne rjo_117 (by decide) ⟨by omega, by omega⟩ ⟨by omega, by omega⟩ (fun c4 => ?_) (fun c4 => absurd c4 (by omega))
      show t_X d 35 126 lv [] g2 P
      refine t_0 rjo_126 rfl (ld_i l2) ?_
      refine t_0 rjo_127 rfl (ld_i l3) ?_
      refine t_0 rjo_128 rfl (pq_rmJ (by omega) (by omega)) ?_
      show t_X d 35 129 lv [oI (rmJ x y)] g2 P
      refine t_5 rjo_129 rfl rfl ?_
      exact h0 (fun z => by have := z.2; omega) _ hS2
    · show t_X d 35 98 lv [pvR K] g P
      refine t_0 rjo_98 rfl rfl ?_
      refine t_1 rjo_99 rfl (pb_goto (pc := 99) (by decide)) ?_
      show t_X d 35 103 lv [oI 1, pvR K] g P
      refine ts_z (n := 0) rfl rfl (rk_f hK) rjo_103 rfl (lk_e hK) hS (rk_w hK) (rk_g2 hK) (by decide) ⟨by omega, by omega⟩ (by omega) (fun g5 hS5 => ?_)
      replace hS5 : rE K g0 g5 1 s := hS5
      show t_X d 35 106 lv [] g5 P
      refine t_0 rjo_106 rfl (ld_a l0) ?_
      refine t_0 rjo_107 rfl (pq_zv (lk_e hK) rfl (show cF g5 K 2 = 1 from S_f hS5 0 (Nat.le_of_ble_eq_true rfl))) ?_
      show t_X d 35 110 lv [oI 1] g5 P
      refine tz_eq rjo_110 (by decide) ⟨by omega, by omega⟩ (fun c6 => absurd c6 (by omega)) (fun c6 => ?_)
      show t_X d 35 113 lv [] g5 P
      refine t_0 rjo_113 rfl rfl ?_
      refine t_5 rjo_114 rfl rfl ?_
      exact h1 ⟨Or.inr rfl, by omega⟩ _ hS5
  · refine t_0 rjo_0 rfl (ld_i l1) ?_
    refine t_1 rjo_1 rfl (t := (60, [])) rfl ?_
    show t_X d 35 60 lv [] g P
    refine t_0 rjo_60 rfl (ld_i l2) ?_
    refine t_0 rjo_61 rfl (ld_i l3) ?_
    refine tb_ge rjo_62 (by decide) ⟨by omega, by omega⟩ ⟨by omega, by omega⟩ (fun c1 => ?_) (fun c1 => ?_)
    · show t_X d 35 69 lv [] g P
      refine t_0 rjo_69 rfl rfl ?_
      refine t_5 rjo_70 rfl rfl ?_
      have ea : aop 7 x y = 0 := by unfold aop; rw [if_neg (by decide), if_neg (by decide), if_neg (by decide), if_neg (by decide), if_neg (by decide), if_pos rfl, if_neg (by omega)]
      rw [ea] at h0
      exact h0 (fun z => by have := z.1; omega) _ hS
    · show t_X d 35 65 lv [] g P
      refine t_0 rjo_65 rfl rfl ?_
      refine t_1 rjo_66 rfl (pb_goto (pc := 66) (by decide)) ?_
      show t_X d 35 70 lv [oI 1] g P
      refine t_5 rjo_70 rfl rfl ?_
      have ea : aop 7 x y = 1 := by unfold aop; rw [if_neg (by decide), if_neg (by decide), if_neg (by decide), if_neg (by decide), if_neg (by decide), if_pos rfl, if_pos (by omega)]
      rw [ea] at h0
      exact h0 (fun z => by have := z.1; omega) _ hS
  · refine t_0 rjo_0 rfl (ld_i l1) ?_
    refine t_1 rjo_1 rfl (t := (71, [])) rfl ?_
    show t_X d 35 71 lv [] g P
    refine t_0 rjo_71 rfl (ld_i l2) ?_
    refine t_0 rjo_72 rfl (ld_i l3) ?_
    refine tb_le rjo_73 (by decide) ⟨by omega, by omega⟩ ⟨by omega, by omega⟩ (fun c1 => ?_) (fun c1 => ?_)
    · show t_X d 35 80 lv [] g P
      refine t_0 rjo_80 rfl rfl ?_
      refine t_5 rjo_81 rfl rfl ?_
      have ea : aop 8 x y = 0 := by unfold aop; rw [if_neg (by decide), if_neg (by decide), if_neg (by decide), if_neg (by decide), if_neg (by decide), if_neg (by decide), if_pos rfl, if_neg (by omega)]
      rw [ea] at h0
      exact h0 (fun z => by have := z.1; omega) _ hS
    · show t_X d 35 76 lv [] g P
      refine t_0 rjo_76 rfl rfl ?_
      refine t_1 rjo_77 rfl (pb_goto (pc := 77) (by decide)) ?_
      show t_X d 35 81 lv [oI 1] g P
      refine t_5 rjo_81 rfl rfl ?_
      have ea : aop 8 x y = 1 := by unfold aop; rw [if_neg (by decide), if_neg (by decide), if_neg (by decide), if_neg (by decide), if_neg (by decide), if_neg (by decide), if_pos rfl, if_pos (by omega)]
      rw [ea] at h0
      exact h0 (fun z => by have := z.1; omega) _ hS
  · refine t_0 rjo_0 rfl (ld_i l1) ?_
    refine t_1 rjo_1 rfl (t := (82, [])) rfl ?_
    show t_X d 35 82 lv [] g P
    refine t_0 rjo_82 rfl (ld_i l2) ?_
    refine t_0 rjo_83 rfl (ld_i l3) ?_
    refine tb_ne rjo_84 (by decide) ⟨by omega, by omega⟩ ⟨by omega, by omega⟩ (fun c1 => ?_) (fun c1 => ?_)
    · show t_X d 35 91 lv [] g P
      refine t_0 rjo_91 rfl rfl ?_
      refine t_5 rjo_92 rfl rfl ?_
      have ea : aop 9 x y = 0 := by unfold aop; rw [if_neg (by decide), if_neg (by decide), if_neg (by decide), if_neg (by decide), if_neg (by decide), if_neg (by decide), if_neg (by decide), if_neg (by omega)]
      rw [ea] at h0
      exact h0 (fun z => by have := z.1; omega) _ hS
    · show t_X d 35 87 lv [] g P
      refine t_0 rjo_87 rfl rfl ?_
      refine t_1 rjo_88 rfl (pb_goto (pc := 88) (by decide)) ?_
      show t_X d 35 92 lv [oI 1] g P
      refine t_5 rjo_92 rfl rfl ?_
      have ea : aop 9 x y = 1 := by unfold aop; rw [if_neg (by decide), if_neg (by decide), if_neg (by decide), if_neg (by decide), if_neg (by decide), if_neg (by decide), if_neg (by decide), if_pos (by omega)]
      rw [ea] at h0
      exact h0 (fun z => by have := z.1; omega) _ hS
set_option maxHeartbeats 4000000 in
theorem rreL {K : Nat} (hK : lK K) {d : Nat} (hd : 2 ≤ d) {g0 : pH} {o v f : tC} (ho : fA g0 (K + 1) = o) (hv : fA g0 (K + 2) = v) (hf : fA g0 173 = f) {a e : Nat} (he : e ≤ 240) {D : Nat → Nat × Bool} (hst : ∀ k, a ≤ k → k < e → wst o v D k e) (hh : ∀ k, a ≤ k → k ≤ e → (D k).1 ≤ 16) (hE : (D e).1 = 1) {P : Option pv × pH → Prop} : ∀ (m k n : Nat) (s : tC) (g : pH), e ≤ k + m → a ≤ k → k ≤ e → (D k).1 = n → rE K g0 g 0 s → (∀ g' : pH, J_ (rW K) g0 g' → P (some (oI (am o v f e m k n s)), g')) → ∀ {lv : List (Nat × pv)}, px_lg lv 0 = some (pvR K) → px_lg lv 2 = some (oI (e : Int)) → px_lg lv 3 = some (pvR 173) → px_lg lv 4 = some (oI ((n : Int) - 1)) → px_lg lv 5 = some (oI (k : Int)) → t_X d 38 11 lv [] g P := by
  intro m
  induction m with
  | zero =>
    intro k n s g hm hak hke hD hS hP lv l0 l2 l3 l4 l5
    have ek : k = e := by omega
    rw [ek, hE] at hD
    refine t_0 rre_11 rfl (ld_i l5) ?_
    refine t_0 rre_13 rfl (ld_i l2) ?_
    refine tb_ge rre_14 (by decide) ⟨by omega, by omega⟩ ⟨by omega, by omega⟩ (fun c1 => ?_) (fun c1 => absurd c1 (by omega))
    show t_X d 38 289 lv [] g P
    refine t_0 rre_289 rfl (ld_i l4) ?_
    refine tz_ge rre_291 (by decide) ⟨by omega, by omega⟩ (fun c2 => ?_) (fun c2 => absurd c2 (by omega))
    show t_X d 38 298 lv [] g P
    refine t_0 rre_298 rfl (ld_a l0) ?_
    refine t_0 rre_299 rfl (rk_r9 hK (S_J hS).1) ?_
    show t_X d 38 302 lv [pvR (K + 7)] g P
    refine t_0 rre_302 rfl (ld_i l4) ?_
    show t_X d 38 304 lv [oI ((n : Int) - 1), pvR (K + 7)] g P
    rw [show (n : Int) - 1 = ((n - 1 : Nat) : Int) by omega]
    show t_X d 38 304 lv [oI (((n - 1 : Nat) : Int)), pvR (K + 7)] g P
    have r3 := pb_a (S_J hS).1 (rk_t7 hK) (j := n - 1) (by omega) (rk_G7 hK) (show fA g (K + 7) = s from S_a hS 0 (Nat.le_of_ble_eq_true rfl))
    refine t_0 rre_304 rfl (pq_iv (rk_t7 hK) rfl ⟨by omega, by omega⟩ (show fA g (K + 7) = s from S_a hS 0 (Nat.le_of_ble_eq_true rfl))) ?_
    show t_X d 38 305 lv [oI (s (n - 1))] g P
    refine t_5 rre_305 rfl rfl ?_
    have hP2 := hP
    rw [am_e (by omega)] at hP2
    rw [show n - 1 = 0 by omega]
    exact hP2 _ (S_J hS)
  | succ m ih =>
    intro k n s g hm hak hke hD hS hP lv l0 l2 l3 l4 l5
    by_cases ek : k = e
    · rw [ek, hE] at hD
      refine t_0 rre_11 rfl (ld_i l5) ?_
      refine t_0 rre_13 rfl (ld_i l2) ?_
      refine tb_ge rre_14 (by decide) ⟨by omega, by omega⟩ ⟨by omega, by omega⟩ (fun c1 => ?_) (fun c1 => absurd c1 (by omega))
      show t_X d 38 289 lv [] g P
      refine t_0 rre_289 rfl (ld_i l4) ?_
      refine tz_ge rre_291 (by decide) ⟨by omega, by omega⟩ (fun c2 => ?_) (fun c2 => absurd c2 (by omega))
      show t_X d 38 298 lv [] g P
      refine t_0 rre_298 rfl (ld_a l0) ?_
      refine t_0 rre_299 rfl (rk_r9 hK (S_J hS).1) ?_
      show t_X d 38 302 lv [pvR (K + 7)] g P
      refine t_0 rre_302 rfl (ld_i l4) ?_
      show t_X d 38 304 lv [oI ((n : Int) - 1), pvR (K + 7)] g P
      rw [show (n : Int) - 1 = ((n - 1 : Nat) : Int) by omega]
      show t_X d 38 304 lv [oI (((n - 1 : Nat) : Int)), pvR (K + 7)] g P
      have r3 := pb_a (S_J hS).1 (rk_t7 hK) (j := n - 1) (by omega) (rk_G7 hK) (show fA g (K + 7) = s from S_a hS 0 (Nat.le_of_ble_eq_true rfl))
      refine t_0 rre_304 rfl (pq_iv (rk_t7 hK) rfl ⟨by omega, by omega⟩ (show fA g (K + 7) = s from S_a hS 0 (Nat.le_of_ble_eq_true rfl))) ?_
      show t_X d 38 305 lv [oI (s (n - 1))] g P
      refine t_5 rre_305 rfl rfl ?_
      have hP2 := hP
      rw [am_e (by omega)] at hP2
      rw [show n - 1 = 0 by omega]
      exact hP2 _ (S_J hS)
    have hke : k < e := by omega
    have hn16 := hh k hak (by omega)
    rcases hst k hak hke with ⟨hO | hO, hD1⟩ | ⟨hO, hV, hD0, -, hD1⟩ | ⟨hO | hO, hD0, -, hD1, t, hV, htk, hte, hDt⟩ | ⟨hB1, hB2, hV, hD0, hD1⟩
    · obtain ⟨hO, hv1, hv2⟩ := hO
      replace hD1 : (D (k + 1)).1 = n + 1 := by rw [hD1, ← hD]
      refine t_0 rre_11 rfl (ld_i l5) ?_
      refine t_0 rre_13 rfl (ld_i l2) ?_
      refine tb_ge rre_14 (by decide) ⟨by omega, by omega⟩ ⟨by omega, by omega⟩ (fun c1 => absurd c1 (by omega)) (fun c1 => ?_)
      show t_X d 38 17 lv [] g P
      refine t_0 rre_17 rfl (ld_i l5) ?_
      refine t_0 rre_19 rfl (pq_s (by decide)) ?_
      refine tb_ge rre_22 (by decide) ⟨by omega, by omega⟩ ⟨by omega, by omega⟩ (fun c2 => absurd c2 (by omega)) (fun c2 => ?_)
      show t_X d 38 25 lv [] g P
      refine t_0 rre_25 rfl (ld_a l0) ?_
      refine t_0 rre_26 rfl (lk_r3 hK (S_J hS).1) ?_
      show t_X d 38 29 lv [pvR (K + 1)] g P
      refine t_0 rre_29 rfl (ld_i l5) ?_
      have r3 := pb_a (S_J hS).1 (lk_t1 hK) (j := k) (by omega) (lk_G1 hK) ((fA_M (S_J hS).2 (rk_n hK).2.1).trans ho : fA g (K + 1) = o)
      refine t_0 rre_31 rfl (pq_iv (lk_t1 hK) rfl ⟨by omega, by omega⟩ ((fA_M (S_J hS).2 (rk_n hK).2.1).trans ho : fA g (K + 1) = o)) ?_
      show t_X d 38 32 lv [oI (o k)] g P
      rw [hO]
      show t_X d 38 32 lv [oI 0] g P
      refine t_2 rre_32 rfl (w := (px_s1 lv 6 (oI 0), [])) rfl ?_
      replace l0 : px_lg (px_s1 lv 6 (oI 0)) 0 = some (pvR K) := s1_ne (by decide) (fun _ => rfl) l0
      replace l2 : px_lg (px_s1 lv 6 (oI 0)) 2 = some (oI ((e : Int))) := s1_ne (by decide) (fun _ => rfl) l2
      replace l3 : px_lg (px_s1 lv 6 (oI 0)) 3 = some (pvR 173) := s1_ne (by decide) (fun _ => rfl) l3
      replace l4 : px_lg (px_s1 lv 6 (oI 0)) 4 = some (oI ((n : Int) - 1)) := s1_ne (by decide) (fun _ => rfl) l4
      replace l5 : px_lg (px_s1 lv 6 (oI 0)) 5 = some (oI ((k : Int))) := s1_ne (by decide) (fun _ => rfl) l5
      have l6 : px_lg (px_s1 lv 6 (oI 0)) 6 = some (oI 0) := s1_eq
      generalize px_s1 lv 6 (oI 0) = lv4 at l0 l2 l3 l4 l5 l6 ⊢
      show t_X d 38 34 lv4 [] g P
      refine t_0 rre_34 rfl (ld_a l0) ?_
      refine t_0 rre_35 rfl (lk_r4 hK (S_J hS).1) ?_
      show t_X d 38 38 lv4 [pvR (K + 2)] g P
      refine t_0 rre_38 rfl (ld_i l5) ?_
      have r5 := pb_a (S_J hS).1 (lk_t2 hK) (j := k) (by omega) (lk_G2 hK) ((fA_M (S_J hS).2 (rk_n hK).2.2.1).trans hv : fA g (K + 2) = v)
      refine t_0 rre_40 rfl (pq_iv (lk_t2 hK) rfl ⟨by omega, by omega⟩ ((fA_M (S_J hS).2 (rk_n hK).2.2.1).trans hv : fA g (K + 2) = v)) ?_
      show t_X d 38 41 lv4 [oI (v k)] g P
      refine t_2 rre_41 rfl (w := (px_s1 lv4 7 (oI (v k)), [])) rfl ?_
      replace l0 : px_lg (px_s1 lv4 7 (oI (v k))) 0 = some (pvR K) := s1_ne (by decide) (fun _ => rfl) l0
      replace l2 : px_lg (px_s1 lv4 7 (oI (v k))) 2 = some (oI ((e : Int))) := s1_ne (by decide) (fun _ => rfl) l2
      replace l3 : px_lg (px_s1 lv4 7 (oI (v k))) 3 = some (pvR 173) := s1_ne (by decide) (fun _ => rfl) l3
      replace l4 : px_lg (px_s1 lv4 7 (oI (v k))) 4 = some (oI ((n : Int) - 1)) := s1_ne (by decide) (fun _ => rfl) l4
      replace l5 : px_lg (px_s1 lv4 7 (oI (v k))) 5 = some (oI ((k : Int))) := s1_ne (by decide) (fun _ => rfl) l5
      replace l6 : px_lg (px_s1 lv4 7 (oI (v k))) 6 = some (oI 0) := s1_ne (by decide) (fun _ => rfl) l6
      have l7 : px_lg (px_s1 lv4 7 (oI (v k))) 7 = some (oI (v k)) := s1_eq
      generalize px_s1 lv4 7 (oI (v k)) = lv6 at l0 l2 l3 l4 l5 l6 l7 ⊢
      show t_X d 38 43 lv6 [] g P
      refine t_0 rre_43 rfl (ld_i l6) ?_
      refine tz_eq rre_45 (by decide) ⟨by omega, by omega⟩ (fun c7 => ?_) (fun c7 => absurd c7 (by omega))
      show t_X d 38 54 lv6 [] g P
      refine t_0 rre_54 rfl (ld_i l4) ?_
      refine t_0 rre_56 rfl rfl ?_
      refine t_0 rre_57 rfl pq_add ?_
      refine t_0 rre_58 rfl (pq_b (by decide)) ?_
      refine tb_ge rre_60 (by decide) ⟨by omega, by omega⟩ ⟨by omega, by omega⟩ (fun c8 => absurd c8 (by omega)) (fun c8 => ?_)
      show t_X d 38 63 lv6 [] g P
      refine t_0 rre_63 rfl (ld_i l6) ?_
      refine t_0 rre_65 rfl rfl ?_
      refine tb_ne rre_66 (by decide) ⟨by omega, by omega⟩ ⟨by omega, by omega⟩ (fun c9 => ?_) (fun c9 => absurd c9 (by omega))
      show t_X d 38 84 lv6 [] g P
      refine t_2 rre_84 rfl (w := (px_s1 lv6 4 (oI (((n : Int) - 1) + 1)), [])) (pq_inc l4 (by decide)) ?_
      replace l0 : px_lg (px_s1 lv6 4 (oI (((n : Int) - 1) + 1))) 0 = some (pvR K) := s1_ne (by decide) (fun _ => rfl) l0
      replace l2 : px_lg (px_s1 lv6 4 (oI (((n : Int) - 1) + 1))) 2 = some (oI ((e : Int))) := s1_ne (by decide) (fun _ => rfl) l2
      replace l3 : px_lg (px_s1 lv6 4 (oI (((n : Int) - 1) + 1))) 3 = some (pvR 173) := s1_ne (by decide) (fun _ => rfl) l3
      replace l5 : px_lg (px_s1 lv6 4 (oI (((n : Int) - 1) + 1))) 5 = some (oI ((k : Int))) := s1_ne (by decide) (fun _ => rfl) l5
      replace l6 : px_lg (px_s1 lv6 4 (oI (((n : Int) - 1) + 1))) 6 = some (oI 0) := s1_ne (by decide) (fun _ => rfl) l6
      replace l7 : px_lg (px_s1 lv6 4 (oI (((n : Int) - 1) + 1))) 7 = some (oI (v k)) := s1_ne (by decide) (fun _ => rfl) l7
      have l4 : px_lg (px_s1 lv6 4 (oI (((n : Int) - 1) + 1))) 4 = some (oI (((n : Int) - 1) + 1)) := s1_eq
      generalize px_s1 lv6 4 (oI (((n : Int) - 1) + 1)) = lv10 at l0 l2 l3 l5 l6 l7 l4 ⊢
      show t_X d 38 87 lv10 [] g P
      refine t_0 rre_87 rfl (ld_a l0) ?_
      refine t_0 rre_88 rfl (rk_r9 hK (S_J hS).1) ?_
      show t_X d 38 91 lv10 [pvR (K + 7)] g P
      refine t_0 rre_91 rfl (ld_i l4) ?_
      show t_X d 38 93 lv10 [oI (((n : Int) - 1) + 1), pvR (K + 7)] g P
      rw [show ((n : Int) - 1) + 1 = ((n : Nat) : Int) by omega]
      show t_X d 38 93 lv10 [oI (((n : Nat) : Int)), pvR (K + 7)] g P
      refine t_0 rre_93 rfl (ld_i l6) ?_
      refine tz_ne rre_95 (by decide) ⟨by omega, by omega⟩ (fun c11 => absurd c11 (by omega)) (fun c11 => ?_)
      show t_X d 38 98 lv10 [oI (((n : Nat) : Int)), pvR (K + 7)] g P
      refine t_0 rre_98 rfl (ld_i l7) ?_
      refine t_1 rre_100 rfl (pb_goto (pc := 100) (by decide)) ?_
      show t_X d 38 107 lv10 [oI (v k), oI (((n : Nat) : Int)), pvR (K + 7)] g P
      refine ts_a (n := 0) rfl rfl (rk_a hK) rre_107 hS (rk_t7 hK) rfl (rk_u hK) (rk_G7 hK) (by decide) ⟨by omega, by omega⟩ ⟨by omega, by omega⟩ (fun g12 hS12 => ?_)
      replace hS12 : rE K g0 g12 0 (updI s n (v k)) := hS12
      show t_X d 38 108 lv10 [] g12 P
      refine t_1 rre_108 rfl (pb_goto (pc := 108) (by decide)) ?_
      show t_X d 38 274 lv10 [] g12 P
      refine t_0 rre_274 rfl (ld_a l0) ?_
      refine t_0 rre_275 rfl (pq_zv (lk_e hK) rfl (show cF g12 K 2 = 0 from S_f hS12 0 (Nat.le_of_ble_eq_true rfl))) ?_
      show t_X d 38 278 lv10 [oI 0] g12 P
      refine tz_eq rre_278 (by decide) ⟨by omega, by omega⟩ (fun c13 => ?_) (fun c13 => absurd c13 (by omega))
      show t_X d 38 283 lv10 [] g12 P
      refine t_2 rre_283 rfl (w := (px_s1 lv10 5 (oI ((k : Int) + 1)), [])) (pq_inc l5 (by decide)) ?_
      replace l0 : px_lg (px_s1 lv10 5 (oI ((k : Int) + 1))) 0 = some (pvR K) := s1_ne (by decide) (fun _ => rfl) l0
      replace l2 : px_lg (px_s1 lv10 5 (oI ((k : Int) + 1))) 2 = some (oI ((e : Int))) := s1_ne (by decide) (fun _ => rfl) l2
      replace l3 : px_lg (px_s1 lv10 5 (oI ((k : Int) + 1))) 3 = some (pvR 173) := s1_ne (by decide) (fun _ => rfl) l3
      replace l6 : px_lg (px_s1 lv10 5 (oI ((k : Int) + 1))) 6 = some (oI 0) := s1_ne (by decide) (fun _ => rfl) l6
      replace l7 : px_lg (px_s1 lv10 5 (oI ((k : Int) + 1))) 7 = some (oI (v k)) := s1_ne (by decide) (fun _ => rfl) l7
      replace l4 : px_lg (px_s1 lv10 5 (oI ((k : Int) + 1))) 4 = some (oI (((n : Int) - 1) + 1)) := s1_ne (by decide) (fun _ => rfl) l4
      have l5 : px_lg (px_s1 lv10 5 (oI ((k : Int) + 1))) 5 = some (oI ((k : Int) + 1)) := s1_eq
      generalize px_s1 lv10 5 (oI ((k : Int) + 1)) = lv14 at l0 l2 l3 l6 l7 l4 l5 ⊢
      show t_X d 38 286 lv14 [] g12 P
      refine t_1 rre_286 rfl (pb_goto (pc := 286) (by decide)) ?_
      show t_X d 38 11 lv14 [] g12 P
      have hP2 := hP
      rw [am_0 hke hO] at hP2
      exact ih (k + 1) (n + 1) _ _ (by omega) (by omega) (by omega) hD1 hS12 hP2 l0 l2 l3 (by rw [show (((n + 1 : Nat) : Int) - 1) = ((n : Int) - 1) + 1 by omega]; exact l4) (by rw [show (((k + 1 : Nat) : Int)) = (k : Int) + 1 by omega]; exact l5)
    · obtain ⟨hO, hv1, hv2⟩ := hO
      replace hD1 : (D (k + 1)).1 = n + 1 := by rw [hD1, ← hD]
      refine t_0 rre_11 rfl (ld_i l5) ?_
      refine t_0 rre_13 rfl (ld_i l2) ?_
      refine tb_ge rre_14 (by decide) ⟨by omega, by omega⟩ ⟨by omega, by omega⟩ (fun c1 => absurd c1 (by omega)) (fun c1 => ?_)
      show t_X d 38 17 lv [] g P
      refine t_0 rre_17 rfl (ld_i l5) ?_
      refine t_0 rre_19 rfl (pq_s (by decide)) ?_
      refine tb_ge rre_22 (by decide) ⟨by omega, by omega⟩ ⟨by omega, by omega⟩ (fun c2 => absurd c2 (by omega)) (fun c2 => ?_)
      show t_X d 38 25 lv [] g P
      refine t_0 rre_25 rfl (ld_a l0) ?_
      refine t_0 rre_26 rfl (lk_r3 hK (S_J hS).1) ?_
      show t_X d 38 29 lv [pvR (K + 1)] g P
      refine t_0 rre_29 rfl (ld_i l5) ?_
      have r3 := pb_a (S_J hS).1 (lk_t1 hK) (j := k) (by omega) (lk_G1 hK) ((fA_M (S_J hS).2 (rk_n hK).2.1).trans ho : fA g (K + 1) = o)
      refine t_0 rre_31 rfl (pq_iv (lk_t1 hK) rfl ⟨by omega, by omega⟩ ((fA_M (S_J hS).2 (rk_n hK).2.1).trans ho : fA g (K + 1) = o)) ?_
      show t_X d 38 32 lv [oI (o k)] g P
      rw [hO]
      show t_X d 38 32 lv [oI 1] g P
      refine t_2 rre_32 rfl (w := (px_s1 lv 6 (oI 1), [])) rfl ?_
      replace l0 : px_lg (px_s1 lv 6 (oI 1)) 0 = some (pvR K) := s1_ne (by decide) (fun _ => rfl) l0
      replace l2 : px_lg (px_s1 lv 6 (oI 1)) 2 = some (oI ((e : Int))) := s1_ne (by decide) (fun _ => rfl) l2
      replace l3 : px_lg (px_s1 lv 6 (oI 1)) 3 = some (pvR 173) := s1_ne (by decide) (fun _ => rfl) l3
      replace l4 : px_lg (px_s1 lv 6 (oI 1)) 4 = some (oI ((n : Int) - 1)) := s1_ne (by decide) (fun _ => rfl) l4
      replace l5 : px_lg (px_s1 lv 6 (oI 1)) 5 = some (oI ((k : Int))) := s1_ne (by decide) (fun _ => rfl) l5
      have l6 : px_lg (px_s1 lv 6 (oI 1)) 6 = some (oI 1) := s1_eq
      generalize px_s1 lv 6 (oI 1) = lv4 at l0 l2 l3 l4 l5 l6 ⊢
      show t_X d 38 34 lv4 [] g P
      refine t_0 rre_34 rfl (ld_a l0) ?_
      refine t_0 rre_35 rfl (lk_r4 hK (S_J hS).1) ?_
      show t_X d 38 38 lv4 [pvR (K + 2)] g P
      refine t_0 rre_38 rfl (ld_i l5) ?_
      have r5 := pb_a (S_J hS).1 (lk_t2 hK) (j := k) (by omega) (lk_G2 hK) ((fA_M (S_J hS).2 (rk_n hK).2.2.1).trans hv : fA g (K + 2) = v)
      refine t_0 rre_40 rfl (pq_iv (lk_t2 hK) rfl ⟨by omega, by omega⟩ ((fA_M (S_J hS).2 (rk_n hK).2.2.1).trans hv : fA g (K + 2) = v)) ?_
      show t_X d 38 41 lv4 [oI (v k)] g P
      refine t_2 rre_41 rfl (w := (px_s1 lv4 7 (oI (v k)), [])) rfl ?_
      replace l0 : px_lg (px_s1 lv4 7 (oI (v k))) 0 = some (pvR K) := s1_ne (by decide) (fun _ => rfl) l0
      replace l2 : px_lg (px_s1 lv4 7 (oI (v k))) 2 = some (oI ((e : Int))) := s1_ne (by decide) (fun _ => rfl) l2
      replace l3 : px_lg (px_s1 lv4 7 (oI (v k))) 3 = some (pvR 173) := s1_ne (by decide) (fun _ => rfl) l3
      replace l4 : px_lg (px_s1 lv4 7 (oI (v k))) 4 = some (oI ((n : Int) - 1)) := s1_ne (by decide) (fun _ => rfl) l4
      replace l5 : px_lg (px_s1 lv4 7 (oI (v k))) 5 = some (oI ((k : Int))) := s1_ne (by decide) (fun _ => rfl) l5
      replace l6 : px_lg (px_s1 lv4 7 (oI (v k))) 6 = some (oI 1) := s1_ne (by decide) (fun _ => rfl) l6
      have l7 : px_lg (px_s1 lv4 7 (oI (v k))) 7 = some (oI (v k)) := s1_eq
      generalize px_s1 lv4 7 (oI (v k)) = lv6 at l0 l2 l3 l4 l5 l6 l7 ⊢
      show t_X d 38 43 lv6 [] g P
      refine t_0 rre_43 rfl (ld_i l6) ?_
      refine tz_eq rre_45 (by decide) ⟨by omega, by omega⟩ (fun c7 => absurd c7 (by omega)) (fun c7 => ?_)
      show t_X d 38 48 lv6 [] g P
      refine t_0 rre_48 rfl (ld_i l6) ?_
      refine t_0 rre_50 rfl rfl ?_
      refine tb_ne rre_51 (by decide) ⟨by omega, by omega⟩ ⟨by omega, by omega⟩ (fun c8 => absurd c8 (by omega)) (fun c8 => ?_)
      show t_X d 38 54 lv6 [] g P
      refine t_0 rre_54 rfl (ld_i l4) ?_
      refine t_0 rre_56 rfl rfl ?_
      refine t_0 rre_57 rfl pq_add ?_
      refine t_0 rre_58 rfl (pq_b (by decide)) ?_
      refine tb_ge rre_60 (by decide) ⟨by omega, by omega⟩ ⟨by omega, by omega⟩ (fun c9 => absurd c9 (by omega)) (fun c9 => ?_)
      show t_X d 38 63 lv6 [] g P
      refine t_0 rre_63 rfl (ld_i l6) ?_
      refine t_0 rre_65 rfl rfl ?_
      refine tb_ne rre_66 (by decide) ⟨by omega, by omega⟩ ⟨by omega, by omega⟩ (fun c10 => absurd c10 (by omega)) (fun c10 => ?_)
      show t_X d 38 69 lv6 [] g P
      refine t_0 rre_69 rfl (ld_i l7) ?_
      refine t_0 rre_71 rfl rfl ?_
      refine t_0 rre_72 rfl (ld_a l3) ?_
      refine t_0 rre_73 rfl (pq_ln rez_173 rfl) ?_
      show t_X d 38 74 lv6 [oI 11, oI 0, oI (v k)] g P
      refine t_0 rre_74 rfl rfl ?_
      refine t_0 rre_75 rfl pq_sub ?_
      refine t_3 rre_76 rfl (ar := ([oI (v k), oI 0, oI (11 - 1)], [])) (pcal_s ⟨Or.inr rfl, rfl, Nat.le_of_ble_eq_true rfl⟩) ⟨by omega, Nat.le_of_ble_eq_true rfl, Nat.le_of_ble_eq_true rfl, rfl⟩ ?_
      refine ii_run ⟨by omega, by omega⟩ ⟨by omega, by omega⟩ ⟨by omega, by omega⟩ rfl rfl rfl (fun t11 => ?_) (fun t11 => absurd t11 (by omega))
      show t_X d 38 79 lv6 [oI 1] g P
      refine tz_ne rre_79 (by decide) ⟨by omega, by omega⟩ (fun c12 => ?_) (fun c12 => absurd c12 (by omega))
      show t_X d 38 84 lv6 [] g P
      refine t_2 rre_84 rfl (w := (px_s1 lv6 4 (oI (((n : Int) - 1) + 1)), [])) (pq_inc l4 (by decide)) ?_
      replace l0 : px_lg (px_s1 lv6 4 (oI (((n : Int) - 1) + 1))) 0 = some (pvR K) := s1_ne (by decide) (fun _ => rfl) l0
      replace l2 : px_lg (px_s1 lv6 4 (oI (((n : Int) - 1) + 1))) 2 = some (oI ((e : Int))) := s1_ne (by decide) (fun _ => rfl) l2
      replace l3 : px_lg (px_s1 lv6 4 (oI (((n : Int) - 1) + 1))) 3 = some (pvR 173) := s1_ne (by decide) (fun _ => rfl) l3
      replace l5 : px_lg (px_s1 lv6 4 (oI (((n : Int) - 1) + 1))) 5 = some (oI ((k : Int))) := s1_ne (by decide) (fun _ => rfl) l5
      replace l6 : px_lg (px_s1 lv6 4 (oI (((n : Int) - 1) + 1))) 6 = some (oI 1) := s1_ne (by decide) (fun _ => rfl) l6
      replace l7 : px_lg (px_s1 lv6 4 (oI (((n : Int) - 1) + 1))) 7 = some (oI (v k)) := s1_ne (by decide) (fun _ => rfl) l7
      have l4 : px_lg (px_s1 lv6 4 (oI (((n : Int) - 1) + 1))) 4 = some (oI (((n : Int) - 1) + 1)) := s1_eq
      generalize px_s1 lv6 4 (oI (((n : Int) - 1) + 1)) = lv13 at l0 l2 l3 l5 l6 l7 l4 ⊢
      show t_X d 38 87 lv13 [] g P
      refine t_0 rre_87 rfl (ld_a l0) ?_
      refine t_0 rre_88 rfl (rk_r9 hK (S_J hS).1) ?_
      show t_X d 38 91 lv13 [pvR (K + 7)] g P
      refine t_0 rre_91 rfl (ld_i l4) ?_
      show t_X d 38 93 lv13 [oI (((n : Int) - 1) + 1), pvR (K + 7)] g P
      rw [show ((n : Int) - 1) + 1 = ((n : Nat) : Int) by omega]
      show t_X d 38 93 lv13 [oI (((n : Nat) : Int)), pvR (K + 7)] g P
      refine t_0 rre_93 rfl (ld_i l6) ?_
      refine tz_ne rre_95 (by decide) ⟨by omega, by omega⟩ (fun c14 => ?_) (fun c14 => absurd c14 (by omega))
      show t_X d 38 103 lv13 [oI (((n : Nat) : Int)), pvR (K + 7)] g P
      refine t_0 rre_103 rfl (ld_a l3) ?_
      refine t_0 rre_104 rfl (ld_i l7) ?_
      have r15 := pb_a (S_J hS).1 rez_173 (j := (v k).toNat) (by omega) rgu_173 ((fA_M (S_J hS).2 (rk_n hK).2.2.2.2.2.2.2).trans hf : fA g 173 = f)
      refine t_0 rre_106 rfl (pq_iv rez_173 rfl ⟨by omega, by omega⟩ ((fA_M (S_J hS).2 (rk_n hK).2.2.2.2.2.2.2).trans hf : fA g 173 = f)) ?_
      show t_X d 38 107 lv13 [oI (f (v k).toNat), oI (((n : Nat) : Int)), pvR (K + 7)] g P
      refine ts_a (n := 0) rfl rfl (rk_a hK) rre_107 hS (rk_t7 hK) rfl (rk_u hK) (rk_G7 hK) (by decide) ⟨by omega, by omega⟩ ⟨by omega, by omega⟩ (fun g16 hS16 => ?_)
      replace hS16 : rE K g0 g16 0 (updI s n (f (v k).toNat)) := hS16
      show t_X d 38 108 lv13 [] g16 P
      refine t_1 rre_108 rfl (pb_goto (pc := 108) (by decide)) ?_
      show t_X d 38 274 lv13 [] g16 P
      refine t_0 rre_274 rfl (ld_a l0) ?_
      refine t_0 rre_275 rfl (pq_zv (lk_e hK) rfl (show cF g16 K 2 = 0 from S_f hS16 0 (Nat.le_of_ble_eq_true rfl))) ?_
      show t_X d 38 278 lv13 [oI 0] g16 P
      refine tz_eq rre_278 (by decide) ⟨by omega, by omega⟩ (fun c17 => ?_) (fun c17 => absurd c17 (by omega))
      show t_X d 38 283 lv13 [] g16 P
      refine t_2 rre_283 rfl (w := (px_s1 lv13 5 (oI ((k : Int) + 1)), [])) (pq_inc l5 (by decide)) ?_
      replace l0 : px_lg (px_s1 lv13 5 (oI ((k : Int) + 1))) 0 = some (pvR K) := s1_ne (by decide) (fun _ => rfl) l0
      replace l2 : px_lg (px_s1 lv13 5 (oI ((k : Int) + 1))) 2 = some (oI ((e : Int))) := s1_ne (by decide) (fun _ => rfl) l2
      replace l3 : px_lg (px_s1 lv13 5 (oI ((k : Int) + 1))) 3 = some (pvR 173) := s1_ne (by decide) (fun _ => rfl) l3
      replace l6 : px_lg (px_s1 lv13 5 (oI ((k : Int) + 1))) 6 = some (oI 1) := s1_ne (by decide) (fun _ => rfl) l6
      replace l7 : px_lg (px_s1 lv13 5 (oI ((k : Int) + 1))) 7 = some (oI (v k)) := s1_ne (by decide) (fun _ => rfl) l7
      replace l4 : px_lg (px_s1 lv13 5 (oI ((k : Int) + 1))) 4 = some (oI (((n : Int) - 1) + 1)) := s1_ne (by decide) (fun _ => rfl) l4
      have l5 : px_lg (px_s1 lv13 5 (oI ((k : Int) + 1))) 5 = some (oI ((k : Int) + 1)) := s1_eq
      generalize px_s1 lv13 5 (oI ((k : Int) + 1)) = lv18 at l0 l2 l3 l6 l7 l4 l5 ⊢
      show t_X d 38 286 lv18 [] g16 P
      refine t_1 rre_286 rfl (pb_goto (pc := 286) (by decide)) ?_
      show t_X d 38 11 lv18 [] g16 P
      have hP2 := hP
      rw [am_1 hke hO] at hP2
      exact ih (k + 1) (n + 1) _ _ (by omega) (by omega) (by omega) hD1 hS16 hP2 l0 l2 l3 (by rw [show (((n + 1 : Nat) : Int) - 1) = ((n : Int) - 1) + 1 by omega]; exact l4) (by rw [show (((k + 1 : Nat) : Int)) = (k : Int) + 1 by omega]; exact l5)
    · replace hD1 : (D (k + 1)).1 = n := by rw [hD1, ← hD]
      refine t_0 rre_11 rfl (ld_i l5) ?_
      refine t_0 rre_13 rfl (ld_i l2) ?_
      refine tb_ge rre_14 (by decide) ⟨by omega, by omega⟩ ⟨by omega, by omega⟩ (fun c1 => absurd c1 (by omega)) (fun c1 => ?_)
      show t_X d 38 17 lv [] g P
      refine t_0 rre_17 rfl (ld_i l5) ?_
      refine t_0 rre_19 rfl (pq_s (by decide)) ?_
      refine tb_ge rre_22 (by decide) ⟨by omega, by omega⟩ ⟨by omega, by omega⟩ (fun c2 => absurd c2 (by omega)) (fun c2 => ?_)
      show t_X d 38 25 lv [] g P
      refine t_0 rre_25 rfl (ld_a l0) ?_
      refine t_0 rre_26 rfl (lk_r3 hK (S_J hS).1) ?_
      show t_X d 38 29 lv [pvR (K + 1)] g P
      refine t_0 rre_29 rfl (ld_i l5) ?_
      have r3 := pb_a (S_J hS).1 (lk_t1 hK) (j := k) (by omega) (lk_G1 hK) ((fA_M (S_J hS).2 (rk_n hK).2.1).trans ho : fA g (K + 1) = o)
      refine t_0 rre_31 rfl (pq_iv (lk_t1 hK) rfl ⟨by omega, by omega⟩ ((fA_M (S_J hS).2 (rk_n hK).2.1).trans ho : fA g (K + 1) = o)) ?_
      show t_X d 38 32 lv [oI (o k)] g P
      rw [hO]
      show t_X d 38 32 lv [oI 10] g P
      refine t_2 rre_32 rfl (w := (px_s1 lv 6 (oI 10), [])) rfl ?_
      replace l0 : px_lg (px_s1 lv 6 (oI 10)) 0 = some (pvR K) := s1_ne (by decide) (fun _ => rfl) l0
      replace l2 : px_lg (px_s1 lv 6 (oI 10)) 2 = some (oI ((e : Int))) := s1_ne (by decide) (fun _ => rfl) l2
      replace l3 : px_lg (px_s1 lv 6 (oI 10)) 3 = some (pvR 173) := s1_ne (by decide) (fun _ => rfl) l3
      replace l4 : px_lg (px_s1 lv 6 (oI 10)) 4 = some (oI ((n : Int) - 1)) := s1_ne (by decide) (fun _ => rfl) l4
      replace l5 : px_lg (px_s1 lv 6 (oI 10)) 5 = some (oI ((k : Int))) := s1_ne (by decide) (fun _ => rfl) l5
      have l6 : px_lg (px_s1 lv 6 (oI 10)) 6 = some (oI 10) := s1_eq
      generalize px_s1 lv 6 (oI 10) = lv4 at l0 l2 l3 l4 l5 l6 ⊢
      show t_X d 38 34 lv4 [] g P
      refine t_0 rre_34 rfl (ld_a l0) ?_
      refine t_0 rre_35 rfl (lk_r4 hK (S_J hS).1) ?_
      show t_X d 38 38 lv4 [pvR (K + 2)] g P
      refine t_0 rre_38 rfl (ld_i l5) ?_
      have r5 := pb_a (S_J hS).1 (lk_t2 hK) (j := k) (by omega) (lk_G2 hK) ((fA_M (S_J hS).2 (rk_n hK).2.2.1).trans hv : fA g (K + 2) = v)
      refine t_0 rre_40 rfl (pq_iv (lk_t2 hK) rfl ⟨by omega, by omega⟩ ((fA_M (S_J hS).2 (rk_n hK).2.2.1).trans hv : fA g (K + 2) = v)) ?_
      show t_X d 38 41 lv4 [oI (v k)] g P
      refine t_2 rre_41 rfl (w := (px_s1 lv4 7 (oI (v k)), [])) rfl ?_
      replace l0 : px_lg (px_s1 lv4 7 (oI (v k))) 0 = some (pvR K) := s1_ne (by decide) (fun _ => rfl) l0
      replace l2 : px_lg (px_s1 lv4 7 (oI (v k))) 2 = some (oI ((e : Int))) := s1_ne (by decide) (fun _ => rfl) l2
      replace l3 : px_lg (px_s1 lv4 7 (oI (v k))) 3 = some (pvR 173) := s1_ne (by decide) (fun _ => rfl) l3
      replace l4 : px_lg (px_s1 lv4 7 (oI (v k))) 4 = some (oI ((n : Int) - 1)) := s1_ne (by decide) (fun _ => rfl) l4
      replace l5 : px_lg (px_s1 lv4 7 (oI (v k))) 5 = some (oI ((k : Int))) := s1_ne (by decide) (fun _ => rfl) l5
      replace l6 : px_lg (px_s1 lv4 7 (oI (v k))) 6 = some (oI 10) := s1_ne (by decide) (fun _ => rfl) l6
      have l7 : px_lg (px_s1 lv4 7 (oI (v k))) 7 = some (oI (v k)) := s1_eq
      generalize px_s1 lv4 7 (oI (v k)) = lv6 at l0 l2 l3 l4 l5 l6 l7 ⊢
      show t_X d 38 43 lv6 [] g P
      refine t_0 rre_43 rfl (ld_i l6) ?_
      refine tz_eq rre_45 (by decide) ⟨by omega, by omega⟩ (fun c7 => absurd c7 (by omega)) (fun c7 => ?_)
      show t_X d 38 48 lv6 [] g P
      refine t_0 rre_48 rfl (ld_i l6) ?_
      refine t_0 rre_50 rfl rfl ?_
      refine tb_ne rre_51 (by decide) ⟨by omega, by omega⟩ ⟨by omega, by omega⟩ (fun c8 => ?_) (fun c8 => absurd c8 (by omega))
      show t_X d 38 111 lv6 [] g P
      refine t_0 rre_111 rfl (ld_i l4) ?_
      refine tz_ge rre_113 (by decide) ⟨by omega, by omega⟩ (fun c9 => ?_) (fun c9 => absurd c9 (by omega))
      show t_X d 38 118 lv6 [] g P
      refine t_0 rre_118 rfl (ld_i l6) ?_
      refine t_0 rre_120 rfl (pq_b (by decide)) ?_
      refine tb_ne rre_122 (by decide) ⟨by omega, by omega⟩ ⟨by omega, by omega⟩ (fun c10 => absurd c10 (by omega)) (fun c10 => ?_)
      show t_X d 38 125 lv6 [] g P
      refine t_0 rre_125 rfl (ld_a l0) ?_
      refine t_0 rre_126 rfl (rk_r9 hK (S_J hS).1) ?_
      show t_X d 38 129 lv6 [pvR (K + 7)] g P
      refine t_0 rre_129 rfl (ld_i l4) ?_
      show t_X d 38 131 lv6 [oI ((n : Int) - 1), pvR (K + 7)] g P
      rw [show (n : Int) - 1 = ((n - 1 : Nat) : Int) by omega]
      show t_X d 38 131 lv6 [oI (((n - 1 : Nat) : Int)), pvR (K + 7)] g P
      refine t_0 rre_131 rfl rfl ?_
      refine t_0 rre_132 rfl (ld_a l0) ?_
      refine t_0 rre_133 rfl (rk_r9 hK (S_J hS).1) ?_
      show t_X d 38 136 lv6 [pvR (K + 7), oI 1, oI (((n - 1 : Nat) : Int)), pvR (K + 7)] g P
      refine t_0 rre_136 rfl (ld_i l4) ?_
      show t_X d 38 138 lv6 [oI ((n : Int) - 1), pvR (K + 7), oI 1, oI (((n - 1 : Nat) : Int)), pvR (K + 7)] g P
      rw [show (n : Int) - 1 = ((n - 1 : Nat) : Int) by omega]
      show t_X d 38 138 lv6 [oI (((n - 1 : Nat) : Int)), pvR (K + 7), oI 1, oI (((n - 1 : Nat) : Int)), pvR (K + 7)] g P
      have r11 := pb_a (S_J hS).1 (rk_t7 hK) (j := n - 1) (by omega) (rk_G7 hK) (show fA g (K + 7) = s from S_a hS 0 (Nat.le_of_ble_eq_true rfl))
      refine t_0 rre_138 rfl (pq_iv (rk_t7 hK) rfl ⟨by omega, by omega⟩ (show fA g (K + 7) = s from S_a hS 0 (Nat.le_of_ble_eq_true rfl))) ?_
      show t_X d 38 139 lv6 [oI (s (n - 1)), oI 1, oI (((n - 1 : Nat) : Int)), pvR (K + 7)] g P
      refine t_0 rre_139 rfl pq_sub ?_
      have bb := b32_b (1 - s (n - 1))
      rw [b32_o (1 - s (n - 1))]
      show t_X d 38 140 lv6 [oI (b32 (1 - s (n - 1))), oI (((n - 1 : Nat) : Int)), pvR (K + 7)] g P
      refine ts_a (n := 0) rfl rfl (rk_a hK) rre_140 hS (rk_t7 hK) rfl (rk_u hK) (rk_G7 hK) (by decide) ⟨by omega, by omega⟩ ⟨by omega, by omega⟩ (fun g12 hS12 => ?_)
      replace hS12 : rE K g0 g12 0 (updI s (n - 1) (b32 (1 - s (n - 1)))) := hS12
      show t_X d 38 141 lv6 [] g12 P
      refine t_1 rre_141 rfl (pb_goto (pc := 141) (by decide)) ?_
      show t_X d 38 274 lv6 [] g12 P
      refine t_0 rre_274 rfl (ld_a l0) ?_
      refine t_0 rre_275 rfl (pq_zv (lk_e hK) rfl (show cF g12 K 2 = 0 from S_f hS12 0 (Nat.le_of_ble_eq_true rfl))) ?_
      show t_X d 38 278 lv6 [oI 0] g12 P
      refine tz_eq rre_278 (by decide) ⟨by omega, by omega⟩ (fun c13 => ?_) (fun c13 => absurd c13 (by omega))
      show t_X d 38 283 lv6 [] g12 P
      refine t_2 rre_283 rfl (w := (px_s1 lv6 5 (oI ((k : Int) + 1)), [])) (pq_inc l5 (by decide)) ?_
      replace l0 : px_lg (px_s1 lv6 5 (oI ((k : Int) + 1))) 0 = some (pvR K) := s1_ne (by decide) (fun _ => rfl) l0
      replace l2 : px_lg (px_s1 lv6 5 (oI ((k : Int) + 1))) 2 = some (oI ((e : Int))) := s1_ne (by decide) (fun _ => rfl) l2
      replace l3 : px_lg (px_s1 lv6 5 (oI ((k : Int) + 1))) 3 = some (pvR 173) := s1_ne (by decide) (fun _ => rfl) l3
      replace l4 : px_lg (px_s1 lv6 5 (oI ((k : Int) + 1))) 4 = some (oI ((n : Int) - 1)) := s1_ne (by decide) (fun _ => rfl) l4
      replace l6 : px_lg (px_s1 lv6 5 (oI ((k : Int) + 1))) 6 = some (oI 10) := s1_ne (by decide) (fun _ => rfl) l6
      replace l7 : px_lg (px_s1 lv6 5 (oI ((k : Int) + 1))) 7 = some (oI (v k)) := s1_ne (by decide) (fun _ => rfl) l7
      have l5 : px_lg (px_s1 lv6 5 (oI ((k : Int) + 1))) 5 = some (oI ((k : Int) + 1)) := s1_eq
      generalize px_s1 lv6 5 (oI ((k : Int) + 1)) = lv14 at l0 l2 l3 l4 l6 l7 l5 ⊢
      show t_X d 38 286 lv14 [] g12 P
      refine t_1 rre_286 rfl (pb_goto (pc := 286) (by decide)) ?_
      show t_X d 38 11 lv14 [] g12 P
      have hP2 := hP
      rw [am_n hke hO] at hP2
      exact ih (k + 1) (n) _ _ (by omega) (by omega) (by omega) hD1 hS12 hP2 l0 l2 l3 (by rw [show (((n : Nat) : Int) - 1) = (n : Int) - 1 by omega]; exact l4) (by rw [show (((k + 1 : Nat) : Int)) = (k : Int) + 1 by omega]; exact l5)
    · replace hD1 : (D (k + 1)).1 = n - 1 := by rw [hD1, ← hD]
      replace hDt : (D t).1 = n := by rw [hDt, ← hD]
      refine t_0 rre_11 rfl (ld_i l5) ?_
      refine t_0 rre_13 rfl (ld_i l2) ?_
      refine tb_ge rre_14 (by decide) ⟨by omega, by omega⟩ ⟨by omega, by omega⟩ (fun c1 => absurd c1 (by omega)) (fun c1 => ?_)
      show t_X d 38 17 lv [] g P
      refine t_0 rre_17 rfl (ld_i l5) ?_
      refine t_0 rre_19 rfl (pq_s (by decide)) ?_
      refine tb_ge rre_22 (by decide) ⟨by omega, by omega⟩ ⟨by omega, by omega⟩ (fun c2 => absurd c2 (by omega)) (fun c2 => ?_)
      show t_X d 38 25 lv [] g P
      refine t_0 rre_25 rfl (ld_a l0) ?_
      refine t_0 rre_26 rfl (lk_r3 hK (S_J hS).1) ?_
      show t_X d 38 29 lv [pvR (K + 1)] g P
      refine t_0 rre_29 rfl (ld_i l5) ?_
      have r3 := pb_a (S_J hS).1 (lk_t1 hK) (j := k) (by omega) (lk_G1 hK) ((fA_M (S_J hS).2 (rk_n hK).2.1).trans ho : fA g (K + 1) = o)
      refine t_0 rre_31 rfl (pq_iv (lk_t1 hK) rfl ⟨by omega, by omega⟩ ((fA_M (S_J hS).2 (rk_n hK).2.1).trans ho : fA g (K + 1) = o)) ?_
      show t_X d 38 32 lv [oI (o k)] g P
      rw [hO]
      show t_X d 38 32 lv [oI 11] g P
      refine t_2 rre_32 rfl (w := (px_s1 lv 6 (oI 11), [])) rfl ?_
      replace l0 : px_lg (px_s1 lv 6 (oI 11)) 0 = some (pvR K) := s1_ne (by decide) (fun _ => rfl) l0
      replace l2 : px_lg (px_s1 lv 6 (oI 11)) 2 = some (oI ((e : Int))) := s1_ne (by decide) (fun _ => rfl) l2
      replace l3 : px_lg (px_s1 lv 6 (oI 11)) 3 = some (pvR 173) := s1_ne (by decide) (fun _ => rfl) l3
      replace l4 : px_lg (px_s1 lv 6 (oI 11)) 4 = some (oI ((n : Int) - 1)) := s1_ne (by decide) (fun _ => rfl) l4
      replace l5 : px_lg (px_s1 lv 6 (oI 11)) 5 = some (oI ((k : Int))) := s1_ne (by decide) (fun _ => rfl) l5
      have l6 : px_lg (px_s1 lv 6 (oI 11)) 6 = some (oI 11) := s1_eq
      generalize px_s1 lv 6 (oI 11) = lv4 at l0 l2 l3 l4 l5 l6 ⊢
      show t_X d 38 34 lv4 [] g P
      refine t_0 rre_34 rfl (ld_a l0) ?_
      refine t_0 rre_35 rfl (lk_r4 hK (S_J hS).1) ?_
      show t_X d 38 38 lv4 [pvR (K + 2)] g P
      refine t_0 rre_38 rfl (ld_i l5) ?_
      have r5 := pb_a (S_J hS).1 (lk_t2 hK) (j := k) (by omega) (lk_G2 hK) ((fA_M (S_J hS).2 (rk_n hK).2.2.1).trans hv : fA g (K + 2) = v)
      refine t_0 rre_40 rfl (pq_iv (lk_t2 hK) rfl ⟨by omega, by omega⟩ ((fA_M (S_J hS).2 (rk_n hK).2.2.1).trans hv : fA g (K + 2) = v)) ?_
      show t_X d 38 41 lv4 [oI (v k)] g P
      rw [hV]
      show t_X d 38 41 lv4 [oI ((t : Int))] g P
      refine t_2 rre_41 rfl (w := (px_s1 lv4 7 (oI ((t : Int))), [])) rfl ?_
      replace l0 : px_lg (px_s1 lv4 7 (oI ((t : Int)))) 0 = some (pvR K) := s1_ne (by decide) (fun _ => rfl) l0
      replace l2 : px_lg (px_s1 lv4 7 (oI ((t : Int)))) 2 = some (oI ((e : Int))) := s1_ne (by decide) (fun _ => rfl) l2
      replace l3 : px_lg (px_s1 lv4 7 (oI ((t : Int)))) 3 = some (pvR 173) := s1_ne (by decide) (fun _ => rfl) l3
      replace l4 : px_lg (px_s1 lv4 7 (oI ((t : Int)))) 4 = some (oI ((n : Int) - 1)) := s1_ne (by decide) (fun _ => rfl) l4
      replace l5 : px_lg (px_s1 lv4 7 (oI ((t : Int)))) 5 = some (oI ((k : Int))) := s1_ne (by decide) (fun _ => rfl) l5
      replace l6 : px_lg (px_s1 lv4 7 (oI ((t : Int)))) 6 = some (oI 11) := s1_ne (by decide) (fun _ => rfl) l6
      have l7 : px_lg (px_s1 lv4 7 (oI ((t : Int)))) 7 = some (oI ((t : Int))) := s1_eq
      generalize px_s1 lv4 7 (oI ((t : Int))) = lv6 at l0 l2 l3 l4 l5 l6 l7 ⊢
      show t_X d 38 43 lv6 [] g P
      refine t_0 rre_43 rfl (ld_i l6) ?_
      refine tz_eq rre_45 (by decide) ⟨by omega, by omega⟩ (fun c7 => absurd c7 (by omega)) (fun c7 => ?_)
      show t_X d 38 48 lv6 [] g P
      refine t_0 rre_48 rfl (ld_i l6) ?_
      refine t_0 rre_50 rfl rfl ?_
      refine tb_ne rre_51 (by decide) ⟨by omega, by omega⟩ ⟨by omega, by omega⟩ (fun c8 => ?_) (fun c8 => absurd c8 (by omega))
      show t_X d 38 111 lv6 [] g P
      refine t_0 rre_111 rfl (ld_i l4) ?_
      refine tz_ge rre_113 (by decide) ⟨by omega, by omega⟩ (fun c9 => ?_) (fun c9 => absurd c9 (by omega))
      show t_X d 38 118 lv6 [] g P
      refine t_0 rre_118 rfl (ld_i l6) ?_
      refine t_0 rre_120 rfl (pq_b (by decide)) ?_
      refine tb_ne rre_122 (by decide) ⟨by omega, by omega⟩ ⟨by omega, by omega⟩ (fun c10 => ?_) (fun c10 => absurd c10 (by omega))
      show t_X d 38 144 lv6 [] g P
      refine t_0 rre_144 rfl (ld_i l6) ?_
      refine t_0 rre_146 rfl (pq_b (by decide)) ?_
      refine tb_eq rre_148 (by decide) ⟨by omega, by omega⟩ ⟨by omega, by omega⟩ (fun c11 => ?_) (fun c11 => absurd c11 (by omega))
      show t_X d 38 158 lv6 [] g P
      refine t_0 rre_158 rfl (ld_a l0) ?_
      refine t_0 rre_159 rfl (rk_r9 hK (S_J hS).1) ?_
      show t_X d 38 162 lv6 [pvR (K + 7)] g P
      refine t_0 rre_162 rfl (ld_i l4) ?_
      show t_X d 38 164 lv6 [oI ((n : Int) - 1), pvR (K + 7)] g P
      rw [show (n : Int) - 1 = ((n - 1 : Nat) : Int) by omega]
      show t_X d 38 164 lv6 [oI (((n - 1 : Nat) : Int)), pvR (K + 7)] g P
      have r12 := pb_a (S_J hS).1 (rk_t7 hK) (j := n - 1) (by omega) (rk_G7 hK) (show fA g (K + 7) = s from S_a hS 0 (Nat.le_of_ble_eq_true rfl))
      refine t_0 rre_164 rfl (pq_iv (rk_t7 hK) rfl ⟨by omega, by omega⟩ (show fA g (K + 7) = s from S_a hS 0 (Nat.le_of_ble_eq_true rfl))) ?_
      show t_X d 38 165 lv6 [oI (s (n - 1))] g P
      refine tz_eq rre_165 (by decide) ⟨by omega, by omega⟩ (fun c13 => ?_) (fun c13 => ?_)
      · show t_X d 38 172 lv6 [] g P
        refine t_0 rre_172 rfl rfl ?_
        refine t_0 rre_173 rfl (ld_i l6) ?_
        refine t_0 rre_175 rfl (pq_b (by decide)) ?_
        refine tb_ne rre_177 (by decide) ⟨by omega, by omega⟩ ⟨by omega, by omega⟩ (fun c14 => ?_) (fun c14 => absurd c14 (by omega))
        show t_X d 38 184 lv6 [oI 0] g P
        refine t_0 rre_184 rfl rfl ?_
        refine tb_ne rre_185 (by decide) ⟨by omega, by omega⟩ ⟨by omega, by omega⟩ (fun c15 => absurd c15 (by omega)) (fun c15 => ?_)
        show t_X d 38 188 lv6 [] g P
        refine t_0 rre_188 rfl rfl ?_
        refine t_1 rre_189 rfl (pb_goto (pc := 189) (by decide)) ?_
        show t_X d 38 193 lv6 [oI 1] g P
        refine t_2 rre_193 rfl (w := (px_s1 lv6 8 (oI 1), [])) rfl ?_
        replace l0 : px_lg (px_s1 lv6 8 (oI 1)) 0 = some (pvR K) := s1_ne (by decide) (fun _ => rfl) l0
        replace l2 : px_lg (px_s1 lv6 8 (oI 1)) 2 = some (oI ((e : Int))) := s1_ne (by decide) (fun _ => rfl) l2
        replace l3 : px_lg (px_s1 lv6 8 (oI 1)) 3 = some (pvR 173) := s1_ne (by decide) (fun _ => rfl) l3
        replace l4 : px_lg (px_s1 lv6 8 (oI 1)) 4 = some (oI ((n : Int) - 1)) := s1_ne (by decide) (fun _ => rfl) l4
        replace l5 : px_lg (px_s1 lv6 8 (oI 1)) 5 = some (oI ((k : Int))) := s1_ne (by decide) (fun _ => rfl) l5
        replace l6 : px_lg (px_s1 lv6 8 (oI 1)) 6 = some (oI 11) := s1_ne (by decide) (fun _ => rfl) l6
        replace l7 : px_lg (px_s1 lv6 8 (oI 1)) 7 = some (oI ((t : Int))) := s1_ne (by decide) (fun _ => rfl) l7
        have l8 : px_lg (px_s1 lv6 8 (oI 1)) 8 = some (oI 1) := s1_eq
        generalize px_s1 lv6 8 (oI 1) = lv16 at l0 l2 l3 l4 l5 l6 l7 l8 ⊢
        show t_X d 38 195 lv16 [] g P
        refine t_0 rre_195 rfl (ld_i l8) ?_
        refine tz_eq rre_197 (by decide) ⟨by omega, by omega⟩ (fun c17 => absurd c17 (by omega)) (fun c17 => ?_)
        show t_X d 38 200 lv16 [] g P
        refine t_0 rre_200 rfl (ld_i l5) ?_
        refine t_0 rre_202 rfl (ld_i l7) ?_
        refine t_0 rre_204 rfl rfl ?_
        refine t_0 rre_205 rfl pq_sub ?_
        refine t_0 rre_206 rfl (pq_mx (by omega) (Nat.le_of_ble_eq_true rfl) ⟨by omega, by omega⟩ ⟨by omega, by omega⟩) ?_
        rw [show (if (k : Int) < ((t : Int) - 1) then ((t : Int) - 1) else (k : Int)) = ((t : Int) - 1) from by by_cases z : (k : Int) < ((t : Int) - 1); { rw [if_pos z] }; { rw [if_neg z]; omega }]
        show t_X d 38 209 lv16 [oI ((t : Int) - 1)] g P
        refine t_1 rre_209 rfl (pb_goto (pc := 209) (by decide)) ?_
        show t_X d 38 214 lv16 [oI ((t : Int) - 1)] g P
        refine t_2 rre_214 rfl (w := (px_s1 lv16 5 (oI ((t : Int) - 1)), [])) rfl ?_
        replace l0 : px_lg (px_s1 lv16 5 (oI ((t : Int) - 1))) 0 = some (pvR K) := s1_ne (by decide) (fun _ => rfl) l0
        replace l2 : px_lg (px_s1 lv16 5 (oI ((t : Int) - 1))) 2 = some (oI ((e : Int))) := s1_ne (by decide) (fun _ => rfl) l2
        replace l3 : px_lg (px_s1 lv16 5 (oI ((t : Int) - 1))) 3 = some (pvR 173) := s1_ne (by decide) (fun _ => rfl) l3
        replace l4 : px_lg (px_s1 lv16 5 (oI ((t : Int) - 1))) 4 = some (oI ((n : Int) - 1)) := s1_ne (by decide) (fun _ => rfl) l4
        replace l6 : px_lg (px_s1 lv16 5 (oI ((t : Int) - 1))) 6 = some (oI 11) := s1_ne (by decide) (fun _ => rfl) l6
        replace l7 : px_lg (px_s1 lv16 5 (oI ((t : Int) - 1))) 7 = some (oI ((t : Int))) := s1_ne (by decide) (fun _ => rfl) l7
        replace l8 : px_lg (px_s1 lv16 5 (oI ((t : Int) - 1))) 8 = some (oI 1) := s1_ne (by decide) (fun _ => rfl) l8
        have l5 : px_lg (px_s1 lv16 5 (oI ((t : Int) - 1))) 5 = some (oI ((t : Int) - 1)) := s1_eq
        generalize px_s1 lv16 5 (oI ((t : Int) - 1)) = lv18 at l0 l2 l3 l4 l6 l7 l8 l5 ⊢
        show t_X d 38 216 lv18 [] g P
        refine t_0 rre_216 rfl (ld_i l4) ?_
        show t_X d 38 218 lv18 [oI ((n : Int) - 1)] g P
        rw [show (n : Int) - 1 = ((n - 1 : Nat) : Int) by omega]
        show t_X d 38 218 lv18 [oI (((n - 1 : Nat) : Int))] g P
        refine t_0 rre_218 rfl (ld_i l8) ?_
        refine tz_eq rre_220 (by decide) ⟨by omega, by omega⟩ (fun c19 => absurd c19 (by omega)) (fun c19 => ?_)
        show t_X d 38 223 lv18 [oI (((n - 1 : Nat) : Int))] g P
        refine t_0 rre_223 rfl rfl ?_
        refine t_1 rre_224 rfl (pb_goto (pc := 224) (by decide)) ?_
        show t_X d 38 228 lv18 [oI 0, oI (((n - 1 : Nat) : Int))] g P
        refine t_0 rre_228 rfl pq_sub ?_
        refine t_2 rre_229 rfl (w := (px_s1 lv18 4 (oI (((n - 1 : Nat) : Int) - 0)), [])) rfl ?_
        replace l0 : px_lg (px_s1 lv18 4 (oI (((n - 1 : Nat) : Int) - 0))) 0 = some (pvR K) := s1_ne (by decide) (fun _ => rfl) l0
        replace l2 : px_lg (px_s1 lv18 4 (oI (((n - 1 : Nat) : Int) - 0))) 2 = some (oI ((e : Int))) := s1_ne (by decide) (fun _ => rfl) l2
        replace l3 : px_lg (px_s1 lv18 4 (oI (((n - 1 : Nat) : Int) - 0))) 3 = some (pvR 173) := s1_ne (by decide) (fun _ => rfl) l3
        replace l6 : px_lg (px_s1 lv18 4 (oI (((n - 1 : Nat) : Int) - 0))) 6 = some (oI 11) := s1_ne (by decide) (fun _ => rfl) l6
        replace l7 : px_lg (px_s1 lv18 4 (oI (((n - 1 : Nat) : Int) - 0))) 7 = some (oI ((t : Int))) := s1_ne (by decide) (fun _ => rfl) l7
        replace l8 : px_lg (px_s1 lv18 4 (oI (((n - 1 : Nat) : Int) - 0))) 8 = some (oI 1) := s1_ne (by decide) (fun _ => rfl) l8
        replace l5 : px_lg (px_s1 lv18 4 (oI (((n - 1 : Nat) : Int) - 0))) 5 = some (oI ((t : Int) - 1)) := s1_ne (by decide) (fun _ => rfl) l5
        have l4 : px_lg (px_s1 lv18 4 (oI (((n - 1 : Nat) : Int) - 0))) 4 = some (oI (((n - 1 : Nat) : Int) - 0)) := s1_eq
        generalize px_s1 lv18 4 (oI (((n - 1 : Nat) : Int) - 0)) = lv20 at l0 l2 l3 l6 l7 l8 l5 l4 ⊢
        show t_X d 38 231 lv20 [] g P
        refine t_1 rre_231 rfl (pb_goto (pc := 231) (by decide)) ?_
        show t_X d 38 274 lv20 [] g P
        refine t_0 rre_274 rfl (ld_a l0) ?_
        refine t_0 rre_275 rfl (pq_zv (lk_e hK) rfl (show cF g K 2 = 0 from S_f hS 0 (Nat.le_of_ble_eq_true rfl))) ?_
        show t_X d 38 278 lv20 [oI 0] g P
        refine tz_eq rre_278 (by decide) ⟨by omega, by omega⟩ (fun c21 => ?_) (fun c21 => absurd c21 (by omega))
        show t_X d 38 283 lv20 [] g P
        refine t_2 rre_283 rfl (w := (px_s1 lv20 5 (oI (((t : Int) - 1) + 1)), [])) (pq_inc l5 (by decide)) ?_
        replace l0 : px_lg (px_s1 lv20 5 (oI (((t : Int) - 1) + 1))) 0 = some (pvR K) := s1_ne (by decide) (fun _ => rfl) l0
        replace l2 : px_lg (px_s1 lv20 5 (oI (((t : Int) - 1) + 1))) 2 = some (oI ((e : Int))) := s1_ne (by decide) (fun _ => rfl) l2
        replace l3 : px_lg (px_s1 lv20 5 (oI (((t : Int) - 1) + 1))) 3 = some (pvR 173) := s1_ne (by decide) (fun _ => rfl) l3
        replace l6 : px_lg (px_s1 lv20 5 (oI (((t : Int) - 1) + 1))) 6 = some (oI 11) := s1_ne (by decide) (fun _ => rfl) l6
        replace l7 : px_lg (px_s1 lv20 5 (oI (((t : Int) - 1) + 1))) 7 = some (oI ((t : Int))) := s1_ne (by decide) (fun _ => rfl) l7
        replace l8 : px_lg (px_s1 lv20 5 (oI (((t : Int) - 1) + 1))) 8 = some (oI 1) := s1_ne (by decide) (fun _ => rfl) l8
        replace l4 : px_lg (px_s1 lv20 5 (oI (((t : Int) - 1) + 1))) 4 = some (oI (((n - 1 : Nat) : Int) - 0)) := s1_ne (by decide) (fun _ => rfl) l4
        have l5 : px_lg (px_s1 lv20 5 (oI (((t : Int) - 1) + 1))) 5 = some (oI (((t : Int) - 1) + 1)) := s1_eq
        generalize px_s1 lv20 5 (oI (((t : Int) - 1) + 1)) = lv22 at l0 l2 l3 l6 l7 l8 l4 l5 ⊢
        show t_X d 38 286 lv22 [] g P
        refine t_1 rre_286 rfl (pb_goto (pc := 286) (by decide)) ?_
        show t_X d 38 11 lv22 [] g P
        have hP2 := hP
        rw [am_a hke hO c13] at hP2
        rw [show (v k).toNat = t by omega] at hP2
        exact ih (t) (n) _ _ (by omega) (by omega) (by omega) hDt hS hP2 l0 l2 l3 (by rw [show (((n : Nat) : Int) - 1) = ((n - 1 : Nat) : Int) - 0 by omega]; exact l4) (by rw [show (((t : Nat) : Int)) = ((t : Int) - 1) + 1 by omega]; exact l5)
      · show t_X d 38 168 lv6 [] g P
        refine t_0 rre_168 rfl rfl ?_
        refine t_1 rre_169 rfl (pb_goto (pc := 169) (by decide)) ?_
        show t_X d 38 173 lv6 [oI 1] g P
        refine t_0 rre_173 rfl (ld_i l6) ?_
        refine t_0 rre_175 rfl (pq_b (by decide)) ?_
        refine tb_ne rre_177 (by decide) ⟨by omega, by omega⟩ ⟨by omega, by omega⟩ (fun c23 => ?_) (fun c23 => absurd c23 (by omega))
        show t_X d 38 184 lv6 [oI 1] g P
        refine t_0 rre_184 rfl rfl ?_
        refine tb_ne rre_185 (by decide) ⟨by omega, by omega⟩ ⟨by omega, by omega⟩ (fun c24 => ?_) (fun c24 => absurd c24 (by omega))
        show t_X d 38 192 lv6 [] g P
        refine t_0 rre_192 rfl rfl ?_
        refine t_2 rre_193 rfl (w := (px_s1 lv6 8 (oI 0), [])) rfl ?_
        replace l0 : px_lg (px_s1 lv6 8 (oI 0)) 0 = some (pvR K) := s1_ne (by decide) (fun _ => rfl) l0
        replace l2 : px_lg (px_s1 lv6 8 (oI 0)) 2 = some (oI ((e : Int))) := s1_ne (by decide) (fun _ => rfl) l2
        replace l3 : px_lg (px_s1 lv6 8 (oI 0)) 3 = some (pvR 173) := s1_ne (by decide) (fun _ => rfl) l3
        replace l4 : px_lg (px_s1 lv6 8 (oI 0)) 4 = some (oI ((n : Int) - 1)) := s1_ne (by decide) (fun _ => rfl) l4
        replace l5 : px_lg (px_s1 lv6 8 (oI 0)) 5 = some (oI ((k : Int))) := s1_ne (by decide) (fun _ => rfl) l5
        replace l6 : px_lg (px_s1 lv6 8 (oI 0)) 6 = some (oI 11) := s1_ne (by decide) (fun _ => rfl) l6
        replace l7 : px_lg (px_s1 lv6 8 (oI 0)) 7 = some (oI ((t : Int))) := s1_ne (by decide) (fun _ => rfl) l7
        have l8 : px_lg (px_s1 lv6 8 (oI 0)) 8 = some (oI 0) := s1_eq
        generalize px_s1 lv6 8 (oI 0) = lv25 at l0 l2 l3 l4 l5 l6 l7 l8 ⊢
        show t_X d 38 195 lv25 [] g P
        refine t_0 rre_195 rfl (ld_i l8) ?_
        refine tz_eq rre_197 (by decide) ⟨by omega, by omega⟩ (fun c26 => ?_) (fun c26 => absurd c26 (by omega))
        show t_X d 38 212 lv25 [] g P
        refine t_0 rre_212 rfl (ld_i l5) ?_
        refine t_2 rre_214 rfl (w := (px_s1 lv25 5 (oI ((k : Int))), [])) rfl ?_
        replace l0 : px_lg (px_s1 lv25 5 (oI ((k : Int)))) 0 = some (pvR K) := s1_ne (by decide) (fun _ => rfl) l0
        replace l2 : px_lg (px_s1 lv25 5 (oI ((k : Int)))) 2 = some (oI ((e : Int))) := s1_ne (by decide) (fun _ => rfl) l2
        replace l3 : px_lg (px_s1 lv25 5 (oI ((k : Int)))) 3 = some (pvR 173) := s1_ne (by decide) (fun _ => rfl) l3
        replace l4 : px_lg (px_s1 lv25 5 (oI ((k : Int)))) 4 = some (oI ((n : Int) - 1)) := s1_ne (by decide) (fun _ => rfl) l4
        replace l6 : px_lg (px_s1 lv25 5 (oI ((k : Int)))) 6 = some (oI 11) := s1_ne (by decide) (fun _ => rfl) l6
        replace l7 : px_lg (px_s1 lv25 5 (oI ((k : Int)))) 7 = some (oI ((t : Int))) := s1_ne (by decide) (fun _ => rfl) l7
        replace l8 : px_lg (px_s1 lv25 5 (oI ((k : Int)))) 8 = some (oI 0) := s1_ne (by decide) (fun _ => rfl) l8
        have l5 : px_lg (px_s1 lv25 5 (oI ((k : Int)))) 5 = some (oI ((k : Int))) := s1_eq
        generalize px_s1 lv25 5 (oI ((k : Int))) = lv27 at l0 l2 l3 l4 l6 l7 l8 l5 ⊢
        show t_X d 38 216 lv27 [] g P
        refine t_0 rre_216 rfl (ld_i l4) ?_
        show t_X d 38 218 lv27 [oI ((n : Int) - 1)] g P
        rw [show (n : Int) - 1 = ((n - 1 : Nat) : Int) by omega]
        show t_X d 38 218 lv27 [oI (((n - 1 : Nat) : Int))] g P
        refine t_0 rre_218 rfl (ld_i l8) ?_
        refine tz_eq rre_220 (by decide) ⟨by omega, by omega⟩ (fun c28 => ?_) (fun c28 => absurd c28 (by omega))
        show t_X d 38 227 lv27 [oI (((n - 1 : Nat) : Int))] g P
        refine t_0 rre_227 rfl rfl ?_
        refine t_0 rre_228 rfl pq_sub ?_
        refine t_2 rre_229 rfl (w := (px_s1 lv27 4 (oI (((n - 1 : Nat) : Int) - 1)), [])) rfl ?_
        replace l0 : px_lg (px_s1 lv27 4 (oI (((n - 1 : Nat) : Int) - 1))) 0 = some (pvR K) := s1_ne (by decide) (fun _ => rfl) l0
        replace l2 : px_lg (px_s1 lv27 4 (oI (((n - 1 : Nat) : Int) - 1))) 2 = some (oI ((e : Int))) := s1_ne (by decide) (fun _ => rfl) l2
        replace l3 : px_lg (px_s1 lv27 4 (oI (((n - 1 : Nat) : Int) - 1))) 3 = some (pvR 173) := s1_ne (by decide) (fun _ => rfl) l3
        replace l6 : px_lg (px_s1 lv27 4 (oI (((n - 1 : Nat) : Int) - 1))) 6 = some (oI 11) := s1_ne (by decide) (fun _ => rfl) l6
        replace l7 : px_lg (px_s1 lv27 4 (oI (((n - 1 : Nat) : Int) - 1))) 7 = some (oI ((t : Int))) := s1_ne (by decide) (fun _ => rfl) l7
        replace l8 : px_lg (px_s1 lv27 4 (oI (((n - 1 : Nat) : Int) - 1))) 8 = some (oI 0) := s1_ne (by decide) (fun _ => rfl) l8
        replace l5 : px_lg (px_s1 lv27 4 (oI (((n - 1 : Nat) : Int) - 1))) 5 = some (oI ((k : Int))) := s1_ne (by decide) (fun _ => rfl) l5
        have l4 : px_lg (px_s1 lv27 4 (oI (((n - 1 : Nat) : Int) - 1))) 4 = some (oI (((n - 1 : Nat) : Int) - 1)) := s1_eq
        generalize px_s1 lv27 4 (oI (((n - 1 : Nat) : Int) - 1)) = lv29 at l0 l2 l3 l6 l7 l8 l5 l4 ⊢
        show t_X d 38 231 lv29 [] g P
        refine t_1 rre_231 rfl (pb_goto (pc := 231) (by decide)) ?_
        show t_X d 38 274 lv29 [] g P
        refine t_0 rre_274 rfl (ld_a l0) ?_
        refine t_0 rre_275 rfl (pq_zv (lk_e hK) rfl (show cF g K 2 = 0 from S_f hS 0 (Nat.le_of_ble_eq_true rfl))) ?_
        show t_X d 38 278 lv29 [oI 0] g P
        refine tz_eq rre_278 (by decide) ⟨by omega, by omega⟩ (fun c30 => ?_) (fun c30 => absurd c30 (by omega))
        show t_X d 38 283 lv29 [] g P
        refine t_2 rre_283 rfl (w := (px_s1 lv29 5 (oI ((k : Int) + 1)), [])) (pq_inc l5 (by decide)) ?_
        replace l0 : px_lg (px_s1 lv29 5 (oI ((k : Int) + 1))) 0 = some (pvR K) := s1_ne (by decide) (fun _ => rfl) l0
        replace l2 : px_lg (px_s1 lv29 5 (oI ((k : Int) + 1))) 2 = some (oI ((e : Int))) := s1_ne (by decide) (fun _ => rfl) l2
        replace l3 : px_lg (px_s1 lv29 5 (oI ((k : Int) + 1))) 3 = some (pvR 173) := s1_ne (by decide) (fun _ => rfl) l3
        replace l6 : px_lg (px_s1 lv29 5 (oI ((k : Int) + 1))) 6 = some (oI 11) := s1_ne (by decide) (fun _ => rfl) l6
        replace l7 : px_lg (px_s1 lv29 5 (oI ((k : Int) + 1))) 7 = some (oI ((t : Int))) := s1_ne (by decide) (fun _ => rfl) l7
        replace l8 : px_lg (px_s1 lv29 5 (oI ((k : Int) + 1))) 8 = some (oI 0) := s1_ne (by decide) (fun _ => rfl) l8
        replace l4 : px_lg (px_s1 lv29 5 (oI ((k : Int) + 1))) 4 = some (oI (((n - 1 : Nat) : Int) - 1)) := s1_ne (by decide) (fun _ => rfl) l4
        have l5 : px_lg (px_s1 lv29 5 (oI ((k : Int) + 1))) 5 = some (oI ((k : Int) + 1)) := s1_eq
        generalize px_s1 lv29 5 (oI ((k : Int) + 1)) = lv31 at l0 l2 l3 l6 l7 l8 l4 l5 ⊢
        show t_X d 38 286 lv31 [] g P
        refine t_1 rre_286 rfl (pb_goto (pc := 286) (by decide)) ?_
        show t_X d 38 11 lv31 [] g P
        have hP2 := hP
        rw [am_a2 hke hO c13] at hP2
        exact ih (k + 1) (n - 1) _ _ (by omega) (by omega) (by omega) hD1 hS hP2 l0 l2 l3 (by rw [show (((n - 1 : Nat) : Int) - 1) = ((n - 1 : Nat) : Int) - 1 by omega]; exact l4) (by rw [show (((k + 1 : Nat) : Int)) = (k : Int) + 1 by omega]; exact l5)
    · replace hD1 : (D (k + 1)).1 = n - 1 := by rw [hD1, ← hD]
      replace hDt : (D t).1 = n := by rw [hDt, ← hD]
      refine t_0 rre_11 rfl (ld_i l5) ?_
      refine t_0 rre_13 rfl (ld_i l2) ?_
      refine tb_ge rre_14 (by decide) ⟨by omega, by omega⟩ ⟨by omega, by omega⟩ (fun c1 => absurd c1 (by omega)) (fun c1 => ?_)
      show t_X d 38 17 lv [] g P
      refine t_0 rre_17 rfl (ld_i l5) ?_
      refine t_0 rre_19 rfl (pq_s (by decide)) ?_
      refine tb_ge rre_22 (by decide) ⟨by omega, by omega⟩ ⟨by omega, by omega⟩ (fun c2 => absurd c2 (by omega)) (fun c2 => ?_)
      show t_X d 38 25 lv [] g P
      refine t_0 rre_25 rfl (ld_a l0) ?_
      refine t_0 rre_26 rfl (lk_r3 hK (S_J hS).1) ?_
      show t_X d 38 29 lv [pvR (K + 1)] g P
      refine t_0 rre_29 rfl (ld_i l5) ?_
      have r3 := pb_a (S_J hS).1 (lk_t1 hK) (j := k) (by omega) (lk_G1 hK) ((fA_M (S_J hS).2 (rk_n hK).2.1).trans ho : fA g (K + 1) = o)
      refine t_0 rre_31 rfl (pq_iv (lk_t1 hK) rfl ⟨by omega, by omega⟩ ((fA_M (S_J hS).2 (rk_n hK).2.1).trans ho : fA g (K + 1) = o)) ?_
      show t_X d 38 32 lv [oI (o k)] g P
      rw [hO]
      show t_X d 38 32 lv [oI 12] g P
      refine t_2 rre_32 rfl (w := (px_s1 lv 6 (oI 12), [])) rfl ?_
      replace l0 : px_lg (px_s1 lv 6 (oI 12)) 0 = some (pvR K) := s1_ne (by decide) (fun _ => rfl) l0
      replace l2 : px_lg (px_s1 lv 6 (oI 12)) 2 = some (oI ((e : Int))) := s1_ne (by decide) (fun _ => rfl) l2
      replace l3 : px_lg (px_s1 lv 6 (oI 12)) 3 = some (pvR 173) := s1_ne (by decide) (fun _ => rfl) l3
      replace l4 : px_lg (px_s1 lv 6 (oI 12)) 4 = some (oI ((n : Int) - 1)) := s1_ne (by decide) (fun _ => rfl) l4
      replace l5 : px_lg (px_s1 lv 6 (oI 12)) 5 = some (oI ((k : Int))) := s1_ne (by decide) (fun _ => rfl) l5
      have l6 : px_lg (px_s1 lv 6 (oI 12)) 6 = some (oI 12) := s1_eq
      generalize px_s1 lv 6 (oI 12) = lv4 at l0 l2 l3 l4 l5 l6 ⊢
      show t_X d 38 34 lv4 [] g P
      refine t_0 rre_34 rfl (ld_a l0) ?_
      refine t_0 rre_35 rfl (lk_r4 hK (S_J hS).1) ?_
      show t_X d 38 38 lv4 [pvR (K + 2)] g P
      refine t_0 rre_38 rfl (ld_i l5) ?_
      have r5 := pb_a (S_J hS).1 (lk_t2 hK) (j := k) (by omega) (lk_G2 hK) ((fA_M (S_J hS).2 (rk_n hK).2.2.1).trans hv : fA g (K + 2) = v)
      refine t_0 rre_40 rfl (pq_iv (lk_t2 hK) rfl ⟨by omega, by omega⟩ ((fA_M (S_J hS).2 (rk_n hK).2.2.1).trans hv : fA g (K + 2) = v)) ?_
      show t_X d 38 41 lv4 [oI (v k)] g P
      rw [hV]
      show t_X d 38 41 lv4 [oI ((t : Int))] g P
      refine t_2 rre_41 rfl (w := (px_s1 lv4 7 (oI ((t : Int))), [])) rfl ?_
      replace l0 : px_lg (px_s1 lv4 7 (oI ((t : Int)))) 0 = some (pvR K) := s1_ne (by decide) (fun _ => rfl) l0
      replace l2 : px_lg (px_s1 lv4 7 (oI ((t : Int)))) 2 = some (oI ((e : Int))) := s1_ne (by decide) (fun _ => rfl) l2
      replace l3 : px_lg (px_s1 lv4 7 (oI ((t : Int)))) 3 = some (pvR 173) := s1_ne (by decide) (fun _ => rfl) l3
      replace l4 : px_lg (px_s1 lv4 7 (oI ((t : Int)))) 4 = some (oI ((n : Int) - 1)) := s1_ne (by decide) (fun _ => rfl) l4
      replace l5 : px_lg (px_s1 lv4 7 (oI ((t : Int)))) 5 = some (oI ((k : Int))) := s1_ne (by decide) (fun _ => rfl) l5
      replace l6 : px_lg (px_s1 lv4 7 (oI ((t : Int)))) 6 = some (oI 12) := s1_ne (by decide) (fun _ => rfl) l6
      have l7 : px_lg (px_s1 lv4 7 (oI ((t : Int)))) 7 = some (oI ((t : Int))) := s1_eq
      generalize px_s1 lv4 7 (oI ((t : Int))) = lv6 at l0 l2 l3 l4 l5 l6 l7 ⊢
      show t_X d 38 43 lv6 [] g P
      refine t_0 rre_43 rfl (ld_i l6) ?_
      refine tz_eq rre_45 (by decide) ⟨by omega, by omega⟩ (fun c7 => absurd c7 (by omega)) (fun c7 => ?_)
      show t_X d 38 48 lv6 [] g P
      refine t_0 rre_48 rfl (ld_i l6) ?_
      refine t_0 rre_50 rfl rfl ?_
      refine tb_ne rre_51 (by decide) ⟨by omega, by omega⟩ ⟨by omega, by omega⟩ (fun c8 => ?_) (fun c8 => absurd c8 (by omega))
      show t_X d 38 111 lv6 [] g P
      refine t_0 rre_111 rfl (ld_i l4) ?_
      refine tz_ge rre_113 (by decide) ⟨by omega, by omega⟩ (fun c9 => ?_) (fun c9 => absurd c9 (by omega))
      show t_X d 38 118 lv6 [] g P
      refine t_0 rre_118 rfl (ld_i l6) ?_
      refine t_0 rre_120 rfl (pq_b (by decide)) ?_
      refine tb_ne rre_122 (by decide) ⟨by omega, by omega⟩ ⟨by omega, by omega⟩ (fun c10 => ?_) (fun c10 => absurd c10 (by omega))
      show t_X d 38 144 lv6 [] g P
      refine t_0 rre_144 rfl (ld_i l6) ?_
      refine t_0 rre_146 rfl (pq_b (by decide)) ?_
      refine tb_eq rre_148 (by decide) ⟨by omega, by omega⟩ ⟨by omega, by omega⟩ (fun c11 => absurd c11 (by omega)) (fun c11 => ?_)
      show t_X d 38 151 lv6 [] g P
      refine t_0 rre_151 rfl (ld_i l6) ?_
      refine t_0 rre_153 rfl (pq_b (by decide)) ?_
      refine tb_ne rre_155 (by decide) ⟨by omega, by omega⟩ ⟨by omega, by omega⟩ (fun c12 => absurd c12 (by omega)) (fun c12 => ?_)
      show t_X d 38 158 lv6 [] g P
      refine t_0 rre_158 rfl (ld_a l0) ?_
      refine t_0 rre_159 rfl (rk_r9 hK (S_J hS).1) ?_
      show t_X d 38 162 lv6 [pvR (K + 7)] g P
      refine t_0 rre_162 rfl (ld_i l4) ?_
      show t_X d 38 164 lv6 [oI ((n : Int) - 1), pvR (K + 7)] g P
      rw [show (n : Int) - 1 = ((n - 1 : Nat) : Int) by omega]
      show t_X d 38 164 lv6 [oI (((n - 1 : Nat) : Int)), pvR (K + 7)] g P
      have r13 := pb_a (S_J hS).1 (rk_t7 hK) (j := n - 1) (by omega) (rk_G7 hK) (show fA g (K + 7) = s from S_a hS 0 (Nat.le_of_ble_eq_true rfl))
      refine t_0 rre_164 rfl (pq_iv (rk_t7 hK) rfl ⟨by omega, by omega⟩ (show fA g (K + 7) = s from S_a hS 0 (Nat.le_of_ble_eq_true rfl))) ?_
      show t_X d 38 165 lv6 [oI (s (n - 1))] g P
      refine tz_eq rre_165 (by decide) ⟨by omega, by omega⟩ (fun c14 => ?_) (fun c14 => ?_)
      · show t_X d 38 172 lv6 [] g P
        refine t_0 rre_172 rfl rfl ?_
        refine t_0 rre_173 rfl (ld_i l6) ?_
        refine t_0 rre_175 rfl (pq_b (by decide)) ?_
        refine tb_ne rre_177 (by decide) ⟨by omega, by omega⟩ ⟨by omega, by omega⟩ (fun c15 => absurd c15 (by omega)) (fun c15 => ?_)
        show t_X d 38 180 lv6 [oI 0] g P
        refine t_0 rre_180 rfl rfl ?_
        refine t_1 rre_181 rfl (pb_goto (pc := 181) (by decide)) ?_
        show t_X d 38 185 lv6 [oI 1, oI 0] g P
        refine tb_ne rre_185 (by decide) ⟨by omega, by omega⟩ ⟨by omega, by omega⟩ (fun c16 => ?_) (fun c16 => absurd c16 (by omega))
        show t_X d 38 192 lv6 [] g P
        refine t_0 rre_192 rfl rfl ?_
        refine t_2 rre_193 rfl (w := (px_s1 lv6 8 (oI 0), [])) rfl ?_
        replace l0 : px_lg (px_s1 lv6 8 (oI 0)) 0 = some (pvR K) := s1_ne (by decide) (fun _ => rfl) l0
        replace l2 : px_lg (px_s1 lv6 8 (oI 0)) 2 = some (oI ((e : Int))) := s1_ne (by decide) (fun _ => rfl) l2
        replace l3 : px_lg (px_s1 lv6 8 (oI 0)) 3 = some (pvR 173) := s1_ne (by decide) (fun _ => rfl) l3
        replace l4 : px_lg (px_s1 lv6 8 (oI 0)) 4 = some (oI ((n : Int) - 1)) := s1_ne (by decide) (fun _ => rfl) l4
        replace l5 : px_lg (px_s1 lv6 8 (oI 0)) 5 = some (oI ((k : Int))) := s1_ne (by decide) (fun _ => rfl) l5
        replace l6 : px_lg (px_s1 lv6 8 (oI 0)) 6 = some (oI 12) := s1_ne (by decide) (fun _ => rfl) l6
        replace l7 : px_lg (px_s1 lv6 8 (oI 0)) 7 = some (oI ((t : Int))) := s1_ne (by decide) (fun _ => rfl) l7
        have l8 : px_lg (px_s1 lv6 8 (oI 0)) 8 = some (oI 0) := s1_eq
        generalize px_s1 lv6 8 (oI 0) = lv17 at l0 l2 l3 l4 l5 l6 l7 l8 ⊢
        show t_X d 38 195 lv17 [] g P
        refine t_0 rre_195 rfl (ld_i l8) ?_
        refine tz_eq rre_197 (by decide) ⟨by omega, by omega⟩ (fun c18 => ?_) (fun c18 => absurd c18 (by omega))
        show t_X d 38 212 lv17 [] g P
        refine t_0 rre_212 rfl (ld_i l5) ?_
        refine t_2 rre_214 rfl (w := (px_s1 lv17 5 (oI ((k : Int))), [])) rfl ?_
        replace l0 : px_lg (px_s1 lv17 5 (oI ((k : Int)))) 0 = some (pvR K) := s1_ne (by decide) (fun _ => rfl) l0
        replace l2 : px_lg (px_s1 lv17 5 (oI ((k : Int)))) 2 = some (oI ((e : Int))) := s1_ne (by decide) (fun _ => rfl) l2
        replace l3 : px_lg (px_s1 lv17 5 (oI ((k : Int)))) 3 = some (pvR 173) := s1_ne (by decide) (fun _ => rfl) l3
        replace l4 : px_lg (px_s1 lv17 5 (oI ((k : Int)))) 4 = some (oI ((n : Int) - 1)) := s1_ne (by decide) (fun _ => rfl) l4
        replace l6 : px_lg (px_s1 lv17 5 (oI ((k : Int)))) 6 = some (oI 12) := s1_ne (by decide) (fun _ => rfl) l6
        replace l7 : px_lg (px_s1 lv17 5 (oI ((k : Int)))) 7 = some (oI ((t : Int))) := s1_ne (by decide) (fun _ => rfl) l7
        replace l8 : px_lg (px_s1 lv17 5 (oI ((k : Int)))) 8 = some (oI 0) := s1_ne (by decide) (fun _ => rfl) l8
        have l5 : px_lg (px_s1 lv17 5 (oI ((k : Int)))) 5 = some (oI ((k : Int))) := s1_eq
        generalize px_s1 lv17 5 (oI ((k : Int))) = lv19 at l0 l2 l3 l4 l6 l7 l8 l5 ⊢
        show t_X d 38 216 lv19 [] g P
        refine t_0 rre_216 rfl (ld_i l4) ?_
        show t_X d 38 218 lv19 [oI ((n : Int) - 1)] g P
        rw [show (n : Int) - 1 = ((n - 1 : Nat) : Int) by omega]
        show t_X d 38 218 lv19 [oI (((n - 1 : Nat) : Int))] g P
        refine t_0 rre_218 rfl (ld_i l8) ?_
        refine tz_eq rre_220 (by decide) ⟨by omega, by omega⟩ (fun c20 => ?_) (fun c20 => absurd c20 (by omega))
        show t_X d 38 227 lv19 [oI (((n - 1 : Nat) : Int))] g P
        refine t_0 rre_227 rfl rfl ?_
        refine t_0 rre_228 rfl pq_sub ?_
        refine t_2 rre_229 rfl (w := (px_s1 lv19 4 (oI (((n - 1 : Nat) : Int) - 1)), [])) rfl ?_
        replace l0 : px_lg (px_s1 lv19 4 (oI (((n - 1 : Nat) : Int) - 1))) 0 = some (pvR K) := s1_ne (by decide) (fun _ => rfl) l0
        replace l2 : px_lg (px_s1 lv19 4 (oI (((n - 1 : Nat) : Int) - 1))) 2 = some (oI ((e : Int))) := s1_ne (by decide) (fun _ => rfl) l2
        replace l3 : px_lg (px_s1 lv19 4 (oI (((n - 1 : Nat) : Int) - 1))) 3 = some (pvR 173) := s1_ne (by decide) (fun _ => rfl) l3
        replace l6 : px_lg (px_s1 lv19 4 (oI (((n - 1 : Nat) : Int) - 1))) 6 = some (oI 12) := s1_ne (by decide) (fun _ => rfl) l6
        replace l7 : px_lg (px_s1 lv19 4 (oI (((n - 1 : Nat) : Int) - 1))) 7 = some (oI ((t : Int))) := s1_ne (by decide) (fun _ => rfl) l7
        replace l8 : px_lg (px_s1 lv19 4 (oI (((n - 1 : Nat) : Int) - 1))) 8 = some (oI 0) := s1_ne (by decide) (fun _ => rfl) l8
        replace l5 : px_lg (px_s1 lv19 4 (oI (((n - 1 : Nat) : Int) - 1))) 5 = some (oI ((k : Int))) := s1_ne (by decide) (fun _ => rfl) l5
        have l4 : px_lg (px_s1 lv19 4 (oI (((n - 1 : Nat) : Int) - 1))) 4 = some (oI (((n - 1 : Nat) : Int) - 1)) := s1_eq
        generalize px_s1 lv19 4 (oI (((n - 1 : Nat) : Int) - 1)) = lv21 at l0 l2 l3 l6 l7 l8 l5 l4 ⊢
        show t_X d 38 231 lv21 [] g P
        refine t_1 rre_231 rfl (pb_goto (pc := 231) (by decide)) ?_
        show t_X d 38 274 lv21 [] g P
        refine t_0 rre_274 rfl (ld_a l0) ?_
        refine t_0 rre_275 rfl (pq_zv (lk_e hK) rfl (show cF g K 2 = 0 from S_f hS 0 (Nat.le_of_ble_eq_true rfl))) ?_
        show t_X d 38 278 lv21 [oI 0] g P
        refine tz_eq rre_278 (by decide) ⟨by omega, by omega⟩ (fun c22 => ?_) (fun c22 => absurd c22 (by omega))
        show t_X d 38 283 lv21 [] g P
        refine t_2 rre_283 rfl (w := (px_s1 lv21 5 (oI ((k : Int) + 1)), [])) (pq_inc l5 (by decide)) ?_
        replace l0 : px_lg (px_s1 lv21 5 (oI ((k : Int) + 1))) 0 = some (pvR K) := s1_ne (by decide) (fun _ => rfl) l0
        replace l2 : px_lg (px_s1 lv21 5 (oI ((k : Int) + 1))) 2 = some (oI ((e : Int))) := s1_ne (by decide) (fun _ => rfl) l2
        replace l3 : px_lg (px_s1 lv21 5 (oI ((k : Int) + 1))) 3 = some (pvR 173) := s1_ne (by decide) (fun _ => rfl) l3
        replace l6 : px_lg (px_s1 lv21 5 (oI ((k : Int) + 1))) 6 = some (oI 12) := s1_ne (by decide) (fun _ => rfl) l6
        replace l7 : px_lg (px_s1 lv21 5 (oI ((k : Int) + 1))) 7 = some (oI ((t : Int))) := s1_ne (by decide) (fun _ => rfl) l7
        replace l8 : px_lg (px_s1 lv21 5 (oI ((k : Int) + 1))) 8 = some (oI 0) := s1_ne (by decide) (fun _ => rfl) l8
        replace l4 : px_lg (px_s1 lv21 5 (oI ((k : Int) + 1))) 4 = some (oI (((n - 1 : Nat) : Int) - 1)) := s1_ne (by decide) (fun _ => rfl) l4
        have l5 : px_lg (px_s1 lv21 5 (oI ((k : Int) + 1))) 5 = some (oI ((k : Int) + 1)) := s1_eq
        generalize px_s1 lv21 5 (oI ((k : Int) + 1)) = lv23 at l0 l2 l3 l6 l7 l8 l4 l5 ⊢
        show t_X d 38 286 lv23 [] g P
        refine t_1 rre_286 rfl (pb_goto (pc := 286) (by decide)) ?_
        show t_X d 38 11 lv23 [] g P
        have hP2 := hP
        rw [am_o2 hke hO c14] at hP2
        exact ih (k + 1) (n - 1) _ _ (by omega) (by omega) (by omega) hD1 hS hP2 l0 l2 l3 (by rw [show (((n - 1 : Nat) : Int) - 1) = ((n - 1 : Nat) : Int) - 1 by omega]; exact l4) (by rw [show (((k + 1 : Nat) : Int)) = (k : Int) + 1 by omega]; exact l5)
      · show t_X d 38 168 lv6 [] g P
        refine t_0 rre_168 rfl rfl ?_
        refine t_1 rre_169 rfl (pb_goto (pc := 169) (by decide)) ?_
        show t_X d 38 173 lv6 [oI 1] g P
        refine t_0 rre_173 rfl (ld_i l6) ?_
        refine t_0 rre_175 rfl (pq_b (by decide)) ?_
        refine tb_ne rre_177 (by decide) ⟨by omega, by omega⟩ ⟨by omega, by omega⟩ (fun c24 => absurd c24 (by omega)) (fun c24 => ?_)
        show t_X d 38 180 lv6 [oI 1] g P
        refine t_0 rre_180 rfl rfl ?_
        refine t_1 rre_181 rfl (pb_goto (pc := 181) (by decide)) ?_
        show t_X d 38 185 lv6 [oI 1, oI 1] g P
        refine tb_ne rre_185 (by decide) ⟨by omega, by omega⟩ ⟨by omega, by omega⟩ (fun c25 => absurd c25 (by omega)) (fun c25 => ?_)
        show t_X d 38 188 lv6 [] g P
        refine t_0 rre_188 rfl rfl ?_
        refine t_1 rre_189 rfl (pb_goto (pc := 189) (by decide)) ?_
        show t_X d 38 193 lv6 [oI 1] g P
        refine t_2 rre_193 rfl (w := (px_s1 lv6 8 (oI 1), [])) rfl ?_
        replace l0 : px_lg (px_s1 lv6 8 (oI 1)) 0 = some (pvR K) := s1_ne (by decide) (fun _ => rfl) l0
        replace l2 : px_lg (px_s1 lv6 8 (oI 1)) 2 = some (oI ((e : Int))) := s1_ne (by decide) (fun _ => rfl) l2
        replace l3 : px_lg (px_s1 lv6 8 (oI 1)) 3 = some (pvR 173) := s1_ne (by decide) (fun _ => rfl) l3
        replace l4 : px_lg (px_s1 lv6 8 (oI 1)) 4 = some (oI ((n : Int) - 1)) := s1_ne (by decide) (fun _ => rfl) l4
        replace l5 : px_lg (px_s1 lv6 8 (oI 1)) 5 = some (oI ((k : Int))) := s1_ne (by decide) (fun _ => rfl) l5
        replace l6 : px_lg (px_s1 lv6 8 (oI 1)) 6 = some (oI 12) := s1_ne (by decide) (fun _ => rfl) l6
        replace l7 : px_lg (px_s1 lv6 8 (oI 1)) 7 = some (oI ((t : Int))) := s1_ne (by decide) (fun _ => rfl) l7
        have l8 : px_lg (px_s1 lv6 8 (oI 1)) 8 = some (oI 1) := s1_eq
        generalize px_s1 lv6 8 (oI 1) = lv26 at l0 l2 l3 l4 l5 l6 l7 l8 ⊢
        show t_X d 38 195 lv26 [] g P
        refine t_0 rre_195 rfl (ld_i l8) ?_
        refine tz_eq rre_197 (by decide) ⟨by omega, by omega⟩ (fun c27 => absurd c27 (by omega)) (fun c27 => ?_)
        show t_X d 38 200 lv26 [] g P
        refine t_0 rre_200 rfl (ld_i l5) ?_
        refine t_0 rre_202 rfl (ld_i l7) ?_
        refine t_0 rre_204 rfl rfl ?_
        refine t_0 rre_205 rfl pq_sub ?_
        refine t_0 rre_206 rfl (pq_mx (by omega) (Nat.le_of_ble_eq_true rfl) ⟨by omega, by omega⟩ ⟨by omega, by omega⟩) ?_
        rw [show (if (k : Int) < ((t : Int) - 1) then ((t : Int) - 1) else (k : Int)) = ((t : Int) - 1) from by by_cases z : (k : Int) < ((t : Int) - 1); { rw [if_pos z] }; { rw [if_neg z]; omega }]
        show t_X d 38 209 lv26 [oI ((t : Int) - 1)] g P
        refine t_1 rre_209 rfl (pb_goto (pc := 209) (by decide)) ?_
        show t_X d 38 214 lv26 [oI ((t : Int) - 1)] g P
        refine t_2 rre_214 rfl (w := (px_s1 lv26 5 (oI ((t : Int) - 1)), [])) rfl ?_
        replace l0 : px_lg (px_s1 lv26 5 (oI ((t : Int) - 1))) 0 = some (pvR K) := s1_ne (by decide) (fun _ => rfl) l0
        replace l2 : px_lg (px_s1 lv26 5 (oI ((t : Int) - 1))) 2 = some (oI ((e : Int))) := s1_ne (by decide) (fun _ => rfl) l2
        replace l3 : px_lg (px_s1 lv26 5 (oI ((t : Int) - 1))) 3 = some (pvR 173) := s1_ne (by decide) (fun _ => rfl) l3
        replace l4 : px_lg (px_s1 lv26 5 (oI ((t : Int) - 1))) 4 = some (oI ((n : Int) - 1)) := s1_ne (by decide) (fun _ => rfl) l4
        replace l6 : px_lg (px_s1 lv26 5 (oI ((t : Int) - 1))) 6 = some (oI 12) := s1_ne (by decide) (fun _ => rfl) l6
        replace l7 : px_lg (px_s1 lv26 5 (oI ((t : Int) - 1))) 7 = some (oI ((t : Int))) := s1_ne (by decide) (fun _ => rfl) l7
        replace l8 : px_lg (px_s1 lv26 5 (oI ((t : Int) - 1))) 8 = some (oI 1) := s1_ne (by decide) (fun _ => rfl) l8
        have l5 : px_lg (px_s1 lv26 5 (oI ((t : Int) - 1))) 5 = some (oI ((t : Int) - 1)) := s1_eq
        generalize px_s1 lv26 5 (oI ((t : Int) - 1)) = lv28 at l0 l2 l3 l4 l6 l7 l8 l5 ⊢
        show t_X d 38 216 lv28 [] g P
        refine t_0 rre_216 rfl (ld_i l4) ?_
        show t_X d 38 218 lv28 [oI ((n : Int) - 1)] g P
        rw [show (n : Int) - 1 = ((n - 1 : Nat) : Int) by omega]
        show t_X d 38 218 lv28 [oI (((n - 1 : Nat) : Int))] g P
        refine t_0 rre_218 rfl (ld_i l8) ?_
        refine tz_eq rre_220 (by decide) ⟨by omega, by omega⟩ (fun c29 => absurd c29 (by omega)) (fun c29 => ?_)
        show t_X d 38 223 lv28 [oI (((n - 1 : Nat) : Int))] g P
        refine t_0 rre_223 rfl rfl ?_
        refine t_1 rre_224 rfl (pb_goto (pc := 224) (by decide)) ?_
        show t_X d 38 228 lv28 [oI 0, oI (((n - 1 : Nat) : Int))] g P
        refine t_0 rre_228 rfl pq_sub ?_
        refine t_2 rre_229 rfl (w := (px_s1 lv28 4 (oI (((n - 1 : Nat) : Int) - 0)), [])) rfl ?_
        replace l0 : px_lg (px_s1 lv28 4 (oI (((n - 1 : Nat) : Int) - 0))) 0 = some (pvR K) := s1_ne (by decide) (fun _ => rfl) l0
        replace l2 : px_lg (px_s1 lv28 4 (oI (((n - 1 : Nat) : Int) - 0))) 2 = some (oI ((e : Int))) := s1_ne (by decide) (fun _ => rfl) l2
        replace l3 : px_lg (px_s1 lv28 4 (oI (((n - 1 : Nat) : Int) - 0))) 3 = some (pvR 173) := s1_ne (by decide) (fun _ => rfl) l3
        replace l6 : px_lg (px_s1 lv28 4 (oI (((n - 1 : Nat) : Int) - 0))) 6 = some (oI 12) := s1_ne (by decide) (fun _ => rfl) l6
        replace l7 : px_lg (px_s1 lv28 4 (oI (((n - 1 : Nat) : Int) - 0))) 7 = some (oI ((t : Int))) := s1_ne (by decide) (fun _ => rfl) l7
        replace l8 : px_lg (px_s1 lv28 4 (oI (((n - 1 : Nat) : Int) - 0))) 8 = some (oI 1) := s1_ne (by decide) (fun _ => rfl) l8
        replace l5 : px_lg (px_s1 lv28 4 (oI (((n - 1 : Nat) : Int) - 0))) 5 = some (oI ((t : Int) - 1)) := s1_ne (by decide) (fun _ => rfl) l5
        have l4 : px_lg (px_s1 lv28 4 (oI (((n - 1 : Nat) : Int) - 0))) 4 = some (oI (((n - 1 : Nat) : Int) - 0)) := s1_eq
        generalize px_s1 lv28 4 (oI (((n - 1 : Nat) : Int) - 0)) = lv30 at l0 l2 l3 l6 l7 l8 l5 l4 ⊢
        show t_X d 38 231 lv30 [] g P
        refine t_1 rre_231 rfl (pb_goto (pc := 231) (by decide)) ?_
        show t_X d 38 274 lv30 [] g P
        refine t_0 rre_274 rfl (ld_a l0) ?_
        refine t_0 rre_275 rfl (pq_zv (lk_e hK) rfl (show cF g K 2 = 0 from S_f hS 0 (Nat.le_of_ble_eq_true rfl))) ?_
        show t_X d 38 278 lv30 [oI 0] g P
        refine tz_eq rre_278 (by decide) ⟨by omega, by omega⟩ (fun c31 => ?_) (fun c31 => absurd c31 (by omega))
        show t_X d 38 283 lv30 [] g P
        refine t_2 rre_283 rfl (w := (px_s1 lv30 5 (oI (((t : Int) - 1) + 1)), [])) (pq_inc l5 (by decide)) ?_
        replace l0 : px_lg (px_s1 lv30 5 (oI (((t : Int) - 1) + 1))) 0 = some (pvR K) := s1_ne (by decide) (fun _ => rfl) l0
        replace l2 : px_lg (px_s1 lv30 5 (oI (((t : Int) - 1) + 1))) 2 = some (oI ((e : Int))) := s1_ne (by decide) (fun _ => rfl) l2
        replace l3 : px_lg (px_s1 lv30 5 (oI (((t : Int) - 1) + 1))) 3 = some (pvR 173) := s1_ne (by decide) (fun _ => rfl) l3
        replace l6 : px_lg (px_s1 lv30 5 (oI (((t : Int) - 1) + 1))) 6 = some (oI 12) := s1_ne (by decide) (fun _ => rfl) l6
        replace l7 : px_lg (px_s1 lv30 5 (oI (((t : Int) - 1) + 1))) 7 = some (oI ((t : Int))) := s1_ne (by decide) (fun _ => rfl) l7
        replace l8 : px_lg (px_s1 lv30 5 (oI (((t : Int) - 1) + 1))) 8 = some (oI 1) := s1_ne (by decide) (fun _ => rfl) l8
        replace l4 : px_lg (px_s1 lv30 5 (oI (((t : Int) - 1) + 1))) 4 = some (oI (((n - 1 : Nat) : Int) - 0)) := s1_ne (by decide) (fun _ => rfl) l4
        have l5 : px_lg (px_s1 lv30 5 (oI (((t : Int) - 1) + 1))) 5 = some (oI (((t : Int) - 1) + 1)) := s1_eq
        generalize px_s1 lv30 5 (oI (((t : Int) - 1) + 1)) = lv32 at l0 l2 l3 l6 l7 l8 l4 l5 ⊢
        show t_X d 38 286 lv32 [] g P
        refine t_1 rre_286 rfl (pb_goto (pc := 286) (by decide)) ?_
        show t_X d 38 11 lv32 [] g P
        have hP2 := hP
        rw [am_o hke hO c14] at hP2
        rw [show (v k).toNat = t by omega] at hP2
        exact ih (t) (n) _ _ (by omega) (by omega) (by omega) hDt hS hP2 l0 l2 l3 (by rw [show (((n : Nat) : Int) - 1) = ((n - 1 : Nat) : Int) - 0 by omega]; exact l4) (by rw [show (((t : Nat) : Int)) = ((t : Int) - 1) + 1 by omega]; exact l5)
    · replace hD1 : (D (k + 1)).1 = n - 1 := by rw [hD1, ← hD]
      have hB : 2 ≤ o k ∧ o k ≤ 9 := ⟨hB1, hB2⟩
      refine t_0 rre_11 rfl (ld_i l5) ?_
      refine t_0 rre_13 rfl (ld_i l2) ?_
      refine tb_ge rre_14 (by decide) ⟨by omega, by omega⟩ ⟨by omega, by omega⟩ (fun c1 => absurd c1 (by omega)) (fun c1 => ?_)
      show t_X d 38 17 lv [] g P
      refine t_0 rre_17 rfl (ld_i l5) ?_
      refine t_0 rre_19 rfl (pq_s (by decide)) ?_
      refine tb_ge rre_22 (by decide) ⟨by omega, by omega⟩ ⟨by omega, by omega⟩ (fun c2 => absurd c2 (by omega)) (fun c2 => ?_)
      show t_X d 38 25 lv [] g P
      refine t_0 rre_25 rfl (ld_a l0) ?_
      refine t_0 rre_26 rfl (lk_r3 hK (S_J hS).1) ?_
      show t_X d 38 29 lv [pvR (K + 1)] g P
      refine t_0 rre_29 rfl (ld_i l5) ?_
      have r3 := pb_a (S_J hS).1 (lk_t1 hK) (j := k) (by omega) (lk_G1 hK) ((fA_M (S_J hS).2 (rk_n hK).2.1).trans ho : fA g (K + 1) = o)
      refine t_0 rre_31 rfl (pq_iv (lk_t1 hK) rfl ⟨by omega, by omega⟩ ((fA_M (S_J hS).2 (rk_n hK).2.1).trans ho : fA g (K + 1) = o)) ?_
      show t_X d 38 32 lv [oI (o k)] g P
      refine t_2 rre_32 rfl (w := (px_s1 lv 6 (oI (o k)), [])) rfl ?_
      replace l0 : px_lg (px_s1 lv 6 (oI (o k))) 0 = some (pvR K) := s1_ne (by decide) (fun _ => rfl) l0
      replace l2 : px_lg (px_s1 lv 6 (oI (o k))) 2 = some (oI ((e : Int))) := s1_ne (by decide) (fun _ => rfl) l2
      replace l3 : px_lg (px_s1 lv 6 (oI (o k))) 3 = some (pvR 173) := s1_ne (by decide) (fun _ => rfl) l3
      replace l4 : px_lg (px_s1 lv 6 (oI (o k))) 4 = some (oI ((n : Int) - 1)) := s1_ne (by decide) (fun _ => rfl) l4
      replace l5 : px_lg (px_s1 lv 6 (oI (o k))) 5 = some (oI ((k : Int))) := s1_ne (by decide) (fun _ => rfl) l5
      have l6 : px_lg (px_s1 lv 6 (oI (o k))) 6 = some (oI (o k)) := s1_eq
      generalize px_s1 lv 6 (oI (o k)) = lv4 at l0 l2 l3 l4 l5 l6 ⊢
      show t_X d 38 34 lv4 [] g P
      refine t_0 rre_34 rfl (ld_a l0) ?_
      refine t_0 rre_35 rfl (lk_r4 hK (S_J hS).1) ?_
      show t_X d 38 38 lv4 [pvR (K + 2)] g P
      refine t_0 rre_38 rfl (ld_i l5) ?_
      have r5 := pb_a (S_J hS).1 (lk_t2 hK) (j := k) (by omega) (lk_G2 hK) ((fA_M (S_J hS).2 (rk_n hK).2.2.1).trans hv : fA g (K + 2) = v)
      refine t_0 rre_40 rfl (pq_iv (lk_t2 hK) rfl ⟨by omega, by omega⟩ ((fA_M (S_J hS).2 (rk_n hK).2.2.1).trans hv : fA g (K + 2) = v)) ?_
      show t_X d 38 41 lv4 [oI (v k)] g P
      refine t_2 rre_41 rfl (w := (px_s1 lv4 7 (oI (v k)), [])) rfl ?_
      replace l0 : px_lg (px_s1 lv4 7 (oI (v k))) 0 = some (pvR K) := s1_ne (by decide) (fun _ => rfl) l0
      replace l2 : px_lg (px_s1 lv4 7 (oI (v k))) 2 = some (oI ((e : Int))) := s1_ne (by decide) (fun _ => rfl) l2
      replace l3 : px_lg (px_s1 lv4 7 (oI (v k))) 3 = some (pvR 173) := s1_ne (by decide) (fun _ => rfl) l3
      replace l4 : px_lg (px_s1 lv4 7 (oI (v k))) 4 = some (oI ((n : Int) - 1)) := s1_ne (by decide) (fun _ => rfl) l4
      replace l5 : px_lg (px_s1 lv4 7 (oI (v k))) 5 = some (oI ((k : Int))) := s1_ne (by decide) (fun _ => rfl) l5
      replace l6 : px_lg (px_s1 lv4 7 (oI (v k))) 6 = some (oI (o k)) := s1_ne (by decide) (fun _ => rfl) l6
      have l7 : px_lg (px_s1 lv4 7 (oI (v k))) 7 = some (oI (v k)) := s1_eq
      generalize px_s1 lv4 7 (oI (v k)) = lv6 at l0 l2 l3 l4 l5 l6 l7 ⊢
      show t_X d 38 43 lv6 [] g P
      refine t_0 rre_43 rfl (ld_i l6) ?_
      refine tz_eq rre_45 (by decide) ⟨by omega, by omega⟩ (fun c7 => absurd c7 (by omega)) (fun c7 => ?_)
      show t_X d 38 48 lv6 [] g P
      refine t_0 rre_48 rfl (ld_i l6) ?_
      refine t_0 rre_50 rfl rfl ?_
      refine tb_ne rre_51 (by decide) ⟨by omega, by omega⟩ ⟨by omega, by omega⟩ (fun c8 => ?_) (fun c8 => absurd c8 (by omega))
      show t_X d 38 111 lv6 [] g P
      refine t_0 rre_111 rfl (ld_i l4) ?_
      refine tz_ge rre_113 (by decide) ⟨by omega, by omega⟩ (fun c9 => ?_) (fun c9 => absurd c9 (by omega))
      show t_X d 38 118 lv6 [] g P
      refine t_0 rre_118 rfl (ld_i l6) ?_
      refine t_0 rre_120 rfl (pq_b (by decide)) ?_
      refine tb_ne rre_122 (by decide) ⟨by omega, by omega⟩ ⟨by omega, by omega⟩ (fun c10 => ?_) (fun c10 => absurd c10 (by omega))
      show t_X d 38 144 lv6 [] g P
      refine t_0 rre_144 rfl (ld_i l6) ?_
      refine t_0 rre_146 rfl (pq_b (by decide)) ?_
      refine tb_eq rre_148 (by decide) ⟨by omega, by omega⟩ ⟨by omega, by omega⟩ (fun c11 => absurd c11 (by omega)) (fun c11 => ?_)
      show t_X d 38 151 lv6 [] g P
      refine t_0 rre_151 rfl (ld_i l6) ?_
      refine t_0 rre_153 rfl (pq_b (by decide)) ?_
      refine tb_ne rre_155 (by decide) ⟨by omega, by omega⟩ ⟨by omega, by omega⟩ (fun c12 => ?_) (fun c12 => absurd c12 (by omega))
      show t_X d 38 234 lv6 [] g P
      refine t_0 rre_234 rfl (ld_i l4) ?_
      refine t_0 rre_236 rfl rfl ?_
      refine tb_ge rre_237 (by decide) ⟨by omega, by omega⟩ ⟨by omega, by omega⟩ (fun c13 => ?_) (fun c13 => absurd c13 (by omega))
      show t_X d 38 242 lv6 [] g P
      refine t_2 rre_242 rfl (w := (px_s1 lv6 4 (oI (((n : Int) - 1) + (-1))), [])) (pq_inc l4 (by decide)) ?_
      replace l0 : px_lg (px_s1 lv6 4 (oI (((n : Int) - 1) + (-1)))) 0 = some (pvR K) := s1_ne (by decide) (fun _ => rfl) l0
      replace l2 : px_lg (px_s1 lv6 4 (oI (((n : Int) - 1) + (-1)))) 2 = some (oI ((e : Int))) := s1_ne (by decide) (fun _ => rfl) l2
      replace l3 : px_lg (px_s1 lv6 4 (oI (((n : Int) - 1) + (-1)))) 3 = some (pvR 173) := s1_ne (by decide) (fun _ => rfl) l3
      replace l5 : px_lg (px_s1 lv6 4 (oI (((n : Int) - 1) + (-1)))) 5 = some (oI ((k : Int))) := s1_ne (by decide) (fun _ => rfl) l5
      replace l6 : px_lg (px_s1 lv6 4 (oI (((n : Int) - 1) + (-1)))) 6 = some (oI (o k)) := s1_ne (by decide) (fun _ => rfl) l6
      replace l7 : px_lg (px_s1 lv6 4 (oI (((n : Int) - 1) + (-1)))) 7 = some (oI (v k)) := s1_ne (by decide) (fun _ => rfl) l7
      have l4 : px_lg (px_s1 lv6 4 (oI (((n : Int) - 1) + (-1)))) 4 = some (oI (((n : Int) - 1) + (-1))) := s1_eq
      generalize px_s1 lv6 4 (oI (((n : Int) - 1) + (-1))) = lv14 at l0 l2 l3 l5 l6 l7 l4 ⊢
      show t_X d 38 245 lv14 [] g P
      refine t_0 rre_245 rfl (ld_a l0) ?_
      refine t_0 rre_246 rfl (rk_r9 hK (S_J hS).1) ?_
      show t_X d 38 249 lv14 [pvR (K + 7)] g P
      refine t_0 rre_249 rfl (ld_i l4) ?_
      show t_X d 38 251 lv14 [oI (((n : Int) - 1) + (-1)), pvR (K + 7)] g P
      rw [show ((n : Int) - 1) + (-1) = ((n - 2 : Nat) : Int) by omega]
      show t_X d 38 251 lv14 [oI (((n - 2 : Nat) : Int)), pvR (K + 7)] g P
      refine t_0 rre_251 rfl (ld_a l0) ?_
      refine t_0 rre_252 rfl (ld_i l6) ?_
      refine t_0 rre_254 rfl (ld_a l0) ?_
      refine t_0 rre_255 rfl (rk_r9 hK (S_J hS).1) ?_
      show t_X d 38 258 lv14 [pvR (K + 7), oI (o k), pvR K, oI (((n - 2 : Nat) : Int)), pvR (K + 7)] g P
      refine t_0 rre_258 rfl (ld_i l4) ?_
      show t_X d 38 260 lv14 [oI (((n : Int) - 1) + (-1)), pvR (K + 7), oI (o k), pvR K, oI (((n - 2 : Nat) : Int)), pvR (K + 7)] g P
      rw [show ((n : Int) - 1) + (-1) = ((n - 2 : Nat) : Int) by omega]
      show t_X d 38 260 lv14 [oI (((n - 2 : Nat) : Int)), pvR (K + 7), oI (o k), pvR K, oI (((n - 2 : Nat) : Int)), pvR (K + 7)] g P
      have r15 := pb_a (S_J hS).1 (rk_t7 hK) (j := n - 2) (by omega) (rk_G7 hK) (show fA g (K + 7) = s from S_a hS 0 (Nat.le_of_ble_eq_true rfl))
      refine t_0 rre_260 rfl (pq_iv (rk_t7 hK) rfl ⟨by omega, by omega⟩ (show fA g (K + 7) = s from S_a hS 0 (Nat.le_of_ble_eq_true rfl))) ?_
      show t_X d 38 261 lv14 [oI (s (n - 2)), oI (o k), pvR K, oI (((n - 2 : Nat) : Int)), pvR (K + 7)] g P
      refine t_0 rre_261 rfl (ld_a l0) ?_
      refine t_0 rre_262 rfl (rk_r9 hK (S_J hS).1) ?_
      show t_X d 38 265 lv14 [pvR (K + 7), oI (s (n - 2)), oI (o k), pvR K, oI (((n - 2 : Nat) : Int)), pvR (K + 7)] g P
      refine t_0 rre_265 rfl (ld_i l4) ?_
      show t_X d 38 267 lv14 [oI (((n : Int) - 1) + (-1)), pvR (K + 7), oI (s (n - 2)), oI (o k), pvR K, oI (((n - 2 : Nat) : Int)), pvR (K + 7)] g P
      rw [show ((n : Int) - 1) + (-1) = ((n - 2 : Nat) : Int) by omega]
      show t_X d 38 267 lv14 [oI (((n - 2 : Nat) : Int)), pvR (K + 7), oI (s (n - 2)), oI (o k), pvR K, oI (((n - 2 : Nat) : Int)), pvR (K + 7)] g P
      refine t_0 rre_267 rfl rfl ?_
      refine t_0 rre_268 rfl pq_add ?_
      rw [show ((n - 2 : Nat) : Int) + 1 = ((n - 1 : Nat) : Int) by omega]
      have r16 := pb_a (S_J hS).1 (rk_t7 hK) (j := n - 1) (by omega) (rk_G7 hK) (show fA g (K + 7) = s from S_a hS 0 (Nat.le_of_ble_eq_true rfl))
      refine t_0 rre_269 rfl (pq_iv (rk_t7 hK) rfl ⟨by omega, by omega⟩ (show fA g (K + 7) = s from S_a hS 0 (Nat.le_of_ble_eq_true rfl))) ?_
      show t_X d 38 270 lv14 [oI (s (n - 1)), oI (s (n - 2)), oI (o k), pvR K, oI (((n - 2 : Nat) : Int)), pvR (K + 7)] g P
      refine t_3 rre_270 rfl (ar := ([pvR K, oI (o k), oI (s (n - 2)), oI (s (n - 1))], [oI (((n - 2 : Nat) : Int)), pvR (K + 7)])) (pcal_w (as := [oI (s (n - 1)), oI (s (n - 2)), oI (o k)]) rfl rfl rfl (lk_e hK)) ⟨by omega, Nat.le_of_ble_eq_true rfl, Nat.le_of_ble_eq_true rfl, rfl⟩ ?_
      refine rjo_run hK hS (c := o k) (x := s (n - 2)) (y := s (n - 1)) (by omega) (by omega) (by omega) (fun j17 g17 hS17 => ?_) (fun j17 g17 hS17 => ?_) rfl rfl rfl rfl
      all_goals try unfold aRf at j17
      · have hab := aop_b (o k) (s (n - 2)) (s (n - 1))
        show t_X d 38 273 lv14 [oI (aop (o k) (s (n - 2)) (s (n - 1))), oI (((n - 2 : Nat) : Int)), pvR (K + 7)] g17 P
        refine ts_a (n := 0) rfl rfl (rk_a hK) rre_273 hS17 (rk_t7 hK) rfl (rk_u hK) (rk_G7 hK) (by decide) ⟨by omega, by omega⟩ ⟨by omega, by omega⟩ (fun g18 hS18 => ?_)
        replace hS18 : rE K g0 g18 0 (updI s (n - 2) (aop (o k) (s (n - 2)) (s (n - 1)))) := hS18
        show t_X d 38 274 lv14 [] g18 P
        refine t_0 rre_274 rfl (ld_a l0) ?_
        refine t_0 rre_275 rfl (pq_zv (lk_e hK) rfl (show cF g18 K 2 = 0 from S_f hS18 0 (Nat.le_of_ble_eq_true rfl))) ?_
        show t_X d 38 278 lv14 [oI 0] g18 P
        refine tz_eq rre_278 (by decide) ⟨by omega, by omega⟩ (fun c19 => ?_) (fun c19 => absurd c19 (by omega))
        show t_X d 38 283 lv14 [] g18 P
        refine t_2 rre_283 rfl (w := (px_s1 lv14 5 (oI ((k : Int) + 1)), [])) (pq_inc l5 (by decide)) ?_
        replace l0 : px_lg (px_s1 lv14 5 (oI ((k : Int) + 1))) 0 = some (pvR K) := s1_ne (by decide) (fun _ => rfl) l0
        replace l2 : px_lg (px_s1 lv14 5 (oI ((k : Int) + 1))) 2 = some (oI ((e : Int))) := s1_ne (by decide) (fun _ => rfl) l2
        replace l3 : px_lg (px_s1 lv14 5 (oI ((k : Int) + 1))) 3 = some (pvR 173) := s1_ne (by decide) (fun _ => rfl) l3
        replace l6 : px_lg (px_s1 lv14 5 (oI ((k : Int) + 1))) 6 = some (oI (o k)) := s1_ne (by decide) (fun _ => rfl) l6
        replace l7 : px_lg (px_s1 lv14 5 (oI ((k : Int) + 1))) 7 = some (oI (v k)) := s1_ne (by decide) (fun _ => rfl) l7
        replace l4 : px_lg (px_s1 lv14 5 (oI ((k : Int) + 1))) 4 = some (oI (((n : Int) - 1) + (-1))) := s1_ne (by decide) (fun _ => rfl) l4
        have l5 : px_lg (px_s1 lv14 5 (oI ((k : Int) + 1))) 5 = some (oI ((k : Int) + 1)) := s1_eq
        generalize px_s1 lv14 5 (oI ((k : Int) + 1)) = lv20 at l0 l2 l3 l6 l7 l4 l5 ⊢
        show t_X d 38 286 lv20 [] g18 P
        refine t_1 rre_286 rfl (pb_goto (pc := 286) (by decide)) ?_
        show t_X d 38 11 lv20 [] g18 P
        have hP2 := hP
        rw [am_b hke hB j17] at hP2
        exact ih (k + 1) (n - 1) _ _ (by omega) (by omega) (by omega) hD1 hS18 hP2 l0 l2 l3 (by rw [show (((n - 1 : Nat) : Int) - 1) = ((n : Int) - 1) + (-1) by omega]; exact l4) (by rw [show (((k + 1 : Nat) : Int)) = (k : Int) + 1 by omega]; exact l5)
      · show t_X d 38 273 lv14 [oI 0, oI (((n - 2 : Nat) : Int)), pvR (K + 7)] g17 P
        refine ts_a (n := 0) rfl rfl (rk_a hK) rre_273 hS17 (rk_t7 hK) rfl (rk_u hK) (rk_G7 hK) (by decide) ⟨by omega, by omega⟩ ⟨by omega, by omega⟩ (fun g21 hS21 => ?_)
        replace hS21 : rE K g0 g21 1 (updI s (n - 2) 0) := hS21
        show t_X d 38 274 lv14 [] g21 P
        refine t_0 rre_274 rfl (ld_a l0) ?_
        refine t_0 rre_275 rfl (pq_zv (lk_e hK) rfl (show cF g21 K 2 = 1 from S_f hS21 0 (Nat.le_of_ble_eq_true rfl))) ?_
        show t_X d 38 278 lv14 [oI 1] g21 P
        refine tz_eq rre_278 (by decide) ⟨by omega, by omega⟩ (fun c22 => absurd c22 (by omega)) (fun c22 => ?_)
        show t_X d 38 281 lv14 [] g21 P
        refine t_0 rre_281 rfl rfl ?_
        refine t_5 rre_282 rfl rfl ?_
        have hP2 := hP
        rw [am_r hke hB j17] at hP2
        exact hP2 _ (S_J hS21)
set_option maxHeartbeats 1000000 in
theorem rre_run {K : Nat} (hK : lK K) {d : Nat} (hd : 2 ≤ d) {g0 : pH} {o v f : tC} (ho : fA g0 (K + 1) = o) (hv : fA g0 (K + 2) = v) (hf : fA g0 173 = f) {a e : Nat} (he : e ≤ 240) {D : Nat → Nat × Bool} (hst : ∀ k, a ≤ k → k < e → wst o v D k e) (hh : ∀ k, a ≤ k → k ≤ e → (D k).1 ≤ 16) (hE : (D e).1 = 1) {P : Option pv × pH → Prop} (hae : a ≤ e) (hA : (D a).1 = 0) {g : pH} {rf : Int} {s : tC} (hS : rE K g0 g rf s) (hP : ∀ g' : pH, J_ (rW K) g0 g' → P (some (oI (am o v f e (e - a) a 0 s)), g')) {lv : List (Nat × pv)} (l0 : px_lg lv 0 = some (pvR K)) (l1 : px_lg lv 1 = some (oI (a : Int))) (l2 : px_lg lv 2 = some (oI (e : Int))) (l3 : px_lg lv 3 = some (pvR 173)) : t_X d 38 0 lv [] g P := by
  refine t_0 rre_0 rfl rfl ?_
  refine t_2 rre_1 rfl (w := (px_s1 lv 4 (oI (-1)), [])) rfl ?_
  replace l0 : px_lg (px_s1 lv 4 (oI (-1))) 0 = some (pvR K) := s1_ne (by decide) (fun _ => rfl) l0
  replace l1 : px_lg (px_s1 lv 4 (oI (-1))) 1 = some (oI ((a : Int))) := s1_ne (by decide) (fun _ => rfl) l1
  replace l2 : px_lg (px_s1 lv 4 (oI (-1))) 2 = some (oI ((e : Int))) := s1_ne (by decide) (fun _ => rfl) l2
  replace l3 : px_lg (px_s1 lv 4 (oI (-1))) 3 = some (pvR 173) := s1_ne (by decide) (fun _ => rfl) l3
  have l4 : px_lg (px_s1 lv 4 (oI (-1))) 4 = some (oI (-1)) := s1_eq
  generalize px_s1 lv 4 (oI (-1)) = lv1 at l0 l1 l2 l3 l4 ⊢
  show t_X d 38 3 lv1 [] g P
  refine t_0 rre_3 rfl (ld_a l0) ?_
  refine t_0 rre_4 rfl rfl ?_
  refine ts_z (n := 0) rfl rfl (rk_f hK) rre_5 rfl (lk_e hK) hS (rk_w hK) (rk_g2 hK) (by decide) ⟨by omega, by omega⟩ (by omega) (fun g2 hS2 => ?_)
  replace hS2 : rE K g0 g2 0 s := hS2
  show t_X d 38 8 lv1 [] g2 P
  refine t_0 rre_8 rfl (ld_i l1) ?_
  refine t_2 rre_9 rfl (w := (px_s1 lv1 5 (oI ((a : Int))), [])) rfl ?_
  replace l0 : px_lg (px_s1 lv1 5 (oI ((a : Int)))) 0 = some (pvR K) := s1_ne (by decide) (fun _ => rfl) l0
  replace l1 : px_lg (px_s1 lv1 5 (oI ((a : Int)))) 1 = some (oI ((a : Int))) := s1_ne (by decide) (fun _ => rfl) l1
  replace l2 : px_lg (px_s1 lv1 5 (oI ((a : Int)))) 2 = some (oI ((e : Int))) := s1_ne (by decide) (fun _ => rfl) l2
  replace l3 : px_lg (px_s1 lv1 5 (oI ((a : Int)))) 3 = some (pvR 173) := s1_ne (by decide) (fun _ => rfl) l3
  replace l4 : px_lg (px_s1 lv1 5 (oI ((a : Int)))) 4 = some (oI (-1)) := s1_ne (by decide) (fun _ => rfl) l4
  have l5 : px_lg (px_s1 lv1 5 (oI ((a : Int)))) 5 = some (oI ((a : Int))) := s1_eq
  generalize px_s1 lv1 5 (oI ((a : Int))) = lv3 at l0 l1 l2 l3 l4 l5 ⊢
  show t_X d 38 11 lv3 [] g2 P
  exact rreL hK hd ho hv hf he hst hh hE (e - a) a 0 s _ (by omega) (Nat.le_refl a) hae hA hS2 (fun g' J' => hP g' J') l0 l2 l3 l4 l5
