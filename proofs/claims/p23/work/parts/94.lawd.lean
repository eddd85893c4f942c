/-! by hand: the law's reader, clauses; law (printed in part by wip/e2/ld.py) -/
theorem qcl_0 : xe_look (xc 233) 0 = some (.aload_n 0, 1, 0, 0, 0) := by decide +kernel
theorem qcl_1 : xe_look (xc 233) 1 = some (.invokevirtual 252, 3, 0, 198, 1137) := by decide +kernel
theorem qcl_4 : xe_look (xc 233) 4 = some (.istore_n 1, 1, 0, 0, 0) := by decide +kernel
theorem qcl_5 : xe_look (xc 233) 5 = some (.iload_n 1, 1, 0, 0, 0) := by decide +kernel
theorem qcl_6 : xe_look (xc 233) 6 = some (.invokestatic 350, 3, 0, 202, 1254) := by decide +kernel
theorem qcl_9 : xe_look (xc 233) 9 = some (.ifCond .ne 13, 3, 0, 0, 0) := by decide +kernel
theorem qcl_12 : xe_look (xc 233) 12 = some (.aload_n 0, 1, 0, 0, 0) := by decide +kernel
theorem qcl_13 : xe_look (xc 233) 13 = some (.iconst 1, 1, 0, 0, 0) := by decide +kernel
theorem qcl_14 : xe_look (xc 233) 14 = some (.aload_n 0, 1, 0, 0, 0) := by decide +kernel
theorem qcl_15 : xe_look (xc 233) 15 = some (.getfield 242, 3, 12, 18, 1135) := by decide +kernel
theorem qcl_18 : xe_look (xc 233) 18 = some (.invokevirtual 256, 3, 0, 274, 1138) := by decide +kernel
theorem qcl_21 : xe_look (xc 233) 21 = some (.ireturn, 1, 0, 0, 0) := by decide +kernel
theorem qcl_22 : xe_look (xc 233) 22 = some (.aload_n 0, 1, 0, 0, 0) := by decide +kernel
theorem qcl_23 : xe_look (xc 233) 23 = some (.getfield 353, 3, 12, 34, 1230) := by decide +kernel
theorem qcl_26 : xe_look (xc 233) 26 = some (.bipush 16, 2, 0, 0, 0) := by decide +kernel
theorem qcl_28 : xe_look (xc 233) 28 = some (.if_icmp .ne 13, 3, 0, 0, 0) := by decide +kernel
theorem qcl_31 : xe_look (xc 233) 31 = some (.aload_n 0, 1, 0, 0, 0) := by decide +kernel
theorem qcl_32 : xe_look (xc 233) 32 = some (.iconst 4, 1, 0, 0, 0) := by decide +kernel
theorem qcl_33 : xe_look (xc 233) 33 = some (.aload_n 0, 1, 0, 0, 0) := by decide +kernel
theorem qcl_34 : xe_look (xc 233) 34 = some (.getfield 242, 3, 12, 18, 1135) := by decide +kernel
theorem qcl_37 : xe_look (xc 233) 37 = some (.invokevirtual 256, 3, 0, 274, 1138) := by decide +kernel
theorem qcl_40 : xe_look (xc 233) 40 = some (.ireturn, 1, 0, 0, 0) := by decide +kernel
theorem qcl_41 : xe_look (xc 233) 41 = some (.aload_n 0, 1, 0, 0, 0) := by decide +kernel
theorem qcl_42 : xe_look (xc 233) 42 = some (.getfield 74, 3, 12, 38, 1195) := by decide +kernel
theorem qcl_45 : xe_look (xc 233) 45 = some (.aload_n 0, 1, 0, 0, 0) := by decide +kernel
theorem qcl_46 : xe_look (xc 233) 46 = some (.getfield 353, 3, 12, 34, 1230) := by decide +kernel
theorem qcl_49 : xe_look (xc 233) 49 = some (.iload_n 1, 1, 0, 0, 0) := by decide +kernel
theorem qcl_50 : xe_look (xc 233) 50 = some (.iastore, 1, 0, 0, 0) := by decide +kernel
theorem qcl_51 : xe_look (xc 233) 51 = some (.aload_n 0, 1, 0, 0, 0) := by decide +kernel
theorem qcl_52 : xe_look (xc 233) 52 = some (.aload_n 0, 1, 0, 0, 0) := by decide +kernel
theorem qcl_53 : xe_look (xc 233) 53 = some (.getfield 242, 3, 12, 18, 1135) := by decide +kernel
theorem qcl_56 : xe_look (xc 233) 56 = some (.iconst 1, 1, 0, 0, 0) := by decide +kernel
theorem qcl_57 : xe_look (xc 233) 57 = some (.iadd, 1, 0, 0, 0) := by decide +kernel
theorem qcl_58 : xe_look (xc 233) 58 = some (.putfield 242, 3, 12, 18, 1135) := by decide +kernel
theorem qcl_61 : xe_look (xc 233) 61 = some (.aload_n 0, 1, 0, 0, 0) := by decide +kernel
theorem qcl_62 : xe_look (xc 233) 62 = some (.getfield 77, 3, 12, 39, 1196) := by decide +kernel
theorem qcl_65 : xe_look (xc 233) 65 = some (.aload_n 0, 1, 0, 0, 0) := by decide +kernel
theorem qcl_66 : xe_look (xc 233) 66 = some (.getfield 353, 3, 12, 34, 1230) := by decide +kernel
theorem qcl_69 : xe_look (xc 233) 69 = some (.aload_n 0, 1, 0, 0, 0) := by decide +kernel
theorem qcl_70 : xe_look (xc 233) 70 = some (.getfield 296, 3, 12, 32, 1222) := by decide +kernel
theorem qcl_73 : xe_look (xc 233) 73 = some (.iastore, 1, 0, 0, 0) := by decide +kernel
theorem qcl_74 : xe_look (xc 233) 74 = some (.aload_n 0, 1, 0, 0, 0) := by decide +kernel
theorem qcl_75 : xe_look (xc 233) 75 = some (.iconst 0, 1, 0, 0, 0) := by decide +kernel
theorem qcl_76 : xe_look (xc 233) 76 = some (.putfield 300, 3, 12, 31, 1170) := by decide +kernel
theorem qcl_79 : xe_look (xc 233) 79 = some (.aload_n 0, 1, 0, 0, 0) := by decide +kernel
theorem qcl_80 : xe_look (xc 233) 80 = some (.iconst 0, 1, 0, 0, 0) := by decide +kernel
theorem qcl_81 : xe_look (xc 233) 81 = some (.putfield 303, 3, 12, 33, 1146) := by decide +kernel
theorem qcl_84 : xe_look (xc 233) 84 = some (.aload_n 0, 1, 0, 0, 0) := by decide +kernel
theorem qcl_85 : xe_look (xc 233) 85 = some (.invokevirtual 335, 3, 0, 241, 1255) := by decide +kernel
theorem qcl_88 : xe_look (xc 233) 88 = some (.ifCond .ne 5, 3, 0, 0, 0) := by decide +kernel
theorem qcl_91 : xe_look (xc 233) 91 = some (.iconst 0, 1, 0, 0, 0) := by decide +kernel
theorem qcl_92 : xe_look (xc 233) 92 = some (.ireturn, 1, 0, 0, 0) := by decide +kernel
theorem qcl_93 : xe_look (xc 233) 93 = some (.aload_n 0, 1, 0, 0, 0) := by decide +kernel
theorem qcl_94 : xe_look (xc 233) 94 = some (.getfield 80, 3, 12, 40, 1197) := by decide +kernel
theorem qcl_97 : xe_look (xc 233) 97 = some (.aload_n 0, 1, 0, 0, 0) := by decide +kernel
theorem qcl_98 : xe_look (xc 233) 98 = some (.getfield 353, 3, 12, 34, 1230) := by decide +kernel
theorem qcl_101 : xe_look (xc 233) 101 = some (.aload_n 0, 1, 0, 0, 0) := by decide +kernel
theorem qcl_102 : xe_look (xc 233) 102 = some (.getfield 296, 3, 12, 32, 1222) := by decide +kernel
theorem qcl_105 : xe_look (xc 233) 105 = some (.iastore, 1, 0, 0, 0) := by decide +kernel
theorem qcl_106 : xe_look (xc 233) 106 = some (.aload_n 0, 1, 0, 0, 0) := by decide +kernel
theorem qcl_107 : xe_look (xc 233) 107 = some (.invokevirtual 356, 3, 0, 235, 1256) := by decide +kernel
theorem qcl_110 : xe_look (xc 233) 110 = some (.ifCond .ne 5, 3, 0, 0, 0) := by decide +kernel
theorem qcl_113 : xe_look (xc 233) 113 = some (.iconst 0, 1, 0, 0, 0) := by decide +kernel
theorem qcl_114 : xe_look (xc 233) 114 = some (.ireturn, 1, 0, 0, 0) := by decide +kernel
theorem qcl_115 : xe_look (xc 233) 115 = some (.aload_n 0, 1, 0, 0, 0) := by decide +kernel
theorem qcl_116 : xe_look (xc 233) 116 = some (.getfield 83, 3, 12, 41, 1198) := by decide +kernel
theorem qcl_119 : xe_look (xc 233) 119 = some (.aload_n 0, 1, 0, 0, 0) := by decide +kernel
theorem qcl_120 : xe_look (xc 233) 120 = some (.getfield 353, 3, 12, 34, 1230) := by decide +kernel
theorem qcl_123 : xe_look (xc 233) 123 = some (.aload_n 0, 1, 0, 0, 0) := by decide +kernel
theorem qcl_124 : xe_look (xc 233) 124 = some (.getfield 296, 3, 12, 32, 1222) := by decide +kernel
theorem qcl_127 : xe_look (xc 233) 127 = some (.iastore, 1, 0, 0, 0) := by decide +kernel
theorem qcl_128 : xe_look (xc 233) 128 = some (.aload_n 0, 1, 0, 0, 0) := by decide +kernel
theorem qcl_129 : xe_look (xc 233) 129 = some (.aload_n 0, 1, 0, 0, 0) := by decide +kernel
theorem qcl_130 : xe_look (xc 233) 130 = some (.getfield 353, 3, 12, 34, 1230) := by decide +kernel
theorem qcl_133 : xe_look (xc 233) 133 = some (.iconst 1, 1, 0, 0, 0) := by decide +kernel
theorem qcl_134 : xe_look (xc 233) 134 = some (.iadd, 1, 0, 0, 0) := by decide +kernel
theorem qcl_135 : xe_look (xc 233) 135 = some (.putfield 353, 3, 12, 34, 1230) := by decide +kernel
theorem qcl_138 : xe_look (xc 233) 138 = some (.iconst 1, 1, 0, 0, 0) := by decide +kernel
theorem qcl_139 : xe_look (xc 233) 139 = some (.ireturn, 1, 0, 0, 0) := by decide +kernel
theorem qlw_0 : xe_look (xc 213) 0 = some (.iload_n 1, 1, 0, 0, 0) := by decide +kernel
theorem qlw_1 : xe_look (xc 213) 1 = some (.iconst 1, 1, 0, 0, 0) := by decide +kernel
theorem qlw_2 : xe_look (xc 213) 2 = some (.sipush 240, 3, 0, 0, 0) := by decide +kernel
theorem qlw_5 : xe_look (xc 213) 5 = some (.invokestatic 201, 3, 0, 199, 1131) := by decide +kernel
theorem qlw_8 : xe_look (xc 213) 8 = some (.ifCond .eq 11, 3, 0, 0, 0) := by decide +kernel
theorem qlw_11 : xe_look (xc 213) 11 = some (.iload_n 1, 1, 0, 0, 0) := by decide +kernel
theorem qlw_12 : xe_look (xc 213) 12 = some (.aload_n 0, 1, 0, 0, 0) := by decide +kernel
theorem qlw_13 : xe_look (xc 213) 13 = some (.getfield 194, 3, 12, 17, 1132) := by decide +kernel
theorem qlw_16 : xe_look (xc 213) 16 = some (.if_icmp .le 5, 3, 0, 0, 0) := by decide +kernel
theorem qlw_19 : xe_look (xc 213) 19 = some (.iconst (-1), 1, 0, 0, 0) := by decide +kernel
theorem qlw_20 : xe_look (xc 213) 20 = some (.ireturn, 1, 0, 0, 0) := by decide +kernel
theorem qlw_21 : xe_look (xc 213) 21 = some (.aload_n 0, 1, 0, 0, 0) := by decide +kernel
theorem qlw_22 : xe_look (xc 213) 22 = some (.iconst 0, 1, 0, 0, 0) := by decide +kernel
theorem qlw_23 : xe_look (xc 213) 23 = some (.putfield 242, 3, 12, 18, 1135) := by decide +kernel
theorem qlw_26 : xe_look (xc 213) 26 = some (.aload_n 0, 1, 0, 0, 0) := by decide +kernel
theorem qlw_27 : xe_look (xc 213) 27 = some (.iload_n 1, 1, 0, 0, 0) := by decide +kernel
theorem qlw_28 : xe_look (xc 213) 28 = some (.putfield 277, 3, 12, 19, 1190) := by decide +kernel
theorem qlw_31 : xe_look (xc 213) 31 = some (.aload_n 0, 1, 0, 0, 0) := by decide +kernel
theorem qlw_32 : xe_look (xc 213) 32 = some (.iconst 0, 1, 0, 0, 0) := by decide +kernel
theorem qlw_33 : xe_look (xc 213) 33 = some (.putfield 296, 3, 12, 32, 1222) := by decide +kernel
theorem qlw_36 : xe_look (xc 213) 36 = some (.aload_n 0, 1, 0, 0, 0) := by decide +kernel
theorem qlw_37 : xe_look (xc 213) 37 = some (.iconst 0, 1, 0, 0, 0) := by decide +kernel
theorem qlw_38 : xe_look (xc 213) 38 = some (.putfield 353, 3, 12, 34, 1230) := by decide +kernel
theorem qlw_41 : xe_look (xc 213) 41 = some (.aload_n 0, 1, 0, 0, 0) := by decide +kernel
theorem qlw_42 : xe_look (xc 213) 42 = some (.invokevirtual 359, 3, 0, 233, 1231) := by decide +kernel
theorem qlw_45 : xe_look (xc 213) 45 = some (.istore_n 2, 1, 0, 0, 0) := by decide +kernel
theorem qlw_46 : xe_look (xc 213) 46 = some (.iload_n 2, 1, 0, 0, 0) := by decide +kernel
theorem qlw_47 : xe_look (xc 213) 47 = some (.ifCond .eq 39, 3, 0, 0, 0) := by decide +kernel
theorem qlw_50 : xe_look (xc 213) 50 = some (.aload_n 0, 1, 0, 0, 0) := by decide +kernel
theorem qlw_51 : xe_look (xc 213) 51 = some (.getfield 242, 3, 12, 18, 1135) := by decide +kernel
theorem qlw_54 : xe_look (xc 213) 54 = some (.aload_n 0, 1, 0, 0, 0) := by decide +kernel
theorem qlw_55 : xe_look (xc 213) 55 = some (.getfield 277, 3, 12, 19, 1190) := by decide +kernel
theorem qlw_58 : xe_look (xc 213) 58 = some (.if_icmp .ge 28, 3, 0, 0, 0) := by decide +kernel
theorem qlw_61 : xe_look (xc 213) 61 = some (.aload_n 0, 1, 0, 0, 0) := by decide +kernel
theorem qlw_62 : xe_look (xc 213) 62 = some (.bipush 59, 2, 0, 0, 0) := by decide +kernel
theorem qlw_64 : xe_look (xc 213) 64 = some (.invokevirtual 283, 3, 0, 260, 1232) := by decide +kernel
theorem qlw_67 : xe_look (xc 213) 67 = some (.ifCond .eq 14, 3, 0, 0, 0) := by decide +kernel
theorem qlw_70 : xe_look (xc 213) 70 = some (.aload_n 0, 1, 0, 0, 0) := by decide +kernel
theorem qlw_71 : xe_look (xc 213) 71 = some (.invokevirtual 359, 3, 0, 233, 1231) := by decide +kernel
theorem qlw_74 : xe_look (xc 213) 74 = some (.ifCond .eq 7, 3, 0, 0, 0) := by decide +kernel
theorem qlw_77 : xe_look (xc 213) 77 = some (.iconst 1, 1, 0, 0, 0) := by decide +kernel
theorem qlw_78 : xe_look (xc 213) 78 = some (.goto 4, 3, 0, 0, 0) := by decide +kernel
theorem qlw_81 : xe_look (xc 213) 81 = some (.iconst 0, 1, 0, 0, 0) := by decide +kernel
theorem qlw_82 : xe_look (xc 213) 82 = some (.istore_n 2, 1, 0, 0, 0) := by decide +kernel
theorem qlw_83 : xe_look (xc 213) 83 = some (.goto (-37), 3, 0, 0, 0) := by decide +kernel
theorem qlw_86 : xe_look (xc 213) 86 = some (.aload_n 0, 1, 0, 0, 0) := by decide +kernel
theorem qlw_87 : xe_look (xc 213) 87 = some (.iconst 0, 1, 0, 0, 0) := by decide +kernel
theorem qlw_88 : xe_look (xc 213) 88 = some (.putfield 194, 3, 12, 17, 1132) := by decide +kernel
theorem qlw_91 : xe_look (xc 213) 91 = some (.iload_n 2, 1, 0, 0, 0) := by decide +kernel
theorem qlw_92 : xe_look (xc 213) 92 = some (.ifCond .ne 8, 3, 0, 0, 0) := by decide +kernel
theorem qlw_95 : xe_look (xc 213) 95 = some (.aload_n 0, 1, 0, 0, 0) := by decide +kernel
theorem qlw_96 : xe_look (xc 213) 96 = some (.getfield 286, 3, 12, 20, 1233) := by decide +kernel
theorem qlw_99 : xe_look (xc 213) 99 = some (.ireturn, 1, 0, 0, 0) := by decide +kernel
theorem qlw_100 : xe_look (xc 213) 100 = some (.aload_n 0, 1, 0, 0, 0) := by decide +kernel
theorem qlw_101 : xe_look (xc 213) 101 = some (.aload_n 0, 1, 0, 0, 0) := by decide +kernel
theorem qlw_102 : xe_look (xc 213) 102 = some (.getfield 353, 3, 12, 34, 1230) := by decide +kernel
theorem qlw_105 : xe_look (xc 213) 105 = some (.putfield 362, 3, 12, 35, 1124) := by decide +kernel
theorem qlw_108 : xe_look (xc 213) 108 = some (.iconst 0, 1, 0, 0, 0) := by decide +kernel
theorem qlw_109 : xe_look (xc 213) 109 = some (.istore_n 3, 1, 0, 0, 0) := by decide +kernel
theorem qlw_110 : xe_look (xc 213) 110 = some (.iload_n 3, 1, 0, 0, 0) := by decide +kernel
theorem qlw_111 : xe_look (xc 213) 111 = some (.aload_n 0, 1, 0, 0, 0) := by decide +kernel
theorem qlw_112 : xe_look (xc 213) 112 = some (.getfield 296, 3, 12, 32, 1222) := by decide +kernel
theorem qlw_115 : xe_look (xc 213) 115 = some (.if_icmp .ge 21, 3, 0, 0, 0) := by decide +kernel
theorem qlw_118 : xe_look (xc 213) 118 = some (.aload_n 0, 1, 0, 0, 0) := by decide +kernel
theorem qlw_119 : xe_look (xc 213) 119 = some (.getfield 86, 3, 12, 42, 1150) := by decide +kernel
theorem qlw_122 : xe_look (xc 213) 122 = some (.iload_n 3, 1, 0, 0, 0) := by decide +kernel
theorem qlw_123 : xe_look (xc 213) 123 = some (.aload_n 0, 1, 0, 0, 0) := by decide +kernel
theorem qlw_124 : xe_look (xc 213) 124 = some (.getfield 68, 3, 12, 36, 1194) := by decide +kernel
theorem qlw_127 : xe_look (xc 213) 127 = some (.iload_n 3, 1, 0, 0, 0) := by decide +kernel
theorem qlw_128 : xe_look (xc 213) 128 = some (.iaload, 1, 0, 0, 0) := by decide +kernel
theorem qlw_129 : xe_look (xc 213) 129 = some (.iastore, 1, 0, 0, 0) := by decide +kernel
theorem qlw_130 : xe_look (xc 213) 130 = some (.iinc 3 1, 3, 0, 0, 0) := by decide +kernel
theorem qlw_133 : xe_look (xc 213) 133 = some (.goto (-23), 3, 0, 0, 0) := by decide +kernel
theorem qlw_136 : xe_look (xc 213) 136 = some (.iconst 0, 1, 0, 0, 0) := by decide +kernel
theorem qlw_137 : xe_look (xc 213) 137 = some (.istore_n 3, 1, 0, 0, 0) := by decide +kernel
theorem qlw_138 : xe_look (xc 213) 138 = some (.iload_n 3, 1, 0, 0, 0) := by decide +kernel
theorem qlw_139 : xe_look (xc 213) 139 = some (.aload_n 0, 1, 0, 0, 0) := by decide +kernel
theorem qlw_140 : xe_look (xc 213) 140 = some (.getfield 353, 3, 12, 34, 1230) := by decide +kernel
theorem qlw_143 : xe_look (xc 213) 143 = some (.if_icmp .ge 57, 3, 0, 0, 0) := by decide +kernel
theorem qlw_146 : xe_look (xc 213) 146 = some (.aload_n 0, 1, 0, 0, 0) := by decide +kernel
theorem qlw_147 : xe_look (xc 213) 147 = some (.getfield 89, 3, 12, 43, 1125) := by decide +kernel
theorem qlw_150 : xe_look (xc 213) 150 = some (.iload_n 3, 1, 0, 0, 0) := by decide +kernel
theorem qlw_151 : xe_look (xc 213) 151 = some (.aload_n 0, 1, 0, 0, 0) := by decide +kernel
theorem qlw_152 : xe_look (xc 213) 152 = some (.getfield 74, 3, 12, 38, 1195) := by decide +kernel
theorem qlw_155 : xe_look (xc 213) 155 = some (.iload_n 3, 1, 0, 0, 0) := by decide +kernel
theorem qlw_156 : xe_look (xc 213) 156 = some (.iaload, 1, 0, 0, 0) := by decide +kernel
theorem qlw_157 : xe_look (xc 213) 157 = some (.iastore, 1, 0, 0, 0) := by decide +kernel
theorem qlw_158 : xe_look (xc 213) 158 = some (.aload_n 0, 1, 0, 0, 0) := by decide +kernel
theorem qlw_159 : xe_look (xc 213) 159 = some (.getfield 92, 3, 12, 44, 1129) := by decide +kernel
theorem qlw_162 : xe_look (xc 213) 162 = some (.iload_n 3, 1, 0, 0, 0) := by decide +kernel
theorem qlw_163 : xe_look (xc 213) 163 = some (.aload_n 0, 1, 0, 0, 0) := by decide +kernel
theorem qlw_164 : xe_look (xc 213) 164 = some (.getfield 77, 3, 12, 39, 1196) := by decide +kernel
theorem qlw_167 : xe_look (xc 213) 167 = some (.iload_n 3, 1, 0, 0, 0) := by decide +kernel
theorem qlw_168 : xe_look (xc 213) 168 = some (.iaload, 1, 0, 0, 0) := by decide +kernel
theorem qlw_169 : xe_look (xc 213) 169 = some (.iastore, 1, 0, 0, 0) := by decide +kernel
theorem qlw_170 : xe_look (xc 213) 170 = some (.aload_n 0, 1, 0, 0, 0) := by decide +kernel
theorem qlw_171 : xe_look (xc 213) 171 = some (.getfield 95, 3, 12, 45, 1126) := by decide +kernel
theorem qlw_174 : xe_look (xc 213) 174 = some (.iload_n 3, 1, 0, 0, 0) := by decide +kernel
theorem qlw_175 : xe_look (xc 213) 175 = some (.aload_n 0, 1, 0, 0, 0) := by decide +kernel
theorem qlw_176 : xe_look (xc 213) 176 = some (.getfield 80, 3, 12, 40, 1197) := by decide +kernel
theorem qlw_179 : xe_look (xc 213) 179 = some (.iload_n 3, 1, 0, 0, 0) := by decide +kernel
theorem qlw_180 : xe_look (xc 213) 180 = some (.iaload, 1, 0, 0, 0) := by decide +kernel
theorem qlw_181 : xe_look (xc 213) 181 = some (.iastore, 1, 0, 0, 0) := by decide +kernel
theorem qlw_182 : xe_look (xc 213) 182 = some (.aload_n 0, 1, 0, 0, 0) := by decide +kernel
theorem qlw_183 : xe_look (xc 213) 183 = some (.getfield 98, 3, 12, 46, 1127) := by decide +kernel
theorem qlw_186 : xe_look (xc 213) 186 = some (.iload_n 3, 1, 0, 0, 0) := by decide +kernel
theorem qlw_187 : xe_look (xc 213) 187 = some (.aload_n 0, 1, 0, 0, 0) := by decide +kernel
theorem qlw_188 : xe_look (xc 213) 188 = some (.getfield 83, 3, 12, 41, 1198) := by decide +kernel
theorem qlw_191 : xe_look (xc 213) 191 = some (.iload_n 3, 1, 0, 0, 0) := by decide +kernel
theorem qlw_192 : xe_look (xc 213) 192 = some (.iaload, 1, 0, 0, 0) := by decide +kernel
theorem qlw_193 : xe_look (xc 213) 193 = some (.iastore, 1, 0, 0, 0) := by decide +kernel
theorem qlw_194 : xe_look (xc 213) 194 = some (.iinc 3 1, 3, 0, 0, 0) := by decide +kernel
theorem qlw_197 : xe_look (xc 213) 197 = some (.goto (-59), 3, 0, 0, 0) := by decide +kernel
theorem qlw_200 : xe_look (xc 213) 200 = some (.aload_n 0, 1, 0, 0, 0) := by decide +kernel
theorem qlw_201 : xe_look (xc 213) 201 = some (.getfield 353, 3, 12, 34, 1230) := by decide +kernel
theorem qlw_204 : xe_look (xc 213) 204 = some (.ireturn, 1, 0, 0, 0) := by decide +kernel
theorem ga_218 : eG (cn 218) = ((-2147483648), 2147483647, []) := by decide +kernel
theorem ga_219 : eG (cn 219) = ((-2147483648), 2147483647, []) := by decide +kernel
theorem ga_220 : eG (cn 220) = ((-2147483648), 2147483647, []) := by decide +kernel
theorem ga_221 : eG (cn 221) = ((-2147483648), 2147483647, []) := by decide +kernel
theorem ga_222 : eG (cn 222) = ((-2147483648), 2147483647, []) := by decide +kernel
theorem ga_223 : eG (cn 223) = ((-2147483648), 2147483647, []) := by decide +kernel
theorem ga_224 : eG (cn 224) = ((-2147483648), 2147483647, []) := by decide +kernel
theorem ga_225 : eG (cn 225) = ((-2147483648), 2147483647, []) := by decide +kernel
theorem ga_226 : eG (cn 226) = ((-2147483648), 2147483647, []) := by decide +kernel
theorem gf_34 : eG (cn 196 + 34) = ((-2147483648), 2147483647, []) := by decide +kernel
def Wq : Nat := Wu ||| (2 ^ (cn 196 + 34) ||| (2 ^ cn 218 ||| (2 ^ cn 219 ||| (2 ^ cn 220 ||| 2 ^ cn 221))))
theorem Wq_f : Wq.testBit (cn 196 + 18) = true ∧ Wq.testBit (cn 196 + 20) = true ∧ Wq.testBit (cn 196 + 31) = true ∧ Wq.testBit (cn 196 + 33) = true ∧ Wq.testBit (cn 196 + 34) = true ∧ Wq.testBit (cn 218) = true ∧ Wq.testBit (cn 219) = true ∧ Wq.testBit (cn 220) = true ∧ Wq.testBit (cn 221) = true ∧ Wu &&& Wq = Wu := by decide +kernel
theorem Wu_z : Wu.testBit (cn 196 + 34) = false ∧ Wu.testBit (cn 218) = false ∧ Wu.testBit (cn 219) = false ∧ Wu.testBit (cn 220) = false ∧ Wu.testBit (cn 221) = false := by decide +kernel
def qI (g : pH) : Prop := (0 ≤ fF g 32 ∧ fF g 32 ≤ fF g 18 ∧ 0 ≤ fF g 34 ∧ fF g 34 ≤ 16) ∧ ∀ q : Nat, (q : Int) < fF g 34 → ∃ D1 D2 : Nat → Nat, cOK (fA g 216) D1 (fA g 219 q) (fA g 220 q) ∧ cOK (fA g 216) D2 (fA g 220 q) (fA g 221 q) ∧ fA g 221 q ≤ fF g 32
set_option maxHeartbeats 16000000 in
theorem cl_run {d : Nat} (hd : 8 ≤ d) {h0 g : pH} (hJ : J_ Wq h0 g) (hI : qI g) (hp : 0 ≤ fF g 18 ∧ fF g 18 ≤ fF g 19 ∧ fF g 19 ≤ 240) {P : Option pv × pH → Prop} (h1 : ∀ g1 : pH, J_ Wq h0 g1 → qI g1 → fF g 18 < fF g1 18 → fF g1 18 ≤ fF g1 19 → fF g1 19 = fF g 19 → P (some (oI 1), g1)) (h2 : ∀ g1 : pH, J_ Wq h0 g1 → P (some (oI 0), g1)) {lv : List (Nat × pv)} (l0 : px_lg lv 0 = some (pvR 196)) : t_X d 233 0 lv [] g P := by
  obtain ⟨w_18, w_20, w_31, w_33, w_34, w_a218, w_a219, w_a220, w_a221, wuq⟩ := Wq_f
  have hI1 := hI.1
  refine t_0 qcl_0 rfl (ld_a l0) ?_
  refine t_3 qcl_1 rfl (ar := ([pvR 196], [])) (pcal_v0 rfl rfl el_196) ⟨by omega, Nat.le_of_ble_eq_true rfl, Nat.le_of_ble_eq_true rfl, rfl⟩ ?_
  refine he_run hJ.1 (by omega) (by omega) ?_ rfl
  have hv1 := hV_b g
  have hn1 := hV_n g
  show t_X d 233 4 lv [oI (hV g)] g P
  refine t_2 qcl_4 rfl (w := (px_s1 lv 1 (oI (hV g)), [])) rfl ?_
  replace l0 : px_lg (px_s1 lv 1 (oI (hV g))) 0 = some (pvR 196) := s1_ne (by decide) (fun _ => rfl) l0
  have l1 : px_lg (px_s1 lv 1 (oI (hV g))) 1 = some (oI (hV g)) := s1_eq
  generalize px_s1 lv 1 (oI (hV g)) = lv2 at l0 l1 ⊢
  show t_X d 233 5 lv2 [] g P
  refine t_0 qcl_5 rfl (ld_i l1) ?_
  refine t_3 qcl_6 rfl (ar := ([oI (hV g)], [])) (pcal_s ⟨Or.inl rfl, rfl, Nat.le_of_ble_eq_true rfl⟩) ⟨by omega, Nat.le_of_ble_eq_true rfl, Nat.le_of_ble_eq_true rfl, rfl⟩ ?_
  refine ic_run ⟨by omega, by omega⟩ (fun t3 => ?_) ?_ rfl
  · show t_X d 233 9 lv2 [oI (1)] g P
    refine tz_ne qcl_9 (by decide) ⟨by omega, by omega⟩ (fun c4 => ?_) (fun c4 => absurd c4 (by omega))
    show t_X d 233 22 lv2 [] g P
    refine t_0 qcl_22 rfl (ld_a l0) ?_
    have r5 := fF_b g 34
    refine t_0 qcl_23 rfl (pq_gf (y := 34) rfl) ?_
    refine t_0 qcl_26 rfl (pq_b (by decide)) ?_
    refine tb_ne qcl_28 (by decide) ⟨by omega, by omega⟩ ⟨by omega, by omega⟩ (fun c6 => ?_) (fun c6 => ?_)
    · show t_X d 233 41 lv2 [] g P
      refine t_0 qcl_41 rfl (ld_a l0) ?_
      refine t_0 qcl_42 rfl (ar_38 hJ.1) ?_
      refine t_0 qcl_45 rfl (ld_a l0) ?_
      have r7 := fF_b g 34
      refine t_0 qcl_46 rfl (pq_gf (y := 34) rfl) ?_
      refine t_0 qcl_49 rfl (ld_i l1) ?_
      refine tw_a qcl_50 hJ el_218 rfl w_a218 ga_218 (by decide) ⟨by omega, by omega⟩ ⟨by omega, by omega⟩ (fun g8 hJ8 a8 v8 b8 f8 => ?_)
      replace f8 := fF_1 f8
      have q8_18 := congrFun f8 18
      have q8_19 := congrFun f8 19
      have q8_32 := congrFun f8 32
      have q8_33 := congrFun f8 33
      have q8_34 := congrFun f8 34
      show t_X d 233 51 lv2 [] g8 P
      refine t_0 qcl_51 rfl (ld_a l0) ?_
      refine t_0 qcl_52 rfl (ld_a l0) ?_
      have r9 := fF_b g8 18
      refine t_0 qcl_53 rfl (pq_gf (y := 18) rfl) ?_
      refine t_0 qcl_56 rfl rfl ?_
      refine t_0 qcl_57 rfl pq_add ?_
      refine tw_f qcl_58 rfl hJ8 w_18 gf_18 (by decide) ⟨by omega, by omega⟩ (fun g10 hJ10 v10 f10 a10 => ?_)
      replace a10 := fA_2 a10
      have q10_19 := f10 19 (by decide)
      have q10_32 := f10 32 (by decide)
      have q10_33 := f10 33 (by decide)
      have q10_34 := f10 34 (by decide)
      show t_X d 233 61 lv2 [] g10 P
      refine t_0 qcl_61 rfl (ld_a l0) ?_
      refine t_0 qcl_62 rfl (ar_39 hJ10.1) ?_
      refine t_0 qcl_65 rfl (ld_a l0) ?_
      have r11 := fF_b g10 34
      refine t_0 qcl_66 rfl (pq_gf (y := 34) rfl) ?_
      refine t_0 qcl_69 rfl (ld_a l0) ?_
      have r12 := fF_b g10 32
      refine t_0 qcl_70 rfl (pq_gf (y := 32) rfl) ?_
      refine tw_a qcl_73 hJ10 el_219 rfl w_a219 ga_219 (by decide) ⟨by omega, by omega⟩ ⟨by omega, by omega⟩ (fun g13 hJ13 a13 v13 b13 f13 => ?_)
      replace f13 := fF_1 f13
      have q13_18 := congrFun f13 18
      have q13_19 := congrFun f13 19
      have q13_32 := congrFun f13 32
      have q13_33 := congrFun f13 33
      have q13_34 := congrFun f13 34
      show t_X d 233 74 lv2 [] g13 P
      refine t_0 qcl_74 rfl (ld_a l0) ?_
      refine t_0 qcl_75 rfl rfl ?_
      refine tw_f qcl_76 rfl hJ13 w_31 gf_31 (by decide) ⟨by omega, by omega⟩ (fun g14 hJ14 v14 f14 a14 => ?_)
      replace a14 := fA_2 a14
      have q14_18 := f14 18 (by decide)
      have q14_19 := f14 19 (by decide)
      have q14_32 := f14 32 (by decide)
      have q14_33 := f14 33 (by decide)
      have q14_34 := f14 34 (by decide)
      show t_X d 233 79 lv2 [] g14 P
      refine t_0 qcl_79 rfl (ld_a l0) ?_
      refine t_0 qcl_80 rfl rfl ?_
      refine tw_f qcl_81 rfl hJ14 w_33 gf_33 (by decide) ⟨by omega, by omega⟩ (fun g15 hJ15 v15 f15 a15 => ?_)
      replace a15 := fA_2 a15
      have q15_18 := f15 18 (by decide)
      have q15_19 := f15 19 (by decide)
      have q15_32 := f15 32 (by decide)
      have q15_34 := f15 34 (by decide)
      show t_X d 233 84 lv2 [] g15 P
      refine t_0 qcl_84 rfl (ld_a l0) ?_
      refine t_3 qcl_85 rfl (ar := ([pvR 196], [])) (pcal_v0 rfl rfl el_196) ⟨by omega, Nat.le_of_ble_eq_true rfl, Nat.le_of_ble_eq_true rfl, rfl⟩ ?_
      refine sm_run (h0 := g15) (by omega) (J_rf hJ15.1) (c0 := (fF g15 32).toNat) (b := 0) (by omega) (by omega) ⟨by omega, by omega, by omega⟩ (by show ((fF g15 32).toNat : Int) + 0 ≤ _; omega) (fun j hj => absurd hj (Nat.not_lt_zero j)) (fun g16 A16 G16 w16 p16 u16 x16 => ?_) (fun g50016 A50016 => ?_) rfl
      · have hJ16 := J_up wuq hJ15 A16
        have z16_34 := fF_M A16.2 Wu_z.1
        have sk16 := sJ_c G16 (by show ((fF g15 32).toNat : Int) + 0 ≤ _; omega)
        have sl16 := G16.1.1
        show t_X d 233 88 lv2 [oI (1)] g16 P
        refine tz_ne qcl_88 (by decide) ⟨by omega, by omega⟩ (fun c17 => ?_) (fun c17 => absurd c17 (by omega))
        show t_X d 233 93 lv2 [] g16 P
        refine t_0 qcl_93 rfl (ld_a l0) ?_
        refine t_0 qcl_94 rfl (ar_40 hJ16.1) ?_
        refine t_0 qcl_97 rfl (ld_a l0) ?_
        have r18 := fF_b g16 34
        refine t_0 qcl_98 rfl (pq_gf (y := 34) rfl) ?_
        refine t_0 qcl_101 rfl (ld_a l0) ?_
        have r19 := fF_b g16 32
        refine t_0 qcl_102 rfl (pq_gf (y := 32) rfl) ?_
        refine tw_a qcl_105 hJ16 el_220 rfl w_a220 ga_220 (by decide) ⟨by omega, by omega⟩ ⟨by omega, by omega⟩ (fun g20 hJ20 a20 v20 b20 f20 => ?_)
        replace f20 := fF_1 f20
        have q20_18 := congrFun f20 18
        have q20_19 := congrFun f20 19
        have q20_32 := congrFun f20 32
        have q20_33 := congrFun f20 33
        have q20_34 := congrFun f20 34
        show t_X d 233 106 lv2 [] g20 P
        refine t_0 qcl_106 rfl (ld_a l0) ?_
        refine t_3 qcl_107 rfl (ar := ([pvR 196], [])) (pcal_v0 rfl rfl el_196) ⟨by omega, Nat.le_of_ble_eq_true rfl, Nat.le_of_ble_eq_true rfl, rfl⟩ ?_
        refine cn_run (h0 := g20) (by omega) (J_rf hJ20.1) (a := (fF g20 32).toNat) (by omega) ⟨by omega, by omega, by omega⟩ (fun g21 A21 K21 L21 c21 p21 u21 x21 => ?_) (fun g50021 A50021 => ?_) rfl
        · have hJ21 := J_up wuq hJ20 A21
          have z21_34 := fF_M A21.2 Wu_z.1
          show t_X d 233 110 lv2 [oI (1)] g21 P
          refine tz_ne qcl_110 (by decide) ⟨by omega, by omega⟩ (fun c22 => ?_) (fun c22 => absurd c22 (by omega))
          show t_X d 233 115 lv2 [] g21 P
          refine t_0 qcl_115 rfl (ld_a l0) ?_
          refine t_0 qcl_116 rfl (ar_41 hJ21.1) ?_
          refine t_0 qcl_119 rfl (ld_a l0) ?_
          have r23 := fF_b g21 34
          refine t_0 qcl_120 rfl (pq_gf (y := 34) rfl) ?_
          refine t_0 qcl_123 rfl (ld_a l0) ?_
          have r24 := fF_b g21 32
          refine t_0 qcl_124 rfl (pq_gf (y := 32) rfl) ?_
          refine tw_a qcl_127 hJ21 el_221 rfl w_a221 ga_221 (by decide) ⟨by omega, by omega⟩ ⟨by omega, by omega⟩ (fun g25 hJ25 a25 v25 b25 f25 => ?_)
          replace f25 := fF_1 f25
          have q25_18 := congrFun f25 18
          have q25_19 := congrFun f25 19
          have q25_32 := congrFun f25 32
          have q25_33 := congrFun f25 33
          have q25_34 := congrFun f25 34
          show t_X d 233 128 lv2 [] g25 P
          refine t_0 qcl_128 rfl (ld_a l0) ?_
          refine t_0 qcl_129 rfl (ld_a l0) ?_
          have r26 := fF_b g25 34
          refine t_0 qcl_130 rfl (pq_gf (y := 34) rfl) ?_
          refine t_0 qcl_133 rfl rfl ?_
          refine t_0 qcl_134 rfl pq_add ?_
          refine tw_f qcl_135 rfl hJ25 w_34 gf_34 (by decide) ⟨by omega, by omega⟩ (fun g27 hJ27 v27 f27 a27 => ?_)
          replace a27 := fA_2 a27
          have q27_18 := f27 18 (by decide)
          have q27_19 := f27 19 (by decide)
          have q27_32 := f27 32 (by decide)
          have q27_33 := f27 33 (by decide)
          show t_X d 233 138 lv2 [] g27 P
          refine t_0 qcl_138 rfl rfl ?_
          refine t_5 qcl_139 rfl rfl ?_
          have E0 : fA g15 216 = fA g 216 := by rw [a15, a14, a13 216 (by decide), a10, a8 216 (by decide)]
          have E1 : fA g20 216 = fA g16 216 := by rw [a20 216 (by decide)]
          have E2 : fA g27 216 = fA g21 216 := by rw [a27, a25 216 (by decide)]
          have F219 : fA g27 219 = fA g13 219 := by rw [a27, a25 219 (by decide), fA_M A21.2 Wu_z.2.2.1, a20 219 (by decide), fA_M A16.2 Wu_z.2.2.1, a15, a14]
          have F220 : fA g27 220 = fA g20 220 := by rw [a27, a25 220 (by decide), fA_M A21.2 Wu_z.2.2.2.1]
          have F221 : fA g27 221 = fA g25 221 := by rw [a27]
          have H219 : ∀ q : Nat, (q : Int) < fF g 34 → fA g27 219 q = fA g 219 q := fun q hq => by rw [F219, b13 q (by omega), a10, a8 219 (by decide)]
          have H220 : ∀ q : Nat, (q : Int) < fF g 34 → fA g27 220 q = fA g 220 q := fun q hq => by rw [F220, b20 q (by omega), fA_M A16.2 Wu_z.2.2.2.1, a15, a14, a13 220 (by decide), a10, a8 220 (by decide)]
          have H221 : ∀ q : Nat, (q : Int) < fF g 34 → fA g27 221 q = fA g 221 q := fun q hq => by rw [F221, b25 q (by omega), fA_M A21.2 Wu_z.2.2.2.2, a20 221 (by decide), fA_M A16.2 Wu_z.2.2.2.2, a15, a14, a13 221 (by decide), a10, a8 221 (by decide)]
          have B1 : ∀ u : Nat, (u : Int) < fF g 32 → fA g27 216 u = fA g 216 u := fun u hu => by rw [E2, L21 u (by omega), E1, G16.2.2.1 u (by omega), E0]
          have B2 : ∀ u : Nat, (u : Int) < fF g16 32 → fA g27 216 u = fA g16 216 u := fun u hu => by rw [E2, L21 u (by omega), E1]
          obtain ⟨D3, hD3⟩ := sJ_fin G16 (by omega)
          obtain ⟨D4, hD4⟩ := K21
          refine h1 _ hJ27 ⟨⟨by omega, by omega, by omega, by omega⟩, fun q hq => ?_⟩ (by omega) (by omega) (by omega)
          by_cases hq2 : (q : Int) < fF g 34
          · obtain ⟨D1, D2, y1, y2, y3⟩ := hI.2 q hq2
            rw [H219 q hq2, H220 q hq2, H221 q hq2]
            have z1 := y2.2.1
            exact ⟨D1, D2, cOK_e y1 (fun u u1 u2 => B1 u (by omega)), cOK_e y2 (fun u u1 u2 => B1 u (by omega)), by omega⟩
          · have q1 : fA g27 219 q = fF g 32 := by
              rw [F219, show q = (fF g10 34).toNat by omega, v13]
              omega
            have q2 : fA g27 220 q = fF g16 32 := by
              rw [F220, show q = (fF g16 34).toNat by omega, v20]
            have q3 : fA g27 221 q = fF g21 32 := by
              rw [F221, show q = (fF g21 34).toNat by omega, v25]
            rw [q1, q2, q3]
            refine ⟨D3, D4, ?_, ?_, by omega⟩
            · rw [show fF g 32 = (((fF g15 32).toNat : Nat) : Int) by omega]
              exact cOK_e hD3 (fun u u1 u2 => B2 u (by omega))
            · rw [show fF g16 32 = (((fF g20 32).toNat : Nat) : Int) by omega, E2]
              exact hD4
        · have hJ50021 := J_up wuq hJ20 A50021
          show t_X d 233 110 lv2 [oI (0)] g50021 P
          refine tz_ne qcl_110 (by decide) ⟨by omega, by omega⟩ (fun c28 => absurd c28 (by omega)) (fun c28 => ?_)
          show t_X d 233 113 lv2 [] g50021 P
          refine t_0 qcl_113 rfl rfl ?_
          refine t_5 qcl_114 rfl rfl ?_
          exact h2 _ hJ50021
      · have hJ50016 := J_up wuq hJ15 A50016
        show t_X d 233 88 lv2 [oI (0)] g50016 P
        refine tz_ne qcl_88 (by decide) ⟨by omega, by omega⟩ (fun c29 => absurd c29 (by omega)) (fun c29 => ?_)
        show t_X d 233 91 lv2 [] g50016 P
        refine t_0 qcl_91 rfl rfl ?_
        refine t_5 qcl_92 rfl rfl ?_
        exact h2 _ hJ50016
    · show t_X d 233 31 lv2 [] g P
      refine t_0 qcl_31 rfl (ld_a l0) ?_
      refine t_0 qcl_32 rfl rfl ?_
      refine t_0 qcl_33 rfl (ld_a l0) ?_
      have r30 := fF_b g 18
      refine t_0 qcl_34 rfl (pq_gf (y := 18) rfl) ?_
      refine t_3 qcl_37 rfl (ar := ([pvR 196, oI (4), oI (fF g 18)], [])) (pcal_v2 rfl rfl el_196) ⟨by omega, Nat.le_of_ble_eq_true rfl, Nat.le_of_ble_eq_true rfl, rfl⟩ ?_
      refine wr_run hJ w_20 (fun g31 hJ31 f31 a31 => ?_) rfl rfl rfl
      have q31_18 := f31 18 (by decide)
      have q31_19 := f31 19 (by decide)
      have q31_32 := f31 32 (by decide)
      have q31_33 := f31 33 (by decide)
      have q31_34 := f31 34 (by decide)
      show t_X d 233 40 lv2 [oI (0)] g31 P
      refine t_5 qcl_40 rfl rfl ?_
      exact h2 _ hJ31
  · show t_X d 233 9 lv2 [oI (0)] g P
    refine tz_ne qcl_9 (by decide) ⟨by omega, by omega⟩ (fun c32 => absurd c32 (by omega)) (fun c32 => ?_)
    show t_X d 233 12 lv2 [] g P
    refine t_0 qcl_12 rfl (ld_a l0) ?_
    refine t_0 qcl_13 rfl rfl ?_
    refine t_0 qcl_14 rfl (ld_a l0) ?_
    have r33 := fF_b g 18
    refine t_0 qcl_15 rfl (pq_gf (y := 18) rfl) ?_
    refine t_3 qcl_18 rfl (ar := ([pvR 196, oI (1), oI (fF g 18)], [])) (pcal_v2 rfl rfl el_196) ⟨by omega, Nat.le_of_ble_eq_true rfl, Nat.le_of_ble_eq_true rfl, rfl⟩ ?_
    refine wr_run hJ w_20 (fun g34 hJ34 f34 a34 => ?_) rfl rfl rfl
    have q34_18 := f34 18 (by decide)
    have q34_19 := f34 19 (by decide)
    have q34_32 := f34 32 (by decide)
    have q34_33 := f34 33 (by decide)
    have q34_34 := f34 34 (by decide)
    show t_X d 233 21 lv2 [oI (0)] g34 P
    refine t_5 qcl_21 rfl rfl ?_
    exact h2 _ hJ34
def Wm : Nat := Wq ||| (2 ^ (cn 196 + 17) ||| 2 ^ (cn 196 + 19)) ||| (2 ^ (cn 196 + 32))
def WL : Nat := Wm ||| (2 ^ (cn 196 + 35) ||| (2 ^ cn 222 ||| (2 ^ cn 223 ||| (2 ^ cn 224 ||| (2 ^ cn 225 ||| 2 ^ cn 226)))))
theorem Wm_f : Wm.testBit (cn 196 + 17) = true ∧ Wm.testBit (cn 196 + 18) = true ∧ Wm.testBit (cn 196 + 19) = true ∧ Wm.testBit (cn 196 + 20) = true ∧ Wm.testBit (cn 196 + 32) = true ∧ Wm.testBit (cn 196 + 34) = true ∧ Wq &&& Wm = Wq ∧ Wm &&& eDX = 0 ∧ Wm &&& WL = Wm := by decide +kernel
theorem WL_f : WL.testBit (cn 196 + 35) = true ∧ WL.testBit (cn 222) = true ∧ WL.testBit (cn 223) = true ∧ WL.testBit (cn 224) = true ∧ WL.testBit (cn 225) = true ∧ WL.testBit (cn 226) = true := by decide +kernel
set_option maxHeartbeats 16000000 in
theorem lw_2 {d : Nat} {h0 b cb : pH} (hI : qI b) (h35b : fF cb 35 = fF b 34) (h34b : fF cb 34 = fF b 34) (hc : ∀ u : Nat, (u : Int) < fF b 32 → fA cb 222 u = fA b 216 u) {P : Option pv × pH → Prop} (hP : ∀ (g1 : pH) (z : Int), J_ WL h0 g1 → xL g1 → P (some (oI z), g1)) : ∀ (m k : Nat) (g : pH) (lv : List (Nat × pv)), fF b 34 - k ≤ m → (k : Int) ≤ 16 → J_ WL h0 g → (∀ u, fF g u = fF cb u) → (fA g 222 = fA cb 222 ∧ fA g 219 = fA b 219 ∧ fA g 220 = fA b 220 ∧ fA g 221 = fA b 221) → (∀ j : Nat, j < k → fA g 224 j = fA b 219 j ∧ fA g 225 j = fA b 220 j ∧ fA g 226 j = fA b 221 j) → px_lg lv 0 = some (pvR 196) → px_lg lv 3 = some (oI (k : Int)) → t_X d 213 138 lv [] g P := by
  obtain ⟨w_35, w_a222, w_a223, w_a224, w_a225, w_a226⟩ := WL_f
  have hI1 := hI.1
  intro m
  induction m with
  | zero =>
    intro k g lv hm hk hJ hF hA hB l0 l3
    have hf34 := hF 34
    refine t_0 qlw_138 rfl (ld_i l3) ?_
    refine t_0 qlw_139 rfl (ld_a l0) ?_
    have r1 := fF_b g 34
    refine t_0 qlw_140 rfl (pq_gf (y := 34) rfl) ?_
    refine tb_ge qlw_143 (by decide) ⟨by omega, by omega⟩ ⟨by omega, by omega⟩ (fun c2 => ?_) (fun c2 => absurd c2 (by omega))
    show t_X d 213 200 lv [] g P
    refine t_0 qlw_200 rfl (ld_a l0) ?_
    have r3 := fF_b g 34
    refine t_0 qlw_201 rfl (pq_gf (y := 34) rfl) ?_
    refine t_5 qlw_204 rfl rfl ?_
    refine hP _ _ hJ ?_
    intro q hq
    have h35 := hF 35
    have h34 := hF 34
    have h32 := hF 32
    obtain ⟨D1, D2, y1, y2, y3⟩ := hI.2 q (by omega)
    obtain ⟨x1, x2, x3⟩ := hB q (by omega)
    have z1 := y2.2.1
    rw [x1, x2, x3, hA.1]
    exact ⟨D1, D2, cOK_e y1 (fun u u1 u2 => hc u (by omega)), cOK_e y2 (fun u u1 u2 => hc u (by omega))⟩
  | succ m ih =>
    intro k g lv hm hk hJ hF hA hB l0 l3
    have hf34 := hF 34
    by_cases hks : fF b 34 ≤ k
    · refine t_0 qlw_138 rfl (ld_i l3) ?_
      refine t_0 qlw_139 rfl (ld_a l0) ?_
      have r1 := fF_b g 34
      refine t_0 qlw_140 rfl (pq_gf (y := 34) rfl) ?_
      refine tb_ge qlw_143 (by decide) ⟨by omega, by omega⟩ ⟨by omega, by omega⟩ (fun c2 => ?_) (fun c2 => absurd c2 (by omega))
      show t_X d 213 200 lv [] g P
      refine t_0 qlw_200 rfl (ld_a l0) ?_
      have r3 := fF_b g 34
      refine t_0 qlw_201 rfl (pq_gf (y := 34) rfl) ?_
      refine t_5 qlw_204 rfl rfl ?_
      refine hP _ _ hJ ?_
      intro q hq
      have h35 := hF 35
      have h34 := hF 34
      have h32 := hF 32
      obtain ⟨D1, D2, y1, y2, y3⟩ := hI.2 q (by omega)
      obtain ⟨x1, x2, x3⟩ := hB q (by omega)
      have z1 := y2.2.1
      rw [x1, x2, x3, hA.1]
      exact ⟨D1, D2, cOK_e y1 (fun u u1 u2 => hc u (by omega)), cOK_e y2 (fun u u1 u2 => hc u (by omega))⟩
    refine t_0 qlw_138 rfl (ld_i l3) ?_
    refine t_0 qlw_139 rfl (ld_a l0) ?_
    have r1 := fF_b g 34
    refine t_0 qlw_140 rfl (pq_gf (y := 34) rfl) ?_
    refine tb_ge qlw_143 (by decide) ⟨by omega, by omega⟩ ⟨by omega, by omega⟩ (fun c2 => absurd c2 (by omega)) (fun c2 => ?_)
    show t_X d 213 146 lv [] g P
    refine t_0 qlw_146 rfl (ld_a l0) ?_
    refine t_0 qlw_147 rfl (ar_43 hJ.1) ?_
    refine t_0 qlw_150 rfl (ld_i l3) ?_
    refine t_0 qlw_151 rfl (ld_a l0) ?_
    refine t_0 qlw_152 rfl (ar_38 hJ.1) ?_
    refine t_0 qlw_155 rfl (ld_i l3) ?_
    refine t_0 qlw_156 rfl (pq_ia el_218 rfl ⟨by omega, by omega⟩) ?_
    have r3 := fA_b g 218 (k : Int).toNat
    refine tw_a qlw_157 hJ el_223 rfl w_a223 ga_223 (by decide) ⟨by omega, by omega⟩ ⟨by omega, by omega⟩ (fun g4 hJ4 a4 v4 b4 f4 => ?_)
    replace f4 := fF_1 f4
    have q4_32 := congrFun f4 32
    have q4_34 := congrFun f4 34
    show t_X d 213 158 lv [] g4 P
    refine t_0 qlw_158 rfl (ld_a l0) ?_
    refine t_0 qlw_159 rfl (ar_44 hJ4.1) ?_
    refine t_0 qlw_162 rfl (ld_i l3) ?_
    refine t_0 qlw_163 rfl (ld_a l0) ?_
    refine t_0 qlw_164 rfl (ar_39 hJ4.1) ?_
    refine t_0 qlw_167 rfl (ld_i l3) ?_
    refine t_0 qlw_168 rfl (pq_ia el_219 rfl ⟨by omega, by omega⟩) ?_
    have r5 := fA_b g4 219 (k : Int).toNat
    refine tw_a qlw_169 hJ4 el_224 rfl w_a224 ga_224 (by decide) ⟨by omega, by omega⟩ ⟨by omega, by omega⟩ (fun g6 hJ6 a6 v6 b6 f6 => ?_)
    replace f6 := fF_1 f6
    have q6_32 := congrFun f6 32
    have q6_34 := congrFun f6 34
    show t_X d 213 170 lv [] g6 P
    refine t_0 qlw_170 rfl (ld_a l0) ?_
    refine t_0 qlw_171 rfl (ar_45 hJ6.1) ?_
    refine t_0 qlw_174 rfl (ld_i l3) ?_
    refine t_0 qlw_175 rfl (ld_a l0) ?_
    refine t_0 qlw_176 rfl (ar_40 hJ6.1) ?_
    refine t_0 qlw_179 rfl (ld_i l3) ?_
    refine t_0 qlw_180 rfl (pq_ia el_220 rfl ⟨by omega, by omega⟩) ?_
    have r7 := fA_b g6 220 (k : Int).toNat
    refine tw_a qlw_181 hJ6 el_225 rfl w_a225 ga_225 (by decide) ⟨by omega, by omega⟩ ⟨by omega, by omega⟩ (fun g8 hJ8 a8 v8 b8 f8 => ?_)
    replace f8 := fF_1 f8
    have q8_32 := congrFun f8 32
    have q8_34 := congrFun f8 34
    show t_X d 213 182 lv [] g8 P
    refine t_0 qlw_182 rfl (ld_a l0) ?_
    refine t_0 qlw_183 rfl (ar_46 hJ8.1) ?_
    refine t_0 qlw_186 rfl (ld_i l3) ?_
    refine t_0 qlw_187 rfl (ld_a l0) ?_
    refine t_0 qlw_188 rfl (ar_41 hJ8.1) ?_
    refine t_0 qlw_191 rfl (ld_i l3) ?_
    refine t_0 qlw_192 rfl (pq_ia el_221 rfl ⟨by omega, by omega⟩) ?_
    have r9 := fA_b g8 221 (k : Int).toNat
    refine tw_a qlw_193 hJ8 el_226 rfl w_a226 ga_226 (by decide) ⟨by omega, by omega⟩ ⟨by omega, by omega⟩ (fun g10 hJ10 a10 v10 b10 f10 => ?_)
    replace f10 := fF_1 f10
    have q10_32 := congrFun f10 32
    have q10_34 := congrFun f10 34
    show t_X d 213 194 lv [] g10 P
    refine t_2 qlw_194 rfl (w := (px_s1 lv 3 (oI ((k : Int) + 1)), [])) (pq_inc l3 (by decide)) ?_
    replace l0 : px_lg (px_s1 lv 3 (oI ((k : Int) + 1))) 0 = some (pvR 196) := s1_ne (by decide) (fun _ => rfl) l0
    have l3 : px_lg (px_s1 lv 3 (oI ((k : Int) + 1))) 3 = some (oI ((k : Int) + 1)) := s1_eq
    generalize px_s1 lv 3 (oI ((k : Int) + 1)) = lv11 at l0 l3 ⊢
    show t_X d 213 197 lv11 [] g10 P
    refine t_1 qlw_197 rfl (pb_goto (pc := 197) (by decide)) ?_
    show t_X d 213 138 lv11 [] g10 P
    refine ih (k + 1) _ _ (by omega) (by omega) hJ10 (fun u => by rw [f10, f8, f6, f4]; exact hF u) ?_ ?_ l0 l3
    · obtain ⟨y1, y2, y3, y4⟩ := hA
      exact ⟨by rw [a10 222 (by decide), a8 222 (by decide), a6 222 (by decide), a4 222 (by decide)]; exact y1, by rw [a10 219 (by decide), a8 219 (by decide), a6 219 (by decide), a4 219 (by decide)]; exact y2, by rw [a10 220 (by decide), a8 220 (by decide), a6 220 (by decide), a4 220 (by decide)]; exact y3, by rw [a10 221 (by decide), a8 221 (by decide), a6 221 (by decide), a4 221 (by decide)]; exact y4⟩
    · intro j hj
      by_cases q : j = k
      · subst q
        refine ⟨?_, ?_, ?_⟩
        · rw [a10 224 (by decide), a8 224 (by decide)]
          exact Eq.trans v6 (by rw [a4 219 (by decide), hA.2.1]; rfl)
        · rw [a10 225 (by decide)]
          exact Eq.trans v8 (by rw [a6 220 (by decide), a4 220 (by decide), hA.2.2.1]; rfl)
        · exact Eq.trans v10 (by rw [a8 221 (by decide), a6 221 (by decide), a4 221 (by decide), hA.2.2.2]; rfl)
      · obtain ⟨y1, y2, y3⟩ := hB j (by omega)
        refine ⟨?_, ?_, ?_⟩
        · rw [a10 224 (by decide), a8 224 (by decide), b6 j (by show j ≠ k; omega), a4 224 (by decide)]
          exact y1
        · rw [a10 225 (by decide), b8 j (by show j ≠ k; omega), a6 225 (by decide), a4 225 (by decide)]
          exact y2
        · rw [b10 j (by show j ≠ k; omega), a8 226 (by decide), a6 226 (by decide), a4 226 (by decide)]
          exact y3
set_option maxHeartbeats 8000000 in
theorem lw_1 {d : Nat} {h0 b cb : pH} (hI : qI b) (hb18 : fF b 18 ≤ 240) (h35b : fF cb 35 = fF b 34) (h34b : fF cb 34 = fF b 34) (h32b : fF cb 32 = fF b 32) {P : Option pv × pH → Prop} (hP : ∀ (g1 : pH) (z : Int), J_ WL h0 g1 → xL g1 → P (some (oI z), g1)) : ∀ (m k : Nat) (g : pH) (lv : List (Nat × pv)), fF b 32 - k ≤ m → (k : Int) ≤ 240 → J_ WL h0 g → (∀ u, fF g u = fF cb u) → (fA g 216 = fA b 216 ∧ fA g 219 = fA b 219 ∧ fA g 220 = fA b 220 ∧ fA g 221 = fA b 221) → (∀ j : Nat, j < k → fA g 222 j = fA b 216 j) → px_lg lv 0 = some (pvR 196) → px_lg lv 3 = some (oI (k : Int)) → t_X d 213 110 lv [] g P := by
  obtain ⟨w_35, w_a222, w_a223, w_a224, w_a225, w_a226⟩ := WL_f
  have hI1 := hI.1
  intro m
  induction m with
  | zero =>
    intro k g lv hm hk hJ hF hA hB l0 l3
    have hf32 := hF 32
    have hf34 := hF 34
    refine t_0 qlw_110 rfl (ld_i l3) ?_
    refine t_0 qlw_111 rfl (ld_a l0) ?_
    have r1 := fF_b g 32
    refine t_0 qlw_112 rfl (pq_gf (y := 32) rfl) ?_
    refine tb_ge qlw_115 (by decide) ⟨by omega, by omega⟩ ⟨by omega, by omega⟩ (fun c2 => ?_) (fun c2 => absurd c2 (by omega))
    show t_X d 213 136 lv [] g P
    refine t_0 qlw_136 rfl rfl ?_
    refine t_2 qlw_137 rfl (w := (px_s1 lv 3 (oI (0)), [])) rfl ?_
    replace l0 : px_lg (px_s1 lv 3 (oI (0))) 0 = some (pvR 196) := s1_ne (by decide) (fun _ => rfl) l0
    have l3 : px_lg (px_s1 lv 3 (oI (0))) 3 = some (oI (0)) := s1_eq
    generalize px_s1 lv 3 (oI (0)) = lv3 at l0 l3 ⊢
    show t_X d 213 138 lv3 [] g P
    have h35 := hF 35
    have h32 := hF 32
    exact lw_2 (d := d) (cb := g) hI (by omega) (by omega) (fun u hu => hB u (by omega)) hP 16 0 _ _ (by omega) (by omega) hJ (fun _ => rfl) ⟨rfl, hA.2.1, hA.2.2.1, hA.2.2.2⟩ (fun j hj => absurd hj (Nat.not_lt_zero j)) l0 l3
  | succ m ih =>
    intro k g lv hm hk hJ hF hA hB l0 l3
    have hf32 := hF 32
    have hf34 := hF 34
    by_cases hks : fF b 32 ≤ k
    · refine t_0 qlw_110 rfl (ld_i l3) ?_
      refine t_0 qlw_111 rfl (ld_a l0) ?_
      have r1 := fF_b g 32
      refine t_0 qlw_112 rfl (pq_gf (y := 32) rfl) ?_
      refine tb_ge qlw_115 (by decide) ⟨by omega, by omega⟩ ⟨by omega, by omega⟩ (fun c2 => ?_) (fun c2 => absurd c2 (by omega))
      show t_X d 213 136 lv [] g P
      refine t_0 qlw_136 rfl rfl ?_
      refine t_2 qlw_137 rfl (w := (px_s1 lv 3 (oI (0)), [])) rfl ?_
      replace l0 : px_lg (px_s1 lv 3 (oI (0))) 0 = some (pvR 196) := s1_ne (by decide) (fun _ => rfl) l0
      have l3 : px_lg (px_s1 lv 3 (oI (0))) 3 = some (oI (0)) := s1_eq
      generalize px_s1 lv 3 (oI (0)) = lv3 at l0 l3 ⊢
      show t_X d 213 138 lv3 [] g P
      have h35 := hF 35
      have h32 := hF 32
      exact lw_2 (d := d) (cb := g) hI (by omega) (by omega) (fun u hu => hB u (by omega)) hP 16 0 _ _ (by omega) (by omega) hJ (fun _ => rfl) ⟨rfl, hA.2.1, hA.2.2.1, hA.2.2.2⟩ (fun j hj => absurd hj (Nat.not_lt_zero j)) l0 l3
    refine t_0 qlw_110 rfl (ld_i l3) ?_
    refine t_0 qlw_111 rfl (ld_a l0) ?_
    have r1 := fF_b g 32
    refine t_0 qlw_112 rfl (pq_gf (y := 32) rfl) ?_
    refine tb_ge qlw_115 (by decide) ⟨by omega, by omega⟩ ⟨by omega, by omega⟩ (fun c2 => absurd c2 (by omega)) (fun c2 => ?_)
    show t_X d 213 118 lv [] g P
    refine t_0 qlw_118 rfl (ld_a l0) ?_
    refine t_0 qlw_119 rfl (ar_42 hJ.1) ?_
    refine t_0 qlw_122 rfl (ld_i l3) ?_
    refine t_0 qlw_123 rfl (ld_a l0) ?_
    refine t_0 qlw_124 rfl (ar_36 hJ.1) ?_
    refine t_0 qlw_127 rfl (ld_i l3) ?_
    refine t_0 qlw_128 rfl (pq_ia el_216 rfl ⟨by omega, by omega⟩) ?_
    have r3 := fA_b g 216 (k : Int).toNat
    refine tw_a qlw_129 hJ el_222 rfl w_a222 ga_222 (by decide) ⟨by omega, by omega⟩ ⟨by omega, by omega⟩ (fun g4 hJ4 a4 v4 b4 f4 => ?_)
    replace f4 := fF_1 f4
    have q4_32 := congrFun f4 32
    have q4_34 := congrFun f4 34
    show t_X d 213 130 lv [] g4 P
    refine t_2 qlw_130 rfl (w := (px_s1 lv 3 (oI ((k : Int) + 1)), [])) (pq_inc l3 (by decide)) ?_
    replace l0 : px_lg (px_s1 lv 3 (oI ((k : Int) + 1))) 0 = some (pvR 196) := s1_ne (by decide) (fun _ => rfl) l0
    have l3 : px_lg (px_s1 lv 3 (oI ((k : Int) + 1))) 3 = some (oI ((k : Int) + 1)) := s1_eq
    generalize px_s1 lv 3 (oI ((k : Int) + 1)) = lv5 at l0 l3 ⊢
    show t_X d 213 133 lv5 [] g4 P
    refine t_1 qlw_133 rfl (pb_goto (pc := 133) (by decide)) ?_
    show t_X d 213 110 lv5 [] g4 P
    refine ih (k + 1) _ _ (by omega) (by omega) hJ4 (fun u => by rw [f4]; exact hF u) ?_ ?_ l0 l3
    · obtain ⟨y1, y2, y3, y4⟩ := hA
      exact ⟨by rw [a4 216 (by decide)]; exact y1, by rw [a4 219 (by decide)]; exact y2, by rw [a4 220 (by decide)]; exact y3, by rw [a4 221 (by decide)]; exact y4⟩
    · intro j hj
      by_cases q : j = k
      · subst q
        exact Eq.trans v4 (by rw [hA.1]; rfl)
      · rw [b4 j (by show j ≠ k; omega)]
        exact hB j (by omega)
theorem J_wide {W V : Nat} {h0 g : pH} (hV : W &&& V = W) (h : J_ W h0 g) : J_ V h0 g := ⟨h.1, f_M_tr hV (f_M_rf V h0) h.2⟩
set_option maxHeartbeats 8000000 in
theorem lw_e {d : Nat} {h0 : pH} (hx : xL h0) {P : Option pv × pH → Prop} (hP : ∀ (g1 : pH) (z : Int), J_ WL h0 g1 → xL g1 → P (some (oI z), g1)) {g : pH} (hJ : J_ Wm h0 g) {x : Int} (hxx : x = 0 ∨ (x = 1 ∧ qI g ∧ fF g 18 ≤ 240)) {lv : List (Nat × pv)} (l0 : px_lg lv 0 = some (pvR 196)) (l2 : px_lg lv 2 = some (oI x)) : t_X d 213 86 lv [] g P := by
  obtain ⟨w_17, w_18, w_19, w_20, w_32, w_34, wqm, wmx, wml⟩ := Wm_f
  obtain ⟨w_35, w_a222, w_a223, w_a224, w_a225, w_a226⟩ := WL_f
  rcases hxx with rfl | ⟨rfl, hI, hp⟩
  · refine t_0 qlw_86 rfl (ld_a l0) ?_
    refine t_0 qlw_87 rfl rfl ?_
    refine tw_f qlw_88 rfl hJ w_17 gf_17 (by decide) ⟨by omega, by omega⟩ (fun g1 hJ1 v1 f1 a1 => ?_)
    replace a1 := fA_2 a1
    have q1_18 := f1 18 (by decide)
    have q1_19 := f1 19 (by decide)
    have q1_32 := f1 32 (by decide)
    have q1_33 := f1 33 (by decide)
    have q1_34 := f1 34 (by decide)
    show t_X d 213 91 lv [] g1 P
    refine t_0 qlw_91 rfl (ld_i l2) ?_
    refine tz_ne qlw_92 (by decide) ⟨by omega, by omega⟩ (fun c2 => absurd c2 (by omega)) (fun c2 => ?_)
    show t_X d 213 95 lv [] g1 P
    refine t_0 qlw_95 rfl (ld_a l0) ?_
    have r3 := fF_b g1 20
    refine t_0 qlw_96 rfl (pq_gf (y := 20) rfl) ?_
    refine t_5 qlw_99 rfl rfl ?_
    exact hP _ _ (J_wide wml hJ1) (xL_K _ _ _ hJ1.2 wmx hx)
  · have hI1 := hI.1
    refine t_0 qlw_86 rfl (ld_a l0) ?_
    refine t_0 qlw_87 rfl rfl ?_
    refine tw_f qlw_88 rfl hJ w_17 gf_17 (by decide) ⟨by omega, by omega⟩ (fun g1 hJ1 v1 f1 a1 => ?_)
    replace a1 := fA_2 a1
    have q1_18 := f1 18 (by decide)
    have q1_19 := f1 19 (by decide)
    have q1_32 := f1 32 (by decide)
    have q1_33 := f1 33 (by decide)
    have q1_34 := f1 34 (by decide)
    show t_X d 213 91 lv [] g1 P
    refine t_0 qlw_91 rfl (ld_i l2) ?_
    refine tz_ne qlw_92 (by decide) ⟨by omega, by omega⟩ (fun c2 => ?_) (fun c2 => absurd c2 (by omega))
    show t_X d 213 100 lv [] g1 P
    have hJw := J_wide wml hJ1
    refine t_0 qlw_100 rfl (ld_a l0) ?_
    refine t_0 qlw_101 rfl (ld_a l0) ?_
    have r3 := fF_b g1 34
    refine t_0 qlw_102 rfl (pq_gf (y := 34) rfl) ?_
    refine tw_f qlw_105 rfl hJw w_35 gf_35 (by decide) ⟨by omega, by omega⟩ (fun g4 hJ4 v4 f4 a4 => ?_)
    replace a4 := fA_2 a4
    have q4_18 := f4 18 (by decide)
    have q4_19 := f4 19 (by decide)
    have q4_32 := f4 32 (by decide)
    have q4_33 := f4 33 (by decide)
    have q4_34 := f4 34 (by decide)
    show t_X d 213 108 lv [] g4 P
    refine t_0 qlw_108 rfl rfl ?_
    refine t_2 qlw_109 rfl (w := (px_s1 lv 3 (oI (0)), [])) rfl ?_
    replace l0 : px_lg (px_s1 lv 3 (oI (0))) 0 = some (pvR 196) := s1_ne (by decide) (fun _ => rfl) l0
    replace l2 : px_lg (px_s1 lv 3 (oI (0))) 2 = some (oI (1)) := s1_ne (by decide) (fun _ => rfl) l2
    have l3 : px_lg (px_s1 lv 3 (oI (0))) 3 = some (oI (0)) := s1_eq
    generalize px_s1 lv 3 (oI (0)) = lv5 at l0 l2 l3 ⊢
    show t_X d 213 110 lv5 [] g4 P
    exact lw_1 (d := d) (b := g) (cb := g4) hI (by omega) (by omega) (by omega) (by omega) hP 240 0 _ _ (by omega) (by omega) hJ4 (fun _ => rfl) ⟨by rw [a4, a1], by rw [a4, a1], by rw [a4, a1], by rw [a4, a1]⟩ (fun j hj => absurd hj (Nat.not_lt_zero j)) l0 l3
theorem lw_z {d : Nat} {h0 : pH} (hx : xL h0) {P : Option pv × pH → Prop} (hP : ∀ (g1 : pH) (z : Int), J_ WL h0 g1 → xL g1 → P (some (oI z), g1)) {g : pH} (hJ : J_ Wm h0 g) {lv : List (Nat × pv)} (l0 : px_lg lv 0 = some (pvR 196)) (l2 : px_lg lv 2 = some (oI 0)) : t_X d 213 46 lv [] g P := by
  refine t_0 qlw_46 rfl (ld_i l2) ?_
  refine tz_eq qlw_47 (by decide) ⟨by omega, by omega⟩ (fun c1 => ?_) (fun c1 => absurd c1 (by omega))
  show t_X d 213 86 lv [] g P
  exact lw_e hx hP hJ (Or.inl rfl) l0 l2
set_option maxHeartbeats 8000000 in
theorem lw_m {d : Nat} (hd : 9 ≤ d) {h0 : pH} (hx : xL h0) {N : Int} (hN : 0 ≤ N ∧ N ≤ 240) {P : Option pv × pH → Prop} (hP : ∀ (g1 : pH) (z : Int), J_ WL h0 g1 → xL g1 → P (some (oI z), g1)) : ∀ (m : Nat) (g : pH) (lv : List (Nat × pv)), N + 1 - fF g 18 ≤ m → (0 ≤ fF g 18 ∧ fF g 18 ≤ N ∧ fF g 19 = N) → qI g → J_ Wm h0 g → px_lg lv 0 = some (pvR 196) → px_lg lv 2 = some (oI 1) → t_X d 213 46 lv [] g P := by
  obtain ⟨w_17, w_18, w_19, w_20, w_32, w_34, wqm, wmx, wml⟩ := Wm_f
  intro m
  induction m with
  | zero =>
    intro g lv hm hp hI hJ l0 l2
    omega
  | succ m ih =>
    intro g lv hm hp hI hJ l0 l2
    have hI1 := hI.1
    refine t_0 qlw_46 rfl (ld_i l2) ?_
    refine tz_eq qlw_47 (by decide) ⟨by omega, by omega⟩ (fun c1 => absurd c1 (by omega)) (fun c1 => ?_)
    show t_X d 213 50 lv [] g P
    refine t_0 qlw_50 rfl (ld_a l0) ?_
    have r2 := fF_b g 18
    refine t_0 qlw_51 rfl (pq_gf (y := 18) rfl) ?_
    refine t_0 qlw_54 rfl (ld_a l0) ?_
    have r3 := fF_b g 19
    refine t_0 qlw_55 rfl (pq_gf (y := 19) rfl) ?_
    refine tb_ge qlw_58 (by decide) ⟨by omega, by omega⟩ ⟨by omega, by omega⟩ (fun c4 => ?_) (fun c4 => ?_)
    · show t_X d 213 86 lv [] g P
      exact lw_e hx hP hJ (Or.inr ⟨rfl, hI, by omega⟩) l0 l2
    · show t_X d 213 61 lv [] g P
      refine t_0 qlw_61 rfl (ld_a l0) ?_
      refine t_0 qlw_62 rfl (pq_b (by decide)) ?_
      refine t_3 qlw_64 rfl (ar := ([pvR 196, oI (59)], [])) (pcal_v1 rfl rfl el_196) ⟨by omega, Nat.le_of_ble_eq_true rfl, Nat.le_of_ble_eq_true rfl, rfl⟩ ?_
      refine tk_run (by omega) hJ w_18 w_20 (by omega) (by omega) (by decide) (fun g5 p5 u5 hJ5 f5 a5 => ?_) (fun g50005 hJ50005 => ?_) rfl rfl
      · have q5_19 := f5 19 (by decide)
        have q5_32 := f5 32 (by decide)
        have q5_34 := f5 34 (by decide)
        have I5 : qI g5 := by
          unfold qI
          rw [q5_32, q5_34, a5]
          exact ⟨by omega, hI.2⟩
        show t_X d 213 67 lv [oI (1)] g5 P
        refine tz_eq qlw_67 (by decide) ⟨by omega, by omega⟩ (fun c6 => absurd c6 (by omega)) (fun c6 => ?_)
        show t_X d 213 70 lv [] g5 P
        refine t_0 qlw_70 rfl (ld_a l0) ?_
        refine t_3 qlw_71 rfl (ar := ([pvR 196], [])) (pcal_v0 rfl rfl el_196) ⟨by omega, Nat.le_of_ble_eq_true rfl, Nat.le_of_ble_eq_true rfl, rfl⟩ ?_
        refine cl_run (h0 := g5) (by omega) (J_rf hJ5.1) I5 ⟨by omega, by omega, by omega⟩ (fun g7 A7 I7 p7 u7 x7 => ?_) (fun g50007 A50007 => ?_) rfl
        · have hJ7 := J_up wqm hJ5 A7
          show t_X d 213 74 lv [oI (1)] g7 P
          refine tz_eq qlw_74 (by decide) ⟨by omega, by omega⟩ (fun c8 => absurd c8 (by omega)) (fun c8 => ?_)
          show t_X d 213 77 lv [] g7 P
          refine t_0 qlw_77 rfl rfl ?_
          refine t_1 qlw_78 rfl (pb_goto (pc := 78) (by decide)) ?_
          show t_X d 213 82 lv [oI (1)] g7 P
          refine t_2 qlw_82 rfl (w := (px_s1 lv 2 (oI (1)), [])) rfl ?_
          replace l0 : px_lg (px_s1 lv 2 (oI (1))) 0 = some (pvR 196) := s1_ne (by decide) (fun _ => rfl) l0
          have l2 : px_lg (px_s1 lv 2 (oI (1))) 2 = some (oI (1)) := s1_eq
          generalize px_s1 lv 2 (oI (1)) = lv9 at l0 l2 ⊢
          show t_X d 213 83 lv9 [] g7 P
          refine t_1 qlw_83 rfl (pb_goto (pc := 83) (by decide)) ?_
          show t_X d 213 46 lv9 [] g7 P
          exact ih _ _ (by omega) (by omega) I7 hJ7 l0 l2
        · have hJ50007 := J_up wqm hJ5 A50007
          show t_X d 213 74 lv [oI (0)] g50007 P
          refine tz_eq qlw_74 (by decide) ⟨by omega, by omega⟩ (fun c10 => ?_) (fun c10 => absurd c10 (by omega))
          show t_X d 213 81 lv [] g50007 P
          refine t_0 qlw_81 rfl rfl ?_
          refine t_2 qlw_82 rfl (w := (px_s1 lv 2 (oI (0)), [])) rfl ?_
          replace l0 : px_lg (px_s1 lv 2 (oI (0))) 0 = some (pvR 196) := s1_ne (by decide) (fun _ => rfl) l0
          have l2 : px_lg (px_s1 lv 2 (oI (0))) 2 = some (oI (0)) := s1_eq
          generalize px_s1 lv 2 (oI (0)) = lv11 at l0 l2 ⊢
          show t_X d 213 83 lv11 [] g50007 P
          refine t_1 qlw_83 rfl (pb_goto (pc := 83) (by decide)) ?_
          show t_X d 213 46 lv11 [] g50007 P
          exact lw_z hx hP hJ50007 l0 l2
      · show t_X d 213 67 lv [oI (0)] g50005 P
        refine tz_eq qlw_67 (by decide) ⟨by omega, by omega⟩ (fun c12 => ?_) (fun c12 => absurd c12 (by omega))
        show t_X d 213 81 lv [] g50005 P
        refine t_0 qlw_81 rfl rfl ?_
        refine t_2 qlw_82 rfl (w := (px_s1 lv 2 (oI (0)), [])) rfl ?_
        replace l0 : px_lg (px_s1 lv 2 (oI (0))) 0 = some (pvR 196) := s1_ne (by decide) (fun _ => rfl) l0
        have l2 : px_lg (px_s1 lv 2 (oI (0))) 2 = some (oI (0)) := s1_eq
        generalize px_s1 lv 2 (oI (0)) = lv13 at l0 l2 ⊢
        show t_X d 213 83 lv13 [] g50005 P
        refine t_1 qlw_83 rfl (pb_goto (pc := 83) (by decide)) ?_
        show t_X d 213 46 lv13 [] g50005 P
        exact lw_z hx hP hJ50005 l0 l2
set_option maxHeartbeats 8000000 in
theorem lw_run {d : Nat} (hd : 10 ≤ d) {g : pH} (hG : g_I eG g) (hx : xL g) {n : Int} (hn : -2147483648 ≤ n ∧ n ≤ 2147483647) {P : Option pv × pH → Prop} (hP : ∀ (g1 : pH) (z : Int), J_ WL g g1 → xL g1 → P (some (oI z), g1)) {lv : List (Nat × pv)} (l0 : px_lg lv 0 = some (pvR 196)) (l1 : px_lg lv 1 = some (oI n)) : t_X d 213 0 lv [] g P := by
  obtain ⟨w_17, w_18, w_19, w_20, w_32, w_34, wqm, wmx, wml⟩ := Wm_f
  have hJ0 : J_ Wm g g := J_rf hG
  refine t_0 qlw_0 rfl (ld_i l1) ?_
  refine t_0 qlw_1 rfl rfl ?_
  refine t_0 qlw_2 rfl (pq_s (by decide)) ?_
  refine t_3 qlw_5 rfl (ar := ([oI (n), oI (1), oI (240)], [])) (pcal_s ⟨Or.inl rfl, rfl, Nat.le_of_ble_eq_true rfl⟩) ⟨by omega, Nat.le_of_ble_eq_true rfl, Nat.le_of_ble_eq_true rfl, rfl⟩ ?_
  refine in_run ⟨by omega, by omega⟩ ⟨by omega, by omega⟩ ⟨by omega, by omega⟩ rfl rfl rfl (fun t1 => ?_) (fun t1 => ?_)
  · show t_X d 213 8 lv [oI (1)] g P
    refine tz_eq qlw_8 (by decide) ⟨by omega, by omega⟩ (fun c2 => absurd c2 (by omega)) (fun c2 => ?_)
    show t_X d 213 11 lv [] g P
    refine t_0 qlw_11 rfl (ld_i l1) ?_
    refine t_0 qlw_12 rfl (ld_a l0) ?_
    have r3 := gb_f hJ0.1 (y := 17) rfl rfl gf_17
    refine t_0 qlw_13 rfl (pq_gf (y := 17) rfl) ?_
    refine tb_le qlw_16 (by decide) ⟨by omega, by omega⟩ ⟨by omega, by omega⟩ (fun c4 => ?_) (fun c4 => ?_)
    · show t_X d 213 21 lv [] g P
      refine t_0 qlw_21 rfl (ld_a l0) ?_
      refine t_0 qlw_22 rfl rfl ?_
      refine tw_f qlw_23 rfl hJ0 w_18 gf_18 (by decide) ⟨by omega, by omega⟩ (fun g5 hJ5 v5 f5 a5 => ?_)
      replace a5 := fA_2 a5
      have q5_19 := f5 19 (by decide)
      have q5_32 := f5 32 (by decide)
      have q5_33 := f5 33 (by decide)
      have q5_34 := f5 34 (by decide)
      show t_X d 213 26 lv [] g5 P
      refine t_0 qlw_26 rfl (ld_a l0) ?_
      refine t_0 qlw_27 rfl (ld_i l1) ?_
      refine tw_f qlw_28 rfl hJ5 w_19 gf_19 (by decide) ⟨by omega, by omega⟩ (fun g6 hJ6 v6 f6 a6 => ?_)
      replace a6 := fA_2 a6
      have q6_18 := f6 18 (by decide)
      have q6_32 := f6 32 (by decide)
      have q6_33 := f6 33 (by decide)
      have q6_34 := f6 34 (by decide)
      show t_X d 213 31 lv [] g6 P
      refine t_0 qlw_31 rfl (ld_a l0) ?_
      refine t_0 qlw_32 rfl rfl ?_
      refine tw_f qlw_33 rfl hJ6 w_32 gf_32 (by decide) ⟨by omega, by omega⟩ (fun g7 hJ7 v7 f7 a7 => ?_)
      replace a7 := fA_2 a7
      have q7_18 := f7 18 (by decide)
      have q7_19 := f7 19 (by decide)
      have q7_33 := f7 33 (by decide)
      have q7_34 := f7 34 (by decide)
      show t_X d 213 36 lv [] g7 P
      refine t_0 qlw_36 rfl (ld_a l0) ?_
      refine t_0 qlw_37 rfl rfl ?_
      refine tw_f qlw_38 rfl hJ7 w_34 gf_34 (by decide) ⟨by omega, by omega⟩ (fun g8 hJ8 v8 f8 a8 => ?_)
      replace a8 := fA_2 a8
      have q8_18 := f8 18 (by decide)
      have q8_19 := f8 19 (by decide)
      have q8_32 := f8 32 (by decide)
      have q8_33 := f8 33 (by decide)
      show t_X d 213 41 lv [] g8 P
      have I0 : qI g8 := ⟨by omega, fun q hq => absurd hq (by omega)⟩
      refine t_0 qlw_41 rfl (ld_a l0) ?_
      refine t_3 qlw_42 rfl (ar := ([pvR 196], [])) (pcal_v0 rfl rfl el_196) ⟨by omega, Nat.le_of_ble_eq_true rfl, Nat.le_of_ble_eq_true rfl, rfl⟩ ?_
      refine cl_run (h0 := g8) (by omega) (J_rf hJ8.1) I0 ⟨by omega, by omega, by omega⟩ (fun g9 A9 I9 p9 u9 x9 => ?_) (fun g50009 A50009 => ?_) rfl
      · have hJ9 := J_up wqm hJ8 A9
        show t_X d 213 45 lv [oI (1)] g9 P
        refine t_2 qlw_45 rfl (w := (px_s1 lv 2 (oI (1)), [])) rfl ?_
        replace l0 : px_lg (px_s1 lv 2 (oI (1))) 0 = some (pvR 196) := s1_ne (by decide) (fun _ => rfl) l0
        replace l1 : px_lg (px_s1 lv 2 (oI (1))) 1 = some (oI (n)) := s1_ne (by decide) (fun _ => rfl) l1
        have l2 : px_lg (px_s1 lv 2 (oI (1))) 2 = some (oI (1)) := s1_eq
        generalize px_s1 lv 2 (oI (1)) = lv10 at l0 l1 l2 ⊢
        show t_X d 213 46 lv10 [] g9 P
        exact lw_m (by omega) hx (N := n) (by omega) hP 241 _ _ (by omega) (by omega) I9 hJ9 l0 l2
      · have hJ50009 := J_up wqm hJ8 A50009
        show t_X d 213 45 lv [oI (0)] g50009 P
        refine t_2 qlw_45 rfl (w := (px_s1 lv 2 (oI (0)), [])) rfl ?_
        replace l0 : px_lg (px_s1 lv 2 (oI (0))) 0 = some (pvR 196) := s1_ne (by decide) (fun _ => rfl) l0
        replace l1 : px_lg (px_s1 lv 2 (oI (0))) 1 = some (oI (n)) := s1_ne (by decide) (fun _ => rfl) l1
        have l2 : px_lg (px_s1 lv 2 (oI (0))) 2 = some (oI (0)) := s1_eq
        generalize px_s1 lv 2 (oI (0)) = lv11 at l0 l1 l2 ⊢
        show t_X d 213 46 lv11 [] g50009 P
        exact lw_z hx hP hJ50009 l0 l2
    · show t_X d 213 19 lv [] g P
      refine t_0 qlw_19 rfl rfl ?_
      refine t_5 qlw_20 rfl rfl ?_
      exact hP _ _ (J_wide wml hJ0) (xL_K _ _ _ hJ0.2 wmx hx)
  · show t_X d 213 8 lv [oI (0)] g P
    refine tz_eq qlw_8 (by decide) ⟨by omega, by omega⟩ (fun c12 => ?_) (fun c12 => absurd c12 (by omega))
    show t_X d 213 19 lv [] g P
    refine t_0 qlw_19 rfl rfl ?_
    refine t_5 qlw_20 rfl rfl ?_
    exact hP _ _ (J_wide wml hJ0) (xL_K _ _ _ hJ0.2 wmx hx)
