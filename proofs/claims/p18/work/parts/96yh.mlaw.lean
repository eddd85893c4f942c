/-! reference: the law's text: sums, comparisons, conditions by continuations (printed by wip/e2/v7.py) -/
theorem jcm_0 : xe_look (xc 234) 0 = some (.aload_n 0, 1, 0, 0, 0) := by decide +kernel
theorem jcm_1 : xe_look (xc 234) 1 = some (.invokevirtual 335, 3, 0, 241, 1255) := by decide +kernel
theorem jcm_4 : xe_look (xc 234) 4 = some (.ifCond .ne 5, 3, 0, 0, 0) := by decide +kernel
theorem jcm_7 : xe_look (xc 234) 7 = some (.iconst 0, 1, 0, 0, 0) := by decide +kernel
theorem jcm_8 : xe_look (xc 234) 8 = some (.ireturn, 1, 0, 0, 0) := by decide +kernel
theorem jcm_9 : xe_look (xc 234) 9 = some (.aload_n 0, 1, 0, 0, 0) := by decide +kernel
theorem jcm_10 : xe_look (xc 234) 10 = some (.invokevirtual 252, 3, 0, 198, 1137) := by decide +kernel
theorem jcm_13 : xe_look (xc 234) 13 = some (.bipush 60, 2, 0, 0, 0) := by decide +kernel
theorem jcm_15 : xe_look (xc 234) 15 = some (.if_icmp .ne 8, 3, 0, 0, 0) := by decide +kernel
theorem jcm_18 : xe_look (xc 234) 18 = some (.bipush 7, 2, 0, 0, 0) := by decide +kernel
theorem jcm_20 : xe_look (xc 234) 20 = some (.goto 32, 3, 0, 0, 0) := by decide +kernel
theorem jcm_23 : xe_look (xc 234) 23 = some (.aload_n 0, 1, 0, 0, 0) := by decide +kernel
theorem jcm_24 : xe_look (xc 234) 24 = some (.invokevirtual 252, 3, 0, 198, 1137) := by decide +kernel
theorem jcm_27 : xe_look (xc 234) 27 = some (.bipush 62, 2, 0, 0, 0) := by decide +kernel
theorem jcm_29 : xe_look (xc 234) 29 = some (.if_icmp .ne 8, 3, 0, 0, 0) := by decide +kernel
theorem jcm_32 : xe_look (xc 234) 32 = some (.bipush 8, 2, 0, 0, 0) := by decide +kernel
theorem jcm_34 : xe_look (xc 234) 34 = some (.goto 18, 3, 0, 0, 0) := by decide +kernel
theorem jcm_37 : xe_look (xc 234) 37 = some (.aload_n 0, 1, 0, 0, 0) := by decide +kernel
theorem jcm_38 : xe_look (xc 234) 38 = some (.invokevirtual 252, 3, 0, 198, 1137) := by decide +kernel
theorem jcm_41 : xe_look (xc 234) 41 = some (.bipush 61, 2, 0, 0, 0) := by decide +kernel
theorem jcm_43 : xe_look (xc 234) 43 = some (.if_icmp .ne 8, 3, 0, 0, 0) := by decide +kernel
theorem jcm_46 : xe_look (xc 234) 46 = some (.bipush 9, 2, 0, 0, 0) := by decide +kernel
theorem jcm_48 : xe_look (xc 234) 48 = some (.goto 4, 3, 0, 0, 0) := by decide +kernel
theorem jcm_51 : xe_look (xc 234) 51 = some (.iconst (-1), 1, 0, 0, 0) := by decide +kernel
theorem jcm_52 : xe_look (xc 234) 52 = some (.istore_n 1, 1, 0, 0, 0) := by decide +kernel
theorem jcm_53 : xe_look (xc 234) 53 = some (.iload_n 1, 1, 0, 0, 0) := by decide +kernel
theorem jcm_54 : xe_look (xc 234) 54 = some (.iconst (-1), 1, 0, 0, 0) := by decide +kernel
theorem jcm_55 : xe_look (xc 234) 55 = some (.if_icmp .ne 13, 3, 0, 0, 0) := by decide +kernel
theorem jcm_58 : xe_look (xc 234) 58 = some (.aload_n 0, 1, 0, 0, 0) := by decide +kernel
theorem jcm_59 : xe_look (xc 234) 59 = some (.iconst 1, 1, 0, 0, 0) := by decide +kernel
theorem jcm_60 : xe_look (xc 234) 60 = some (.aload_n 0, 1, 0, 0, 0) := by decide +kernel
theorem jcm_61 : xe_look (xc 234) 61 = some (.getfield 242, 3, 12, 18, 1135) := by decide +kernel
theorem jcm_64 : xe_look (xc 234) 64 = some (.invokevirtual 256, 3, 0, 274, 1138) := by decide +kernel
theorem jcm_67 : xe_look (xc 234) 67 = some (.ireturn, 1, 0, 0, 0) := by decide +kernel
theorem jcm_68 : xe_look (xc 234) 68 = some (.aload_n 0, 1, 0, 0, 0) := by decide +kernel
theorem jcm_69 : xe_look (xc 234) 69 = some (.aload_n 0, 1, 0, 0, 0) := by decide +kernel
theorem jcm_70 : xe_look (xc 234) 70 = some (.getfield 242, 3, 12, 18, 1135) := by decide +kernel
theorem jcm_73 : xe_look (xc 234) 73 = some (.iconst 1, 1, 0, 0, 0) := by decide +kernel
theorem jcm_74 : xe_look (xc 234) 74 = some (.iadd, 1, 0, 0, 0) := by decide +kernel
theorem jcm_75 : xe_look (xc 234) 75 = some (.putfield 242, 3, 12, 18, 1135) := by decide +kernel
theorem jcm_78 : xe_look (xc 234) 78 = some (.aload_n 0, 1, 0, 0, 0) := by decide +kernel
theorem jcm_79 : xe_look (xc 234) 79 = some (.invokevirtual 335, 3, 0, 241, 1255) := by decide +kernel
theorem jcm_82 : xe_look (xc 234) 82 = some (.ifCond .ne 5, 3, 0, 0, 0) := by decide +kernel
theorem jcm_85 : xe_look (xc 234) 85 = some (.iconst 0, 1, 0, 0, 0) := by decide +kernel
theorem jcm_86 : xe_look (xc 234) 86 = some (.ireturn, 1, 0, 0, 0) := by decide +kernel
theorem jcm_87 : xe_look (xc 234) 87 = some (.aload_n 0, 1, 0, 0, 0) := by decide +kernel
theorem jcm_88 : xe_look (xc 234) 88 = some (.iload_n 1, 1, 0, 0, 0) := by decide +kernel
theorem jcm_89 : xe_look (xc 234) 89 = some (.iconst 0, 1, 0, 0, 0) := by decide +kernel
theorem jcm_90 : xe_look (xc 234) 90 = some (.invokevirtual 309, 3, 0, 223, 1145) := by decide +kernel
theorem jcm_93 : xe_look (xc 234) 93 = some (.aload_n 0, 1, 0, 0, 0) := by decide +kernel
theorem jcm_94 : xe_look (xc 234) 94 = some (.invokevirtual 338, 3, 0, 186, 1257) := by decide +kernel
theorem jcm_97 : xe_look (xc 234) 97 = some (.iconst 1, 1, 0, 0, 0) := by decide +kernel
theorem jcm_98 : xe_look (xc 234) 98 = some (.ireturn, 1, 0, 0, 0) := by decide +kernel
theorem jen_0 : xe_look (xc 186) 0 = some (.aload_n 0, 1, 0, 0, 0) := by decide +kernel
theorem jen_1 : xe_look (xc 186) 1 = some (.invokevirtual 306, 3, 0, 272, 1144) := by decide +kernel
theorem jen_4 : xe_look (xc 186) 4 = some (.bipush 10, 2, 0, 0, 0) := by decide +kernel
theorem jen_6 : xe_look (xc 186) 6 = some (.if_icmp .ne 33, 3, 0, 0, 0) := by decide +kernel
theorem jen_9 : xe_look (xc 186) 9 = some (.aload_n 0, 1, 0, 0, 0) := by decide +kernel
theorem jen_10 : xe_look (xc 186) 10 = some (.bipush 10, 2, 0, 0, 0) := by decide +kernel
theorem jen_12 : xe_look (xc 186) 12 = some (.iconst 0, 1, 0, 0, 0) := by decide +kernel
theorem jen_13 : xe_look (xc 186) 13 = some (.invokevirtual 309, 3, 0, 223, 1145) := by decide +kernel
theorem jen_16 : xe_look (xc 186) 16 = some (.aload_n 0, 1, 0, 0, 0) := by decide +kernel
theorem jen_17 : xe_look (xc 186) 17 = some (.aload_n 0, 1, 0, 0, 0) := by decide +kernel
theorem jen_18 : xe_look (xc 186) 18 = some (.getfield 303, 3, 12, 33, 1146) := by decide +kernel
theorem jen_21 : xe_look (xc 186) 21 = some (.iconst 1, 1, 0, 0, 0) := by decide +kernel
theorem jen_22 : xe_look (xc 186) 22 = some (.isub, 1, 0, 0, 0) := by decide +kernel
theorem jen_23 : xe_look (xc 186) 23 = some (.putfield 303, 3, 12, 33, 1146) := by decide +kernel
theorem jen_26 : xe_look (xc 186) 26 = some (.aload_n 0, 1, 0, 0, 0) := by decide +kernel
theorem jen_27 : xe_look (xc 186) 27 = some (.aload_n 0, 1, 0, 0, 0) := by decide +kernel
theorem jen_28 : xe_look (xc 186) 28 = some (.getfield 300, 3, 12, 31, 1170) := by decide +kernel
theorem jen_31 : xe_look (xc 186) 31 = some (.iconst 1, 1, 0, 0, 0) := by decide +kernel
theorem jen_32 : xe_look (xc 186) 32 = some (.isub, 1, 0, 0, 0) := by decide +kernel
theorem jen_33 : xe_look (xc 186) 33 = some (.putfield 300, 3, 12, 31, 1170) := by decide +kernel
theorem jen_36 : xe_look (xc 186) 36 = some (.goto (-36), 3, 0, 0, 0) := by decide +kernel
theorem jen_39 : xe_look (xc 186) 39 = some (.return_, 1, 0, 0, 0) := by decide +kernel
theorem jla_0 : xe_look (xc 212) 0 = some (.aload_n 0, 1, 0, 0, 0) := by decide +kernel
theorem jla_1 : xe_look (xc 212) 1 = some (.invokevirtual 306, 3, 0, 272, 1144) := by decide +kernel
theorem jla_4 : xe_look (xc 212) 4 = some (.bipush 11, 2, 0, 0, 0) := by decide +kernel
theorem jla_6 : xe_look (xc 212) 6 = some (.if_icmp .eq 16, 3, 0, 0, 0) := by decide +kernel
theorem jla_9 : xe_look (xc 212) 9 = some (.iload_n 1, 1, 0, 0, 0) := by decide +kernel
theorem jla_10 : xe_look (xc 212) 10 = some (.ifCond .eq 66, 3, 0, 0, 0) := by decide +kernel
theorem jla_13 : xe_look (xc 212) 13 = some (.aload_n 0, 1, 0, 0, 0) := by decide +kernel
theorem jla_14 : xe_look (xc 212) 14 = some (.invokevirtual 306, 3, 0, 272, 1144) := by decide +kernel
theorem jla_17 : xe_look (xc 212) 17 = some (.bipush 12, 2, 0, 0, 0) := by decide +kernel
theorem jla_19 : xe_look (xc 212) 19 = some (.if_icmp .ne 57, 3, 0, 0, 0) := by decide +kernel
theorem jla_22 : xe_look (xc 212) 22 = some (.aload_n 0, 1, 0, 0, 0) := by decide +kernel
theorem jla_23 : xe_look (xc 212) 23 = some (.getfield 71, 3, 12, 37, 1189) := by decide +kernel
theorem jla_26 : xe_look (xc 212) 26 = some (.aload_n 0, 1, 0, 0, 0) := by decide +kernel
theorem jla_27 : xe_look (xc 212) 27 = some (.getfield 303, 3, 12, 33, 1146) := by decide +kernel
theorem jla_30 : xe_look (xc 212) 30 = some (.iconst 1, 1, 0, 0, 0) := by decide +kernel
theorem jla_31 : xe_look (xc 212) 31 = some (.isub, 1, 0, 0, 0) := by decide +kernel
theorem jla_32 : xe_look (xc 212) 32 = some (.iaload, 1, 0, 0, 0) := by decide +kernel
theorem jla_33 : xe_look (xc 212) 33 = some (.ldc_w 299, 3, 0, 2148532224, 1151) := by decide +kernel
theorem jla_36 : xe_look (xc 212) 36 = some (.irem, 1, 0, 0, 0) := by decide +kernel
theorem jla_37 : xe_look (xc 212) 37 = some (.istore_n 2, 1, 0, 0, 0) := by decide +kernel
theorem jla_38 : xe_look (xc 212) 38 = some (.aload_n 0, 1, 0, 0, 0) := by decide +kernel
theorem jla_39 : xe_look (xc 212) 39 = some (.getfield 68, 3, 12, 36, 1194) := by decide +kernel
theorem jla_42 : xe_look (xc 212) 42 = some (.iload_n 2, 1, 0, 0, 0) := by decide +kernel
theorem jla_43 : xe_look (xc 212) 43 = some (.ldc_w 299, 3, 0, 2148532224, 1151) := by decide +kernel
theorem jla_46 : xe_look (xc 212) 46 = some (.aload_n 0, 1, 0, 0, 0) := by decide +kernel
theorem jla_47 : xe_look (xc 212) 47 = some (.getfield 68, 3, 12, 36, 1194) := by decide +kernel
theorem jla_50 : xe_look (xc 212) 50 = some (.iload_n 2, 1, 0, 0, 0) := by decide +kernel
theorem jla_51 : xe_look (xc 212) 51 = some (.iaload, 1, 0, 0, 0) := by decide +kernel
theorem jla_52 : xe_look (xc 212) 52 = some (.ldc_w 299, 3, 0, 2148532224, 1151) := by decide +kernel
theorem jla_55 : xe_look (xc 212) 55 = some (.idiv, 1, 0, 0, 0) := by decide +kernel
theorem jla_56 : xe_look (xc 212) 56 = some (.imul, 1, 0, 0, 0) := by decide +kernel
theorem jla_57 : xe_look (xc 212) 57 = some (.aload_n 0, 1, 0, 0, 0) := by decide +kernel
theorem jla_58 : xe_look (xc 212) 58 = some (.getfield 296, 3, 12, 32, 1222) := by decide +kernel
theorem jla_61 : xe_look (xc 212) 61 = some (.iadd, 1, 0, 0, 0) := by decide +kernel
theorem jla_62 : xe_look (xc 212) 62 = some (.iastore, 1, 0, 0, 0) := by decide +kernel
theorem jla_63 : xe_look (xc 212) 63 = some (.aload_n 0, 1, 0, 0, 0) := by decide +kernel
theorem jla_64 : xe_look (xc 212) 64 = some (.aload_n 0, 1, 0, 0, 0) := by decide +kernel
theorem jla_65 : xe_look (xc 212) 65 = some (.getfield 303, 3, 12, 33, 1146) := by decide +kernel
theorem jla_68 : xe_look (xc 212) 68 = some (.iconst 1, 1, 0, 0, 0) := by decide +kernel
theorem jla_69 : xe_look (xc 212) 69 = some (.isub, 1, 0, 0, 0) := by decide +kernel
theorem jla_70 : xe_look (xc 212) 70 = some (.putfield 303, 3, 12, 33, 1146) := by decide +kernel
theorem jla_73 : xe_look (xc 212) 73 = some (.goto (-73), 3, 0, 0, 0) := by decide +kernel
theorem jla_76 : xe_look (xc 212) 76 = some (.return_, 1, 0, 0, 0) := by decide +kernel
theorem jrc_40 : xe_look (xc 235) 40 = some (.aload_n 0, 1, 0, 0, 0) := by decide +kernel
theorem jrc_41 : xe_look (xc 235) 41 = some (.invokevirtual 252, 3, 0, 198, 1137) := by decide +kernel
theorem jrc_44 : xe_look (xc 235) 44 = some (.bipush 33, 2, 0, 0, 0) := by decide +kernel
theorem jrc_46 : xe_look (xc 235) 46 = some (.if_icmp .eq 12, 3, 0, 0, 0) := by decide +kernel
theorem jrc_49 : xe_look (xc 235) 49 = some (.aload_n 0, 1, 0, 0, 0) := by decide +kernel
theorem jrc_50 : xe_look (xc 235) 50 = some (.invokevirtual 252, 3, 0, 198, 1137) := by decide +kernel
theorem jrc_53 : xe_look (xc 235) 53 = some (.bipush 40, 2, 0, 0, 0) := by decide +kernel
theorem jrc_55 : xe_look (xc 235) 55 = some (.if_icmp .ne 28, 3, 0, 0, 0) := by decide +kernel
theorem jrc_58 : xe_look (xc 235) 58 = some (.aload_n 0, 1, 0, 0, 0) := by decide +kernel
theorem jrc_59 : xe_look (xc 235) 59 = some (.aload_n 0, 1, 0, 0, 0) := by decide +kernel
theorem jrc_60 : xe_look (xc 235) 60 = some (.invokevirtual 252, 3, 0, 198, 1137) := by decide +kernel
theorem jrc_63 : xe_look (xc 235) 63 = some (.bipush 33, 2, 0, 0, 0) := by decide +kernel
theorem jrc_65 : xe_look (xc 235) 65 = some (.if_icmp .ne 8, 3, 0, 0, 0) := by decide +kernel
theorem jrc_68 : xe_look (xc 235) 68 = some (.bipush 10, 2, 0, 0, 0) := by decide +kernel
theorem jrc_70 : xe_look (xc 235) 70 = some (.goto 5, 3, 0, 0, 0) := by decide +kernel
theorem jrc_73 : xe_look (xc 235) 73 = some (.bipush 13, 2, 0, 0, 0) := by decide +kernel
theorem jrc_75 : xe_look (xc 235) 75 = some (.invokevirtual 313, 3, 0, 229, 1258) := by decide +kernel
theorem jrc_78 : xe_look (xc 235) 78 = some (.ifCond .ne (-38), 3, 0, 0, 0) := by decide +kernel
theorem jrc_81 : xe_look (xc 235) 81 = some (.iconst 0, 1, 0, 0, 0) := by decide +kernel
theorem jrc_82 : xe_look (xc 235) 82 = some (.ireturn, 1, 0, 0, 0) := by decide +kernel
theorem jrc_83 : xe_look (xc 235) 83 = some (.aload_n 0, 1, 0, 0, 0) := by decide +kernel
theorem jrc_84 : xe_look (xc 235) 84 = some (.invokevirtual 341, 3, 0, 234, 1259) := by decide +kernel
theorem jrc_87 : xe_look (xc 235) 87 = some (.ifCond .ne 5, 3, 0, 0, 0) := by decide +kernel
theorem jrc_90 : xe_look (xc 235) 90 = some (.iconst 0, 1, 0, 0, 0) := by decide +kernel
theorem jrc_91 : xe_look (xc 235) 91 = some (.ireturn, 1, 0, 0, 0) := by decide +kernel
theorem jrc_92 : xe_look (xc 235) 92 = some (.aload_n 0, 1, 0, 0, 0) := by decide +kernel
theorem jrc_93 : xe_look (xc 235) 93 = some (.invokevirtual 252, 3, 0, 198, 1137) := by decide +kernel
theorem jrc_96 : xe_look (xc 235) 96 = some (.bipush 41, 2, 0, 0, 0) := by decide +kernel
theorem jrc_98 : xe_look (xc 235) 98 = some (.if_icmp .ne 54, 3, 0, 0, 0) := by decide +kernel
theorem jrc_101 : xe_look (xc 235) 101 = some (.aload_n 0, 1, 0, 0, 0) := by decide +kernel
theorem jrc_102 : xe_look (xc 235) 102 = some (.iconst 1, 1, 0, 0, 0) := by decide +kernel
theorem jrc_103 : xe_look (xc 235) 103 = some (.invokevirtual 344, 3, 0, 212, 1260) := by decide +kernel
theorem jrc_106 : xe_look (xc 235) 106 = some (.aload_n 0, 1, 0, 0, 0) := by decide +kernel
theorem jrc_107 : xe_look (xc 235) 107 = some (.aload_n 0, 1, 0, 0, 0) := by decide +kernel
theorem jrc_108 : xe_look (xc 235) 108 = some (.getfield 303, 3, 12, 33, 1146) := by decide +kernel
theorem jrc_111 : xe_look (xc 235) 111 = some (.iconst 1, 1, 0, 0, 0) := by decide +kernel
theorem jrc_112 : xe_look (xc 235) 112 = some (.isub, 1, 0, 0, 0) := by decide +kernel
theorem jrc_113 : xe_look (xc 235) 113 = some (.putfield 303, 3, 12, 33, 1146) := by decide +kernel
theorem jrc_116 : xe_look (xc 235) 116 = some (.aload_n 0, 1, 0, 0, 0) := by decide +kernel
theorem jrc_117 : xe_look (xc 235) 117 = some (.aload_n 0, 1, 0, 0, 0) := by decide +kernel
theorem jrc_118 : xe_look (xc 235) 118 = some (.getfield 300, 3, 12, 31, 1170) := by decide +kernel
theorem jrc_121 : xe_look (xc 235) 121 = some (.iconst 1, 1, 0, 0, 0) := by decide +kernel
theorem jrc_122 : xe_look (xc 235) 122 = some (.isub, 1, 0, 0, 0) := by decide +kernel
theorem jrc_123 : xe_look (xc 235) 123 = some (.putfield 300, 3, 12, 31, 1170) := by decide +kernel
theorem jrc_126 : xe_look (xc 235) 126 = some (.aload_n 0, 1, 0, 0, 0) := by decide +kernel
theorem jrc_127 : xe_look (xc 235) 127 = some (.aload_n 0, 1, 0, 0, 0) := by decide +kernel
theorem jrc_128 : xe_look (xc 235) 128 = some (.getfield 242, 3, 12, 18, 1135) := by decide +kernel
theorem jrc_131 : xe_look (xc 235) 131 = some (.iconst 1, 1, 0, 0, 0) := by decide +kernel
theorem jrc_132 : xe_look (xc 235) 132 = some (.iadd, 1, 0, 0, 0) := by decide +kernel
theorem jrc_133 : xe_look (xc 235) 133 = some (.putfield 242, 3, 12, 18, 1135) := by decide +kernel
theorem jrc_136 : xe_look (xc 235) 136 = some (.aload_n 0, 1, 0, 0, 0) := by decide +kernel
theorem jrc_137 : xe_look (xc 235) 137 = some (.getfield 303, 3, 12, 33, 1146) := by decide +kernel
theorem jrc_140 : xe_look (xc 235) 140 = some (.ifCond .ne 5, 3, 0, 0, 0) := by decide +kernel
theorem jrc_143 : xe_look (xc 235) 143 = some (.iconst 1, 1, 0, 0, 0) := by decide +kernel
theorem jrc_144 : xe_look (xc 235) 144 = some (.ireturn, 1, 0, 0, 0) := by decide +kernel
theorem jrc_145 : xe_look (xc 235) 145 = some (.aload_n 0, 1, 0, 0, 0) := by decide +kernel
theorem jrc_146 : xe_look (xc 235) 146 = some (.invokevirtual 338, 3, 0, 186, 1257) := by decide +kernel
theorem jrc_149 : xe_look (xc 235) 149 = some (.goto (-57), 3, 0, 0, 0) := by decide +kernel
theorem jrc_152 : xe_look (xc 235) 152 = some (.aload_n 0, 1, 0, 0, 0) := by decide +kernel
theorem jrc_153 : xe_look (xc 235) 153 = some (.invokevirtual 252, 3, 0, 198, 1137) := by decide +kernel
theorem jrc_156 : xe_look (xc 235) 156 = some (.bipush 38, 2, 0, 0, 0) := by decide +kernel
theorem jrc_158 : xe_look (xc 235) 158 = some (.if_icmp .eq 22, 3, 0, 0, 0) := by decide +kernel
theorem jrc_161 : xe_look (xc 235) 161 = some (.aload_n 0, 1, 0, 0, 0) := by decide +kernel
theorem jrc_162 : xe_look (xc 235) 162 = some (.invokevirtual 252, 3, 0, 198, 1137) := by decide +kernel
theorem jrc_165 : xe_look (xc 235) 165 = some (.bipush 124, 2, 0, 0, 0) := by decide +kernel
theorem jrc_167 : xe_look (xc 235) 167 = some (.if_icmp .eq 13, 3, 0, 0, 0) := by decide +kernel
theorem jrc_170 : xe_look (xc 235) 170 = some (.aload_n 0, 1, 0, 0, 0) := by decide +kernel
theorem jrc_171 : xe_look (xc 235) 171 = some (.iconst 1, 1, 0, 0, 0) := by decide +kernel
theorem jrc_172 : xe_look (xc 235) 172 = some (.aload_n 0, 1, 0, 0, 0) := by decide +kernel
theorem jrc_173 : xe_look (xc 235) 173 = some (.getfield 242, 3, 12, 18, 1135) := by decide +kernel
theorem jrc_176 : xe_look (xc 235) 176 = some (.invokevirtual 256, 3, 0, 274, 1138) := by decide +kernel
theorem jrc_179 : xe_look (xc 235) 179 = some (.ireturn, 1, 0, 0, 0) := by decide +kernel
theorem jrc_180 : xe_look (xc 235) 180 = some (.aload_n 0, 1, 0, 0, 0) := by decide +kernel
theorem jrc_181 : xe_look (xc 235) 181 = some (.aload_n 0, 1, 0, 0, 0) := by decide +kernel
theorem jrc_182 : xe_look (xc 235) 182 = some (.invokevirtual 252, 3, 0, 198, 1137) := by decide +kernel
theorem jrc_185 : xe_look (xc 235) 185 = some (.bipush 124, 2, 0, 0, 0) := by decide +kernel
theorem jrc_187 : xe_look (xc 235) 187 = some (.if_icmp .ne 7, 3, 0, 0, 0) := by decide +kernel
theorem jrc_190 : xe_look (xc 235) 190 = some (.iconst 1, 1, 0, 0, 0) := by decide +kernel
theorem jrc_191 : xe_look (xc 235) 191 = some (.goto 4, 3, 0, 0, 0) := by decide +kernel
theorem jrc_194 : xe_look (xc 235) 194 = some (.iconst 0, 1, 0, 0, 0) := by decide +kernel
theorem jrc_195 : xe_look (xc 235) 195 = some (.invokevirtual 344, 3, 0, 212, 1260) := by decide +kernel
theorem jrc_198 : xe_look (xc 235) 198 = some (.aload_n 0, 1, 0, 0, 0) := by decide +kernel
theorem jrc_199 : xe_look (xc 235) 199 = some (.aload_n 0, 1, 0, 0, 0) := by decide +kernel
theorem jrc_200 : xe_look (xc 235) 200 = some (.invokevirtual 252, 3, 0, 198, 1137) := by decide +kernel
theorem jrc_203 : xe_look (xc 235) 203 = some (.bipush 38, 2, 0, 0, 0) := by decide +kernel
theorem jrc_205 : xe_look (xc 235) 205 = some (.if_icmp .ne 8, 3, 0, 0, 0) := by decide +kernel
theorem jrc_208 : xe_look (xc 235) 208 = some (.bipush 11, 2, 0, 0, 0) := by decide +kernel
theorem jrc_210 : xe_look (xc 235) 210 = some (.goto 5, 3, 0, 0, 0) := by decide +kernel
theorem jrc_213 : xe_look (xc 235) 213 = some (.bipush 12, 2, 0, 0, 0) := by decide +kernel
theorem jrc_215 : xe_look (xc 235) 215 = some (.invokevirtual 347, 3, 0, 208, 1261) := by decide +kernel
theorem jrc_218 : xe_look (xc 235) 218 = some (.goto (-178), 3, 0, 0, 0) := by decide +kernel
theorem jsu_0 : xe_look (xc 241) 0 = some (.aload_n 0, 1, 0, 0, 0) := by decide +kernel
theorem jsu_1 : xe_look (xc 241) 1 = some (.getfield 303, 3, 12, 33, 1146) := by decide +kernel
theorem jsu_4 : xe_look (xc 241) 4 = some (.istore_n 1, 1, 0, 0, 0) := by decide +kernel
theorem jsu_5 : xe_look (xc 241) 5 = some (.aload_n 0, 1, 0, 0, 0) := by decide +kernel
theorem jsu_6 : xe_look (xc 241) 6 = some (.invokevirtual 322, 3, 0, 236, 1269) := by decide +kernel
theorem jsu_9 : xe_look (xc 241) 9 = some (.ifCond .ne 5, 3, 0, 0, 0) := by decide +kernel
theorem jsu_12 : xe_look (xc 241) 12 = some (.iconst 0, 1, 0, 0, 0) := by decide +kernel
theorem jsu_13 : xe_look (xc 241) 13 = some (.ireturn, 1, 0, 0, 0) := by decide +kernel
theorem jsu_14 : xe_look (xc 241) 14 = some (.aload_n 0, 1, 0, 0, 0) := by decide +kernel
theorem jsu_15 : xe_look (xc 241) 15 = some (.invokevirtual 252, 3, 0, 198, 1137) := by decide +kernel
theorem jsu_18 : xe_look (xc 241) 18 = some (.invokestatic 325, 3, 0, 256, 1270) := by decide +kernel
theorem jsu_21 : xe_look (xc 241) 21 = some (.istore_n 2, 1, 0, 0, 0) := by decide +kernel
theorem jsu_22 : xe_look (xc 241) 22 = some (.iload_n 2, 1, 0, 0, 0) := by decide +kernel
theorem jsu_23 : xe_look (xc 241) 23 = some (.iconst (-1), 1, 0, 0, 0) := by decide +kernel
theorem jsu_24 : xe_look (xc 241) 24 = some (.if_icmp .eq 60, 3, 0, 0, 0) := by decide +kernel
theorem jsu_27 : xe_look (xc 241) 27 = some (.aload_n 0, 1, 0, 0, 0) := by decide +kernel
theorem jsu_28 : xe_look (xc 241) 28 = some (.iload_n 2, 1, 0, 0, 0) := by decide +kernel
theorem jsu_29 : xe_look (xc 241) 29 = some (.iconst 4, 1, 0, 0, 0) := by decide +kernel
theorem jsu_30 : xe_look (xc 241) 30 = some (.if_icmp .ge 7, 3, 0, 0, 0) := by decide +kernel
theorem jsu_33 : xe_look (xc 241) 33 = some (.iconst 1, 1, 0, 0, 0) := by decide +kernel
theorem jsu_34 : xe_look (xc 241) 34 = some (.goto 4, 3, 0, 0, 0) := by decide +kernel
theorem jsu_37 : xe_look (xc 241) 37 = some (.iconst 0, 1, 0, 0, 0) := by decide +kernel
theorem jsu_38 : xe_look (xc 241) 38 = some (.invokevirtual 328, 3, 0, 176, 1271) := by decide +kernel
theorem jsu_41 : xe_look (xc 241) 41 = some (.aload_n 0, 1, 0, 0, 0) := by decide +kernel
theorem jsu_42 : xe_look (xc 241) 42 = some (.getfield 71, 3, 12, 37, 1189) := by decide +kernel
theorem jsu_45 : xe_look (xc 241) 45 = some (.aload_n 0, 1, 0, 0, 0) := by decide +kernel
theorem jsu_46 : xe_look (xc 241) 46 = some (.getfield 303, 3, 12, 33, 1146) := by decide +kernel
theorem jsu_49 : xe_look (xc 241) 49 = some (.ldc_w 299, 3, 0, 2148532224, 1151) := by decide +kernel
theorem jsu_52 : xe_look (xc 241) 52 = some (.iload_n 2, 1, 0, 0, 0) := by decide +kernel
theorem jsu_53 : xe_look (xc 241) 53 = some (.imul, 1, 0, 0, 0) := by decide +kernel
theorem jsu_54 : xe_look (xc 241) 54 = some (.iastore, 1, 0, 0, 0) := by decide +kernel
theorem jsu_55 : xe_look (xc 241) 55 = some (.aload_n 0, 1, 0, 0, 0) := by decide +kernel
theorem jsu_56 : xe_look (xc 241) 56 = some (.aload_n 0, 1, 0, 0, 0) := by decide +kernel
theorem jsu_57 : xe_look (xc 241) 57 = some (.getfield 303, 3, 12, 33, 1146) := by decide +kernel
theorem jsu_60 : xe_look (xc 241) 60 = some (.iconst 1, 1, 0, 0, 0) := by decide +kernel
theorem jsu_61 : xe_look (xc 241) 61 = some (.iadd, 1, 0, 0, 0) := by decide +kernel
theorem jsu_62 : xe_look (xc 241) 62 = some (.putfield 303, 3, 12, 33, 1146) := by decide +kernel
theorem jsu_65 : xe_look (xc 241) 65 = some (.aload_n 0, 1, 0, 0, 0) := by decide +kernel
theorem jsu_66 : xe_look (xc 241) 66 = some (.aload_n 0, 1, 0, 0, 0) := by decide +kernel
theorem jsu_67 : xe_look (xc 241) 67 = some (.getfield 242, 3, 12, 18, 1135) := by decide +kernel
theorem jsu_70 : xe_look (xc 241) 70 = some (.iconst 1, 1, 0, 0, 0) := by decide +kernel
theorem jsu_71 : xe_look (xc 241) 71 = some (.iadd, 1, 0, 0, 0) := by decide +kernel
theorem jsu_72 : xe_look (xc 241) 72 = some (.putfield 242, 3, 12, 18, 1135) := by decide +kernel
theorem jsu_75 : xe_look (xc 241) 75 = some (.aload_n 0, 1, 0, 0, 0) := by decide +kernel
theorem jsu_76 : xe_look (xc 241) 76 = some (.invokevirtual 322, 3, 0, 236, 1269) := by decide +kernel
theorem jsu_79 : xe_look (xc 241) 79 = some (.ifCond .ne 85, 3, 0, 0, 0) := by decide +kernel
theorem jsu_82 : xe_look (xc 241) 82 = some (.iconst 0, 1, 0, 0, 0) := by decide +kernel
theorem jsu_83 : xe_look (xc 241) 83 = some (.ireturn, 1, 0, 0, 0) := by decide +kernel
theorem jsu_84 : xe_look (xc 241) 84 = some (.aload_n 0, 1, 0, 0, 0) := by decide +kernel
theorem jsu_85 : xe_look (xc 241) 85 = some (.invokevirtual 252, 3, 0, 198, 1137) := by decide +kernel
theorem jsu_88 : xe_look (xc 241) 88 = some (.bipush 93, 2, 0, 0, 0) := by decide +kernel
theorem jsu_90 : xe_look (xc 241) 90 = some (.if_icmp .ne 49, 3, 0, 0, 0) := by decide +kernel
theorem jsu_93 : xe_look (xc 241) 93 = some (.aload_n 0, 1, 0, 0, 0) := by decide +kernel
theorem jsu_94 : xe_look (xc 241) 94 = some (.iload_n 1, 1, 0, 0, 0) := by decide +kernel
theorem jsu_95 : xe_look (xc 241) 95 = some (.invokevirtual 332, 3, 0, 197, 1272) := by decide +kernel
theorem jsu_98 : xe_look (xc 241) 98 = some (.ifCond .eq 41, 3, 0, 0, 0) := by decide +kernel
theorem jsu_101 : xe_look (xc 241) 101 = some (.aload_n 0, 1, 0, 0, 0) := by decide +kernel
theorem jsu_102 : xe_look (xc 241) 102 = some (.iconst 1, 1, 0, 0, 0) := by decide +kernel
theorem jsu_103 : xe_look (xc 241) 103 = some (.invokevirtual 328, 3, 0, 176, 1271) := by decide +kernel
theorem jsu_106 : xe_look (xc 241) 106 = some (.aload_n 0, 1, 0, 0, 0) := by decide +kernel
theorem jsu_107 : xe_look (xc 241) 107 = some (.aload_n 0, 1, 0, 0, 0) := by decide +kernel
theorem jsu_108 : xe_look (xc 241) 108 = some (.getfield 303, 3, 12, 33, 1146) := by decide +kernel
theorem jsu_111 : xe_look (xc 241) 111 = some (.iconst 1, 1, 0, 0, 0) := by decide +kernel
theorem jsu_112 : xe_look (xc 241) 112 = some (.isub, 1, 0, 0, 0) := by decide +kernel
theorem jsu_113 : xe_look (xc 241) 113 = some (.putfield 303, 3, 12, 33, 1146) := by decide +kernel
theorem jsu_116 : xe_look (xc 241) 116 = some (.aload_n 0, 1, 0, 0, 0) := by decide +kernel
theorem jsu_117 : xe_look (xc 241) 117 = some (.aload_n 0, 1, 0, 0, 0) := by decide +kernel
theorem jsu_118 : xe_look (xc 241) 118 = some (.getfield 300, 3, 12, 31, 1170) := by decide +kernel
theorem jsu_121 : xe_look (xc 241) 121 = some (.iconst 1, 1, 0, 0, 0) := by decide +kernel
theorem jsu_122 : xe_look (xc 241) 122 = some (.isub, 1, 0, 0, 0) := by decide +kernel
theorem jsu_123 : xe_look (xc 241) 123 = some (.putfield 300, 3, 12, 31, 1170) := by decide +kernel
theorem jsu_126 : xe_look (xc 241) 126 = some (.aload_n 0, 1, 0, 0, 0) := by decide +kernel
theorem jsu_127 : xe_look (xc 241) 127 = some (.aload_n 0, 1, 0, 0, 0) := by decide +kernel
theorem jsu_128 : xe_look (xc 241) 128 = some (.getfield 242, 3, 12, 18, 1135) := by decide +kernel
theorem jsu_131 : xe_look (xc 241) 131 = some (.iconst 1, 1, 0, 0, 0) := by decide +kernel
theorem jsu_132 : xe_look (xc 241) 132 = some (.iadd, 1, 0, 0, 0) := by decide +kernel
theorem jsu_133 : xe_look (xc 241) 133 = some (.putfield 242, 3, 12, 18, 1135) := by decide +kernel
theorem jsu_136 : xe_look (xc 241) 136 = some (.goto 28, 3, 0, 0, 0) := by decide +kernel
theorem jsu_139 : xe_look (xc 241) 139 = some (.aload_n 0, 1, 0, 0, 0) := by decide +kernel
theorem jsu_140 : xe_look (xc 241) 140 = some (.iload_n 1, 1, 0, 0, 0) := by decide +kernel
theorem jsu_141 : xe_look (xc 241) 141 = some (.invokevirtual 332, 3, 0, 197, 1272) := by decide +kernel
theorem jsu_144 : xe_look (xc 241) 144 = some (.ifCond .eq 13, 3, 0, 0, 0) := by decide +kernel
theorem jsu_147 : xe_look (xc 241) 147 = some (.aload_n 0, 1, 0, 0, 0) := by decide +kernel
theorem jsu_148 : xe_look (xc 241) 148 = some (.iconst 1, 1, 0, 0, 0) := by decide +kernel
theorem jsu_149 : xe_look (xc 241) 149 = some (.aload_n 0, 1, 0, 0, 0) := by decide +kernel
theorem jsu_150 : xe_look (xc 241) 150 = some (.getfield 242, 3, 12, 18, 1135) := by decide +kernel
theorem jsu_153 : xe_look (xc 241) 153 = some (.invokevirtual 256, 3, 0, 274, 1138) := by decide +kernel
theorem jsu_156 : xe_look (xc 241) 156 = some (.ireturn, 1, 0, 0, 0) := by decide +kernel
theorem jsu_157 : xe_look (xc 241) 157 = some (.aload_n 0, 1, 0, 0, 0) := by decide +kernel
theorem jsu_158 : xe_look (xc 241) 158 = some (.iconst 1, 1, 0, 0, 0) := by decide +kernel
theorem jsu_159 : xe_look (xc 241) 159 = some (.invokevirtual 328, 3, 0, 176, 1271) := by decide +kernel
theorem jsu_162 : xe_look (xc 241) 162 = some (.iconst 1, 1, 0, 0, 0) := by decide +kernel
theorem jsu_163 : xe_look (xc 241) 163 = some (.ireturn, 1, 0, 0, 0) := by decide +kernel
theorem jsu_164 : xe_look (xc 241) 164 = some (.goto (-150), 3, 0, 0, 0) := by decide +kernel
def jEn (d : Nat) (Q : Option pv × pH → Prop) (g : pH) : Prop := ∀ lv : List (Nat × pv), px_lg lv 0 = some (pvR 196) → t_X d 186 0 lv [] g Q
def jCm (d : Nat) (Q : Option pv × pH → Prop) (g : pH) : Prop := ∀ lv : List (Nat × pv), px_lg lv 0 = some (pvR 196) → t_X d 234 0 lv [] g Q
def jLn (d : Nat) (a : Int) (Q : Option pv × pH → Prop) (g : pH) : Prop := ∀ lv : List (Nat × pv), px_lg lv 0 = some (pvR 196) → px_lg lv 1 = some (oI a) → t_X d 212 0 lv [] g Q
def jA (d : Nat) (Q : Option pv × pH → Prop) (g : pH) : Prop := ∀ lv : List (Nat × pv), px_lg lv 0 = some (pvR 196) → t_X d 235 40 lv [] g Q
def jR (d : Nat) (Q : Option pv × pH → Prop) (g : pH) : Prop := ∀ lv : List (Nat × pv), px_lg lv 0 = some (pvR 196) → t_X d 235 92 lv [] g Q
/-- an end of a piece comes to the loop of closing brackets -/
def jE (g0 : pH) (R : pH → Prop) (p k : Int) (o v : tC) (δ : Int) (π : List (Int × Int)) : Prop := ∀ g, jSt g0 g p k o v δ π → ∀ d : Nat, 2 ≤ d → ∀ Q : Option pv × pH → Prop, (∀ g1, R g1 → Q (none, g1)) → jEn d Q g
/-- landing stops -/
def tLp (a : Int) : List (Int × Int) → Prop
  | [] => True
  | q :: _ => q.1 = 13 ∨ (a = 0 ∧ q.1 = 12)
def jLe (g0 : pH) (a p k : Int) (o v : tC) (δ : Int) (π : List (Int × Int)) (g : pH) : Prop := (∃ (l : List (Int × Int)) (v' : tC), jSt g0 g p k o v' δ (l ++ π)) ∧ ∀ d : Nat, 2 ≤ d → ∀ Q : Option pv × pH → Prop, (∀ g1, jSt g0 g1 p k o v δ π → Q (none, g1)) → jLn d a Q g
set_option maxHeartbeats 1000000 in
theorem sl_3 {d : Nat} (hd : 6 ≤ d) {g0 : pH} {B : tC} {n : Int} (hB : jB g0 B n) {p k δ : Int} {o v : tC} (hLP : lP n p k) (hδ : 0 ≤ δ ∧ δ ≤ 7) {β : Nat} (hβ : (β : Int) ≤ 1000) {π : List (Int × Int)} {g : pH} {Q : Option pv × pH → Prop} (hre : jRe g0 0 p k o v δ π g) (hs : 4 ≤ lSg (tH B n p)) (hF : ∀ g1, jSt g0 g1 (p + 1) k o v δ ((lSg (tH B n p), 0) :: π) → ∀ QF, jQF d β Q QF → jF (d - 1) QF g1) : jL d β Q g := by
  intro lv l0 l1
  obtain ⟨⟨l, k1, hq, hk1, hg⟩, hc⟩ := hre
  obtain ⟨ft, u, sa, wa, hS, hC, hT, hl⟩ := hg
  have hla : ((l ++ π).length : Int) = (l.length : Int) + (π.length : Int) := by rw [List.length_append]; omega
  have hLP9 := hLP
  unfold lP at hLP9
  have hn0 := hB.2.2.1
  have hn1 := hB.2.2.2
  have hH : ∀ q, 0 ≤ q → -1 ≤ tH B n q ∧ tH B n q ≤ 255 := fun q hq => tH_b (jp_b hB.2.1) (by omega) hq
  have w9 := lSg_b (tH B n p)
  refine t_0 jsu_14 rfl (ld_a l0) ?_
  refine t_3 jsu_15 rfl (ar := ([pvR 196], [])) (pcal_w (as := []) rfl rfl rfl jeo_196) ⟨by omega, Nat.le_of_ble_eq_true rfl, Nat.le_of_ble_eq_true rfl, rfl⟩ ?_
  refine jh_run hB hS (by omega) ?_ rfl
  have b1 := hH p (by omega)
  have z1 := tH_n (B := B) (n := n) (p := p)
  show t_X d 241 18 lv [oI (tH B n p)] g Q
  refine t_3 jsu_18 rfl (ar := ([oI (tH B n p)], [])) (pcal_s ⟨Or.inl rfl, rfl, Nat.le_of_ble_eq_true rfl⟩) ⟨by omega, Nat.le_of_ble_eq_true rfl, Nat.le_of_ble_eq_true rfl, rfl⟩ ?_
  refine jsg_run ⟨by omega, by omega⟩ ?_ rfl
  show t_X d 241 21 lv [oI (lSg (tH B n p))] g Q
  refine t_2 jsu_21 rfl (w := (px_s1 lv 2 (oI (lSg (tH B n p))), [])) rfl ?_
  replace l0 : px_lg (px_s1 lv 2 (oI (lSg (tH B n p)))) 0 = some (pvR 196) := s1_ne (by decide) (fun _ => rfl) l0
  replace l1 : px_lg (px_s1 lv 2 (oI (lSg (tH B n p)))) 1 = some (oI ((β : Int))) := s1_ne (by decide) (fun _ => rfl) l1
  have l2 : px_lg (px_s1 lv 2 (oI (lSg (tH B n p)))) 2 = some (oI (lSg (tH B n p))) := s1_eq
  generalize px_s1 lv 2 (oI (lSg (tH B n p))) = lv2 at l0 l1 l2 ⊢
  show t_X d 241 22 lv2 [] g Q
  refine t_0 jsu_22 rfl (ld_i l2) ?_
  refine t_0 jsu_23 rfl rfl ?_
  refine tb_eq jsu_24 (by decide) ⟨by omega, by omega⟩ ⟨by omega, by omega⟩ (fun c3 => absurd c3 (by omega)) (fun c3 => ?_)
  show t_X d 241 27 lv2 [] g Q
  refine t_0 jsu_27 rfl (ld_a l0) ?_
  refine t_0 jsu_28 rfl (ld_i l2) ?_
  refine t_0 jsu_29 rfl rfl ?_
  refine tb_ge jsu_30 (by decide) ⟨by omega, by omega⟩ ⟨by omega, by omega⟩ (fun c4 => ?_) (fun c4 => absurd c4 (by omega))
  show t_X d 241 37 lv2 [pvR 196] g Q
  refine t_0 jsu_37 rfl rfl ?_
  refine t_3 jsu_38 rfl (ar := ([pvR 196, oI 0], [])) (pcal_w (as := [oI 0]) rfl rfl rfl jeo_196) ⟨by omega, Nat.le_of_ble_eq_true rfl, Nat.le_of_ble_eq_true rfl, rfl⟩ ?_
  refine hc _ (by omega) _ (fun g9 h9 => ?_) _ rfl rfl
  obtain ⟨ft9, u9, sa9, wa9, hS9, hC9, hT9, hl9⟩ := h9
  show t_X d 241 41 lv2 [] g9 Q
  refine t_0 jsu_41 rfl (ld_a l0) ?_
  refine t_0 jsu_42 rfl (jcq_196_37 (S_J hS9).1) ?_
  show t_X d 241 45 lv2 [pvR 217] g9 Q
  refine t_0 jsu_45 rfl (ld_a l0) ?_
  refine t_0 jsu_46 rfl (pq_cv jeo_196 rfl (show cF g9 196 33 = (π.length : Int) from S_f hS9 2 (Nat.le_of_ble_eq_true rfl))) ?_
  show t_X d 241 49 lv2 [oI ((π.length : Int)), pvR 217] g9 Q
  refine t_0 jsu_49 rfl (pq_cw (n := 1048576) (by decide +kernel)) ?_
  refine t_0 jsu_52 rfl (ld_i l2) ?_
  refine t_0 jsu_53 rfl pq_mul ?_
  refine ts_a (n := 1) rfl rfl (by decide) jsu_54 hS9 jez_217 rfl wu_jW_217 jgu_217 (by decide) ⟨by omega, by omega⟩ ⟨by omega, by omega⟩ (fun g5 hS5 => ?_)
  replace hS5 : jS g0 g5 p k (π.length : Int) δ ft9 u9 sa9 (updI wa9 (π.length : Int).toNat (1048576 * (lSg (tH B n p)))) := hS5
  show t_X d 241 55 lv2 [] g5 Q
  refine t_0 jsu_55 rfl (ld_a l0) ?_
  refine t_0 jsu_56 rfl (ld_a l0) ?_
  refine t_0 jsu_57 rfl (pq_cv jeo_196 rfl (show cF g5 196 33 = (π.length : Int) from S_f hS5 2 (Nat.le_of_ble_eq_true rfl))) ?_
  show t_X d 241 60 lv2 [oI ((π.length : Int)), pvR 196] g5 Q
  refine t_0 jsu_60 rfl rfl ?_
  refine t_0 jsu_61 rfl pq_add ?_
  refine ts_f (n := 2) rfl rfl (by decide) jsu_62 rfl jeo_196 hS5 wt_jW_196_33 jgy_196_33 (by decide) ⟨by omega, by omega⟩ (fun g6 hS6 => ?_)
  replace hS6 : jS g0 g6 p k ((π.length : Int) + 1) δ ft9 u9 sa9 (updI wa9 (π.length : Int).toNat (1048576 * (lSg (tH B n p)))) := hS6
  show t_X d 241 65 lv2 [] g6 Q
  refine t_0 jsu_65 rfl (ld_a l0) ?_
  refine t_0 jsu_66 rfl (ld_a l0) ?_
  refine t_0 jsu_67 rfl (pq_cv jeo_196 rfl (show cF g6 196 18 = p from S_f hS6 0 (Nat.le_of_ble_eq_true rfl))) ?_
  show t_X d 241 70 lv2 [oI (p), pvR 196] g6 Q
  refine t_0 jsu_70 rfl rfl ?_
  refine t_0 jsu_71 rfl pq_add ?_
  refine ts_f (n := 0) rfl rfl (by decide) jsu_72 rfl jeo_196 hS6 wt_jW_196_18 jgy_196_18 (by decide) ⟨by omega, by omega⟩ (fun g7 hS7 => ?_)
  replace hS7 : jS g0 g7 (p + 1) k ((π.length : Int) + 1) δ ft9 u9 sa9 (updI wa9 (π.length : Int).toNat (1048576 * (lSg (tH B n p)))) := hS7
  show t_X d 241 75 lv2 [] g7 Q
  refine t_0 jsu_75 rfl (ld_a l0) ?_
  refine t_3 jsu_76 rfl (ar := ([pvR 196], [])) (pcal_w (as := []) rfl rfl rfl jeo_196) ⟨by omega, Nat.le_of_ble_eq_true rfl, Nat.le_of_ble_eq_true rfl, rfl⟩ ?_
  refine hF _ ?_ _ ⟨fun g8 a8 => ?_, fun g8 a8 => ?_⟩ _ rfl
  · exact ⟨ft9, u9, sa9, _, (show jS g0 g7 (p + 1) k (((lSg (tH B n p), 0) :: π).length : Int) δ ft9 u9 sa9 _ by rw [show (((lSg (tH B n p), 0) :: π).length : Int) = (π.length : Int) + 1 by rw [List.length_cons]; omega]; exact hS7), hC9, (by have h7 := jK_p (a := lSg (tH B n p)) (b := 0) (w := (π.length : Int)) rfl hT9 (by omega) (by omega); rw [Int.add_zero] at h7; exact h7), (by rw [List.length_cons]; omega)⟩
  · show t_X d 241 79 lv2 [oI 1] g8 Q
    refine tz_ne jsu_79 (by decide) ⟨by omega, by omega⟩ (fun c8 => ?_) (fun c8 => absurd c8 (by omega))
    show t_X d 241 164 lv2 [] g8 Q
    refine t_1 jsu_164 rfl (pb_goto (pc := 164) (by decide)) ?_
    show t_X d 241 14 lv2 [] g8 Q
    exact a8 _ l0 l1
  · show t_X d 241 79 lv2 [oI 0] g8 Q
    refine tz_ne jsu_79 (by decide) ⟨by omega, by omega⟩ (fun c9 => absurd c9 (by omega)) (fun c9 => ?_)
    show t_X d 241 82 lv2 [] g8 Q
    refine t_0 jsu_82 rfl rfl ?_
    refine t_5 jsu_83 rfl rfl ?_
    exact a8
set_option maxHeartbeats 1000000 in
theorem sl_2 {d : Nat} (hd : 6 ≤ d) {g0 : pH} {B : tC} {n : Int} (hB : jB g0 B n) {p k δ : Int} {o v : tC} (hLP : lP n p k) (hδ : 0 ≤ δ ∧ δ ≤ 7) {β : Nat} (hβ : (β : Int) ≤ 1000) {π : List (Int × Int)} {g : pH} {Q : Option pv × pH → Prop} (hre : jRe g0 1 p k o v δ π g) (hs : 2 ≤ lSg (tH B n p) ∧ lSg (tH B n p) ≤ 3) (hF : ∀ g1, jSt g0 g1 (p + 1) k o v δ ((lSg (tH B n p), 0) :: π) → ∀ QF, jQF d β Q QF → jF (d - 1) QF g1) : jL d β Q g := by
  intro lv l0 l1
  obtain ⟨⟨l, k1, hq, hk1, hg⟩, hc⟩ := hre
  obtain ⟨ft, u, sa, wa, hS, hC, hT, hl⟩ := hg
  have hla : ((l ++ π).length : Int) = (l.length : Int) + (π.length : Int) := by rw [List.length_append]; omega
  have hLP9 := hLP
  unfold lP at hLP9
  have hn0 := hB.2.2.1
  have hn1 := hB.2.2.2
  have hH : ∀ q, 0 ≤ q → -1 ≤ tH B n q ∧ tH B n q ≤ 255 := fun q hq => tH_b (jp_b hB.2.1) (by omega) hq
  have w9 := lSg_b (tH B n p)
  refine t_0 jsu_14 rfl (ld_a l0) ?_
  refine t_3 jsu_15 rfl (ar := ([pvR 196], [])) (pcal_w (as := []) rfl rfl rfl jeo_196) ⟨by omega, Nat.le_of_ble_eq_true rfl, Nat.le_of_ble_eq_true rfl, rfl⟩ ?_
  refine jh_run hB hS (by omega) ?_ rfl
  have b1 := hH p (by omega)
  have z1 := tH_n (B := B) (n := n) (p := p)
  show t_X d 241 18 lv [oI (tH B n p)] g Q
  refine t_3 jsu_18 rfl (ar := ([oI (tH B n p)], [])) (pcal_s ⟨Or.inl rfl, rfl, Nat.le_of_ble_eq_true rfl⟩) ⟨by omega, Nat.le_of_ble_eq_true rfl, Nat.le_of_ble_eq_true rfl, rfl⟩ ?_
  refine jsg_run ⟨by omega, by omega⟩ ?_ rfl
  show t_X d 241 21 lv [oI (lSg (tH B n p))] g Q
  refine t_2 jsu_21 rfl (w := (px_s1 lv 2 (oI (lSg (tH B n p))), [])) rfl ?_
  replace l0 : px_lg (px_s1 lv 2 (oI (lSg (tH B n p)))) 0 = some (pvR 196) := s1_ne (by decide) (fun _ => rfl) l0
  replace l1 : px_lg (px_s1 lv 2 (oI (lSg (tH B n p)))) 1 = some (oI ((β : Int))) := s1_ne (by decide) (fun _ => rfl) l1
  have l2 : px_lg (px_s1 lv 2 (oI (lSg (tH B n p)))) 2 = some (oI (lSg (tH B n p))) := s1_eq
  generalize px_s1 lv 2 (oI (lSg (tH B n p))) = lv2 at l0 l1 l2 ⊢
  show t_X d 241 22 lv2 [] g Q
  refine t_0 jsu_22 rfl (ld_i l2) ?_
  refine t_0 jsu_23 rfl rfl ?_
  refine tb_eq jsu_24 (by decide) ⟨by omega, by omega⟩ ⟨by omega, by omega⟩ (fun c3 => absurd c3 (by omega)) (fun c3 => ?_)
  show t_X d 241 27 lv2 [] g Q
  refine t_0 jsu_27 rfl (ld_a l0) ?_
  refine t_0 jsu_28 rfl (ld_i l2) ?_
  refine t_0 jsu_29 rfl rfl ?_
  refine tb_ge jsu_30 (by decide) ⟨by omega, by omega⟩ ⟨by omega, by omega⟩ (fun c4 => absurd c4 (by omega)) (fun c4 => ?_)
  show t_X d 241 33 lv2 [pvR 196] g Q
  refine t_0 jsu_33 rfl rfl ?_
  refine t_1 jsu_34 rfl (pb_goto (pc := 34) (by decide)) ?_
  show t_X d 241 38 lv2 [oI 1, pvR 196] g Q
  refine t_3 jsu_38 rfl (ar := ([pvR 196, oI 1], [])) (pcal_w (as := [oI 1]) rfl rfl rfl jeo_196) ⟨by omega, Nat.le_of_ble_eq_true rfl, Nat.le_of_ble_eq_true rfl, rfl⟩ ?_
  refine hc _ (by omega) _ (fun g9 h9 => ?_) _ rfl rfl
  obtain ⟨ft9, u9, sa9, wa9, hS9, hC9, hT9, hl9⟩ := h9
  show t_X d 241 41 lv2 [] g9 Q
  refine t_0 jsu_41 rfl (ld_a l0) ?_
  refine t_0 jsu_42 rfl (jcq_196_37 (S_J hS9).1) ?_
  show t_X d 241 45 lv2 [pvR 217] g9 Q
  refine t_0 jsu_45 rfl (ld_a l0) ?_
  refine t_0 jsu_46 rfl (pq_cv jeo_196 rfl (show cF g9 196 33 = (π.length : Int) from S_f hS9 2 (Nat.le_of_ble_eq_true rfl))) ?_
  show t_X d 241 49 lv2 [oI ((π.length : Int)), pvR 217] g9 Q
  refine t_0 jsu_49 rfl (pq_cw (n := 1048576) (by decide +kernel)) ?_
  refine t_0 jsu_52 rfl (ld_i l2) ?_
  refine t_0 jsu_53 rfl pq_mul ?_
  refine ts_a (n := 1) rfl rfl (by decide) jsu_54 hS9 jez_217 rfl wu_jW_217 jgu_217 (by decide) ⟨by omega, by omega⟩ ⟨by omega, by omega⟩ (fun g5 hS5 => ?_)
  replace hS5 : jS g0 g5 p k (π.length : Int) δ ft9 u9 sa9 (updI wa9 (π.length : Int).toNat (1048576 * (lSg (tH B n p)))) := hS5
  show t_X d 241 55 lv2 [] g5 Q
  refine t_0 jsu_55 rfl (ld_a l0) ?_
  refine t_0 jsu_56 rfl (ld_a l0) ?_
  refine t_0 jsu_57 rfl (pq_cv jeo_196 rfl (show cF g5 196 33 = (π.length : Int) from S_f hS5 2 (Nat.le_of_ble_eq_true rfl))) ?_
  show t_X d 241 60 lv2 [oI ((π.length : Int)), pvR 196] g5 Q
  refine t_0 jsu_60 rfl rfl ?_
  refine t_0 jsu_61 rfl pq_add ?_
  refine ts_f (n := 2) rfl rfl (by decide) jsu_62 rfl jeo_196 hS5 wt_jW_196_33 jgy_196_33 (by decide) ⟨by omega, by omega⟩ (fun g6 hS6 => ?_)
  replace hS6 : jS g0 g6 p k ((π.length : Int) + 1) δ ft9 u9 sa9 (updI wa9 (π.length : Int).toNat (1048576 * (lSg (tH B n p)))) := hS6
  show t_X d 241 65 lv2 [] g6 Q
  refine t_0 jsu_65 rfl (ld_a l0) ?_
  refine t_0 jsu_66 rfl (ld_a l0) ?_
  refine t_0 jsu_67 rfl (pq_cv jeo_196 rfl (show cF g6 196 18 = p from S_f hS6 0 (Nat.le_of_ble_eq_true rfl))) ?_
  show t_X d 241 70 lv2 [oI (p), pvR 196] g6 Q
  refine t_0 jsu_70 rfl rfl ?_
  refine t_0 jsu_71 rfl pq_add ?_
  refine ts_f (n := 0) rfl rfl (by decide) jsu_72 rfl jeo_196 hS6 wt_jW_196_18 jgy_196_18 (by decide) ⟨by omega, by omega⟩ (fun g7 hS7 => ?_)
  replace hS7 : jS g0 g7 (p + 1) k ((π.length : Int) + 1) δ ft9 u9 sa9 (updI wa9 (π.length : Int).toNat (1048576 * (lSg (tH B n p)))) := hS7
  show t_X d 241 75 lv2 [] g7 Q
  refine t_0 jsu_75 rfl (ld_a l0) ?_
  refine t_3 jsu_76 rfl (ar := ([pvR 196], [])) (pcal_w (as := []) rfl rfl rfl jeo_196) ⟨by omega, Nat.le_of_ble_eq_true rfl, Nat.le_of_ble_eq_true rfl, rfl⟩ ?_
  refine hF _ ?_ _ ⟨fun g8 a8 => ?_, fun g8 a8 => ?_⟩ _ rfl
  · exact ⟨ft9, u9, sa9, _, (show jS g0 g7 (p + 1) k (((lSg (tH B n p), 0) :: π).length : Int) δ ft9 u9 sa9 _ by rw [show (((lSg (tH B n p), 0) :: π).length : Int) = (π.length : Int) + 1 by rw [List.length_cons]; omega]; exact hS7), hC9, (by have h7 := jK_p (a := lSg (tH B n p)) (b := 0) (w := (π.length : Int)) rfl hT9 (by omega) (by omega); rw [Int.add_zero] at h7; exact h7), (by rw [List.length_cons]; omega)⟩
  · show t_X d 241 79 lv2 [oI 1] g8 Q
    refine tz_ne jsu_79 (by decide) ⟨by omega, by omega⟩ (fun c8 => ?_) (fun c8 => absurd c8 (by omega))
    show t_X d 241 164 lv2 [] g8 Q
    refine t_1 jsu_164 rfl (pb_goto (pc := 164) (by decide)) ?_
    show t_X d 241 14 lv2 [] g8 Q
    exact a8 _ l0 l1
  · show t_X d 241 79 lv2 [oI 0] g8 Q
    refine tz_ne jsu_79 (by decide) ⟨by omega, by omega⟩ (fun c9 => absurd c9 (by omega)) (fun c9 => ?_)
    show t_X d 241 82 lv2 [] g8 Q
    refine t_0 jsu_82 rfl rfl ?_
    refine t_5 jsu_83 rfl rfl ?_
    exact a8
set_option maxHeartbeats 1000000 in
theorem sl_c {d : Nat} (hd : 6 ≤ d) {g0 : pH} {B : tC} {n : Int} (hB : jB g0 B n) {p k δ : Int} {o v : tC} (hLP : lP n p k) (hδ : 0 ≤ δ ∧ δ ≤ 7) {β : Nat} (hβ : (β : Int) ≤ 1000) {π : List (Int × Int)} {g : pH} {Q : Option pv × pH → Prop} (hre : jRe g0 1 p k o v δ ((14, 0) :: π) g) (hβ2 : β ≤ π.length) (hh : tH B n p = 93) (hA : ∀ g1, jSt g0 g1 (p + 1) k o v (δ - 1) π → jL d β Q g1) : jL d β Q g := by
  intro lv l0 l1
  obtain ⟨⟨l, k1, hq, hk1, hg⟩, hc⟩ := hre
  obtain ⟨ft, u, sa, wa, hS, hC, hT, hl⟩ := hg
  have hla : ((l ++ (14, 0) :: π).length : Int) = (l.length : Int) + ((π.length : Int) + 1) := by rw [List.length_append, List.length_cons]; omega
  have hLP9 := hLP
  unfold lP at hLP9
  have hn0 := hB.2.2.1
  have hn1 := hB.2.2.2
  have hH : ∀ q, 0 ≤ q → -1 ≤ tH B n q ∧ tH B n q ≤ 255 := fun q hq => tH_b (jp_b hB.2.1) (by omega) hq
  have w9 := lSg_b (tH B n p)
  have hz : lSg (tH B n p) = -1 := by rw [hh]; decide
  have hl8 : (((14, 0) :: π : List (Int × Int)).length : Int) = (π.length : Int) + 1 := by rw [List.length_cons]; omega
  refine t_0 jsu_14 rfl (ld_a l0) ?_
  refine t_3 jsu_15 rfl (ar := ([pvR 196], [])) (pcal_w (as := []) rfl rfl rfl jeo_196) ⟨by omega, Nat.le_of_ble_eq_true rfl, Nat.le_of_ble_eq_true rfl, rfl⟩ ?_
  refine jh_run hB hS (by omega) ?_ rfl
  have b1 := hH p (by omega)
  have z1 := tH_n (B := B) (n := n) (p := p)
  show t_X d 241 18 lv [oI (tH B n p)] g Q
  refine t_3 jsu_18 rfl (ar := ([oI (tH B n p)], [])) (pcal_s ⟨Or.inl rfl, rfl, Nat.le_of_ble_eq_true rfl⟩) ⟨by omega, Nat.le_of_ble_eq_true rfl, Nat.le_of_ble_eq_true rfl, rfl⟩ ?_
  refine jsg_run ⟨by omega, by omega⟩ ?_ rfl
  show t_X d 241 21 lv [oI (lSg (tH B n p))] g Q
  refine t_2 jsu_21 rfl (w := (px_s1 lv 2 (oI (lSg (tH B n p))), [])) rfl ?_
  replace l0 : px_lg (px_s1 lv 2 (oI (lSg (tH B n p)))) 0 = some (pvR 196) := s1_ne (by decide) (fun _ => rfl) l0
  replace l1 : px_lg (px_s1 lv 2 (oI (lSg (tH B n p)))) 1 = some (oI ((β : Int))) := s1_ne (by decide) (fun _ => rfl) l1
  have l2 : px_lg (px_s1 lv 2 (oI (lSg (tH B n p)))) 2 = some (oI (lSg (tH B n p))) := s1_eq
  generalize px_s1 lv 2 (oI (lSg (tH B n p))) = lv2 at l0 l1 l2 ⊢
  show t_X d 241 22 lv2 [] g Q
  refine t_0 jsu_22 rfl (ld_i l2) ?_
  refine t_0 jsu_23 rfl rfl ?_
  refine tb_eq jsu_24 (by decide) ⟨by omega, by omega⟩ ⟨by omega, by omega⟩ (fun c3 => ?_) (fun c3 => absurd c3 (by omega))
  show t_X d 241 84 lv2 [] g Q
  refine t_0 jsu_84 rfl (ld_a l0) ?_
  refine t_3 jsu_85 rfl (ar := ([pvR 196], [])) (pcal_w (as := []) rfl rfl rfl jeo_196) ⟨by omega, Nat.le_of_ble_eq_true rfl, Nat.le_of_ble_eq_true rfl, rfl⟩ ?_
  refine jh_run hB hS (by omega) ?_ rfl
  show t_X d 241 88 lv2 [oI (tH B n p)] g Q
  refine t_0 jsu_88 rfl (pq_b (by decide)) ?_
  refine tb_ne jsu_90 (by decide) ⟨by omega, by omega⟩ ⟨by omega, by omega⟩ (fun c4 => absurd c4 (by omega)) (fun c4 => ?_)
  show t_X d 241 93 lv2 [] g Q
  refine t_0 jsu_93 rfl (ld_a l0) ?_
  refine t_0 jsu_94 rfl (ld_i l1) ?_
  refine t_3 jsu_95 rfl (ar := ([pvR 196, oI ((β : Int))], [])) (pcal_w (as := [oI ((β : Int))]) rfl rfl rfl jeo_196) ⟨by omega, Nat.le_of_ble_eq_true rfl, Nat.le_of_ble_eq_true rfl, rfl⟩ ?_
  refine jho_run hB hS (by omega) ⟨by omega, by omega⟩ (fun j hj => jK_v hT j (by omega)) (fun _ => ?_) (fun t9 => absurd (show wa π.length / 1048576 = 14 by have := jK_a hT; omega) (t9 π.length (by omega) (by omega))) rfl rfl
  show t_X d 241 98 lv2 [oI 1] g Q
  refine tz_eq jsu_98 (by decide) ⟨by omega, by omega⟩ (fun c5 => absurd c5 (by omega)) (fun c5 => ?_)
  show t_X d 241 101 lv2 [] g Q
  refine t_0 jsu_101 rfl (ld_a l0) ?_
  refine t_0 jsu_102 rfl rfl ?_
  refine t_3 jsu_103 rfl (ar := ([pvR 196, oI 1], [])) (pcal_w (as := [oI 1]) rfl rfl rfl jeo_196) ⟨by omega, Nat.le_of_ble_eq_true rfl, Nat.le_of_ble_eq_true rfl, rfl⟩ ?_
  refine hc _ (by omega) _ (fun g9 h9 => ?_) _ rfl rfl
  obtain ⟨ft9, u9, sa9, wa9, hS9, hC9, hT9, hl9⟩ := h9
  show t_X d 241 106 lv2 [] g9 Q
  refine t_0 jsu_106 rfl (ld_a l0) ?_
  refine t_0 jsu_107 rfl (ld_a l0) ?_
  refine t_0 jsu_108 rfl (pq_cv jeo_196 rfl (show cF g9 196 33 = (((14, 0) :: π).length : Int) from S_f hS9 2 (Nat.le_of_ble_eq_true rfl))) ?_
  show t_X d 241 111 lv2 [oI ((((14, 0) :: π).length : Int)), pvR 196] g9 Q
  refine t_0 jsu_111 rfl rfl ?_
  refine t_0 jsu_112 rfl pq_sub ?_
  refine ts_f (n := 2) rfl rfl (by decide) jsu_113 rfl jeo_196 hS9 wt_jW_196_33 jgy_196_33 (by decide) ⟨by omega, by omega⟩ (fun g6 hS6 => ?_)
  replace hS6 : jS g0 g6 p k ((((14, 0) :: π).length : Int) - 1) δ ft9 u9 sa9 wa9 := hS6
  show t_X d 241 116 lv2 [] g6 Q
  refine t_0 jsu_116 rfl (ld_a l0) ?_
  refine t_0 jsu_117 rfl (ld_a l0) ?_
  refine t_0 jsu_118 rfl (pq_cv jeo_196 rfl (show cF g6 196 31 = δ from S_f hS6 3 (Nat.le_of_ble_eq_true rfl))) ?_
  show t_X d 241 121 lv2 [oI (δ), pvR 196] g6 Q
  refine t_0 jsu_121 rfl rfl ?_
  refine t_0 jsu_122 rfl pq_sub ?_
  refine ts_f (n := 3) rfl rfl (by decide) jsu_123 rfl jeo_196 hS6 wt_jW_196_31 jgy_196_31 (by decide) ⟨by omega, by omega⟩ (fun g7 hS7 => ?_)
  replace hS7 : jS g0 g7 p k ((((14, 0) :: π).length : Int) - 1) (δ - 1) ft9 u9 sa9 wa9 := hS7
  show t_X d 241 126 lv2 [] g7 Q
  refine t_0 jsu_126 rfl (ld_a l0) ?_
  refine t_0 jsu_127 rfl (ld_a l0) ?_
  refine t_0 jsu_128 rfl (pq_cv jeo_196 rfl (show cF g7 196 18 = p from S_f hS7 0 (Nat.le_of_ble_eq_true rfl))) ?_
  show t_X d 241 131 lv2 [oI (p), pvR 196] g7 Q
  refine t_0 jsu_131 rfl rfl ?_
  refine t_0 jsu_132 rfl pq_add ?_
  refine ts_f (n := 0) rfl rfl (by decide) jsu_133 rfl jeo_196 hS7 wt_jW_196_18 jgy_196_18 (by decide) ⟨by omega, by omega⟩ (fun g8 hS8 => ?_)
  replace hS8 : jS g0 g8 (p + 1) k ((((14, 0) :: π).length : Int) - 1) (δ - 1) ft9 u9 sa9 wa9 := hS8
  show t_X d 241 136 lv2 [] g8 Q
  refine t_1 jsu_136 rfl (pb_goto (pc := 136) (by decide)) ?_
  show t_X d 241 164 lv2 [] g8 Q
  refine t_1 jsu_164 rfl (pb_goto (pc := 164) (by decide)) ?_
  show t_X d 241 14 lv2 [] g8 Q
  exact hA _ ⟨ft9, u9, sa9, wa9, (show jS g0 g8 (p + 1) k (π.length : Int) (δ - 1) ft9 u9 sa9 wa9 by rw [show (π.length : Int) = ((((14, 0) : Int × Int) :: π).length : Int) - 1 by rw [List.length_cons]; omega]; exact hS8), hC9, hT9.2, by omega⟩ _ l0 l1
set_option maxHeartbeats 1000000 in
theorem sl_b {d : Nat} (hd : 6 ≤ d) {g0 : pH} {B : tC} {n : Int} (hB : jB g0 B n) {p k δ : Int} {o v : tC} (hLP : lP n p k) (hδ : 0 ≤ δ ∧ δ ≤ 7) {β : Nat} (hβ : (β : Int) ≤ 1000) {π : List (Int × Int)} {g : pH} {Q : Option pv × pH → Prop} (hre : jRe g0 1 p k o v δ ((14, 0) :: π) g) (hβ2 : β ≤ π.length) (hh : tH B n p ≠ 93) (hz : lSg (tH B n p) = -1) (hQ : jOK g0 Q (-1000 - p)) : jL d β Q g := by
  intro lv l0 l1
  obtain ⟨⟨l, k1, hq, hk1, hg⟩, hc⟩ := hre
  obtain ⟨ft, u, sa, wa, hS, hC, hT, hl⟩ := hg
  have hla : ((l ++ (14, 0) :: π).length : Int) = (l.length : Int) + ((π.length : Int) + 1) := by rw [List.length_append, List.length_cons]; omega
  have hLP9 := hLP
  unfold lP at hLP9
  have hn0 := hB.2.2.1
  have hn1 := hB.2.2.2
  have hH : ∀ q, 0 ≤ q → -1 ≤ tH B n q ∧ tH B n q ≤ 255 := fun q hq => tH_b (jp_b hB.2.1) (by omega) hq
  have w9 := lSg_b (tH B n p)
  refine t_0 jsu_14 rfl (ld_a l0) ?_
  refine t_3 jsu_15 rfl (ar := ([pvR 196], [])) (pcal_w (as := []) rfl rfl rfl jeo_196) ⟨by omega, Nat.le_of_ble_eq_true rfl, Nat.le_of_ble_eq_true rfl, rfl⟩ ?_
  refine jh_run hB hS (by omega) ?_ rfl
  have b1 := hH p (by omega)
  have z1 := tH_n (B := B) (n := n) (p := p)
  show t_X d 241 18 lv [oI (tH B n p)] g Q
  refine t_3 jsu_18 rfl (ar := ([oI (tH B n p)], [])) (pcal_s ⟨Or.inl rfl, rfl, Nat.le_of_ble_eq_true rfl⟩) ⟨by omega, Nat.le_of_ble_eq_true rfl, Nat.le_of_ble_eq_true rfl, rfl⟩ ?_
  refine jsg_run ⟨by omega, by omega⟩ ?_ rfl
  show t_X d 241 21 lv [oI (lSg (tH B n p))] g Q
  refine t_2 jsu_21 rfl (w := (px_s1 lv 2 (oI (lSg (tH B n p))), [])) rfl ?_
  replace l0 : px_lg (px_s1 lv 2 (oI (lSg (tH B n p)))) 0 = some (pvR 196) := s1_ne (by decide) (fun _ => rfl) l0
  replace l1 : px_lg (px_s1 lv 2 (oI (lSg (tH B n p)))) 1 = some (oI ((β : Int))) := s1_ne (by decide) (fun _ => rfl) l1
  have l2 : px_lg (px_s1 lv 2 (oI (lSg (tH B n p)))) 2 = some (oI (lSg (tH B n p))) := s1_eq
  generalize px_s1 lv 2 (oI (lSg (tH B n p))) = lv2 at l0 l1 l2 ⊢
  show t_X d 241 22 lv2 [] g Q
  refine t_0 jsu_22 rfl (ld_i l2) ?_
  refine t_0 jsu_23 rfl rfl ?_
  refine tb_eq jsu_24 (by decide) ⟨by omega, by omega⟩ ⟨by omega, by omega⟩ (fun c3 => ?_) (fun c3 => absurd c3 (by omega))
  show t_X d 241 84 lv2 [] g Q
  refine t_0 jsu_84 rfl (ld_a l0) ?_
  refine t_3 jsu_85 rfl (ar := ([pvR 196], [])) (pcal_w (as := []) rfl rfl rfl jeo_196) ⟨by omega, Nat.le_of_ble_eq_true rfl, Nat.le_of_ble_eq_true rfl, rfl⟩ ?_
  refine jh_run hB hS (by omega) ?_ rfl
  show t_X d 241 88 lv2 [oI (tH B n p)] g Q
  refine t_0 jsu_88 rfl (pq_b (by decide)) ?_
  refine tb_ne jsu_90 (by decide) ⟨by omega, by omega⟩ ⟨by omega, by omega⟩ (fun c4 => ?_) (fun c4 => absurd c4 (by omega))
  show t_X d 241 139 lv2 [] g Q
  refine t_0 jsu_139 rfl (ld_a l0) ?_
  refine t_0 jsu_140 rfl (ld_i l1) ?_
  refine t_3 jsu_141 rfl (ar := ([pvR 196, oI ((β : Int))], [])) (pcal_w (as := [oI ((β : Int))]) rfl rfl rfl jeo_196) ⟨by omega, Nat.le_of_ble_eq_true rfl, Nat.le_of_ble_eq_true rfl, rfl⟩ ?_
  refine jho_run hB hS (by omega) ⟨by omega, by omega⟩ (fun j hj => jK_v hT j (by omega)) (fun _ => ?_) (fun t9 => absurd (show wa π.length / 1048576 = 14 by have := jK_a hT; omega) (t9 π.length (by omega) (by omega))) rfl rfl
  show t_X d 241 144 lv2 [oI 1] g Q
  refine tz_eq jsu_144 (by decide) ⟨by omega, by omega⟩ (fun c5 => absurd c5 (by omega)) (fun c5 => ?_)
  show t_X d 241 147 lv2 [] g Q
  refine t_0 jsu_147 rfl (ld_a l0) ?_
  refine t_0 jsu_148 rfl rfl ?_
  refine t_0 jsu_149 rfl (ld_a l0) ?_
  refine t_0 jsu_150 rfl (pq_cv jeo_196 rfl (show cF g 196 18 = p from S_f hS 0 (Nat.le_of_ble_eq_true rfl))) ?_
  show t_X d 241 153 lv2 [oI (p), oI 1, pvR 196] g Q
  refine t_3 jsu_153 rfl (ar := ([pvR 196, oI 1, oI (p)], [])) (pcal_w (as := [oI (p), oI 1]) rfl rfl rfl jeo_196) ⟨by omega, Nat.le_of_ble_eq_true rfl, Nat.le_of_ble_eq_true rfl, rfl⟩ ?_
  refine jw_run hB hS ⟨by omega, by omega⟩ ⟨by omega, by omega⟩ (fun g6 hS6 => ?_) rfl rfl rfl
  replace hS6 : jS g0 g6 p k1 ((l ++ (14, 0) :: π).length : Int) δ (-1000 * 1 - p) u sa wa := hS6
  show t_X d 241 156 lv2 [oI 0] g6 Q
  refine t_5 jsu_156 rfl rfl ?_
  exact hQ _ ⟨_, _, _, _, _, _, _, (show jS g0 g6 _ _ _ _ (-1000 - p) _ _ _ by rw [show -1000 - p = -1000 * 1 - p by omega]; exact hS6)⟩
set_option maxHeartbeats 1000000 in
theorem sl_e {d : Nat} (hd : 6 ≤ d) {g0 : pH} {B : tC} {n : Int} (hB : jB g0 B n) {p k δ : Int} {o v : tC} (hLP : lP n p k) (hδ : 0 ≤ δ ∧ δ ≤ 7) {β : Nat} (hβ : (β : Int) ≤ 1000) {π : List (Int × Int)} {g : pH} {Q : Option pv × pH → Prop} (hre : jRe g0 1 p k o v δ π g) (hβ2 : π.length = β) (hz : lSg (tH B n p) = -1) (hO : ∀ g1, jSt g0 g1 p k o v δ π → Q (some (oI 1), g1)) : jL d β Q g := by
  intro lv l0 l1
  obtain ⟨⟨l, k1, hq, hk1, hg⟩, hc⟩ := hre
  obtain ⟨ft, u, sa, wa, hS, hC, hT, hl⟩ := hg
  have hla : ((l ++ π).length : Int) = (l.length : Int) + (π.length : Int) := by rw [List.length_append]; omega
  have hLP9 := hLP
  unfold lP at hLP9
  have hn0 := hB.2.2.1
  have hn1 := hB.2.2.2
  have hH : ∀ q, 0 ≤ q → -1 ≤ tH B n q ∧ tH B n q ≤ 255 := fun q hq => tH_b (jp_b hB.2.1) (by omega) hq
  have w9 := lSg_b (tH B n p)
  refine t_0 jsu_14 rfl (ld_a l0) ?_
  refine t_3 jsu_15 rfl (ar := ([pvR 196], [])) (pcal_w (as := []) rfl rfl rfl jeo_196) ⟨by omega, Nat.le_of_ble_eq_true rfl, Nat.le_of_ble_eq_true rfl, rfl⟩ ?_
  refine jh_run hB hS (by omega) ?_ rfl
  have b1 := hH p (by omega)
  have z1 := tH_n (B := B) (n := n) (p := p)
  show t_X d 241 18 lv [oI (tH B n p)] g Q
  refine t_3 jsu_18 rfl (ar := ([oI (tH B n p)], [])) (pcal_s ⟨Or.inl rfl, rfl, Nat.le_of_ble_eq_true rfl⟩) ⟨by omega, Nat.le_of_ble_eq_true rfl, Nat.le_of_ble_eq_true rfl, rfl⟩ ?_
  refine jsg_run ⟨by omega, by omega⟩ ?_ rfl
  show t_X d 241 21 lv [oI (lSg (tH B n p))] g Q
  refine t_2 jsu_21 rfl (w := (px_s1 lv 2 (oI (lSg (tH B n p))), [])) rfl ?_
  replace l0 : px_lg (px_s1 lv 2 (oI (lSg (tH B n p)))) 0 = some (pvR 196) := s1_ne (by decide) (fun _ => rfl) l0
  replace l1 : px_lg (px_s1 lv 2 (oI (lSg (tH B n p)))) 1 = some (oI ((β : Int))) := s1_ne (by decide) (fun _ => rfl) l1
  have l2 : px_lg (px_s1 lv 2 (oI (lSg (tH B n p)))) 2 = some (oI (lSg (tH B n p))) := s1_eq
  generalize px_s1 lv 2 (oI (lSg (tH B n p))) = lv2 at l0 l1 l2 ⊢
  show t_X d 241 22 lv2 [] g Q
  refine t_0 jsu_22 rfl (ld_i l2) ?_
  refine t_0 jsu_23 rfl rfl ?_
  refine tb_eq jsu_24 (by decide) ⟨by omega, by omega⟩ ⟨by omega, by omega⟩ (fun c3 => ?_) (fun c3 => absurd c3 (by omega))
  show t_X d 241 84 lv2 [] g Q
  refine t_0 jsu_84 rfl (ld_a l0) ?_
  refine t_3 jsu_85 rfl (ar := ([pvR 196], [])) (pcal_w (as := []) rfl rfl rfl jeo_196) ⟨by omega, Nat.le_of_ble_eq_true rfl, Nat.le_of_ble_eq_true rfl, rfl⟩ ?_
  refine jh_run hB hS (by omega) ?_ rfl
  show t_X d 241 88 lv2 [oI (tH B n p)] g Q
  refine t_0 jsu_88 rfl (pq_b (by decide)) ?_
  refine tb_ne jsu_90 (by decide) ⟨by omega, by omega⟩ ⟨by omega, by omega⟩ (fun c4 => ?_) (fun c4 => ?_)
  · show t_X d 241 139 lv2 [] g Q
    refine t_0 jsu_139 rfl (ld_a l0) ?_
    refine t_0 jsu_140 rfl (ld_i l1) ?_
    refine t_3 jsu_141 rfl (ar := ([pvR 196, oI ((β : Int))], [])) (pcal_w (as := [oI ((β : Int))]) rfl rfl rfl jeo_196) ⟨by omega, Nat.le_of_ble_eq_true rfl, Nat.le_of_ble_eq_true rfl, rfl⟩ ?_
    refine jho_run hB hS (by omega) ⟨by omega, by omega⟩ (fun j hj => jK_v hT j (by omega)) (fun ⟨j, t1, t2, t3⟩ => absurd t3 (jK_s hT hq j (by omega) (by omega))) (fun _ => ?_) rfl rfl
    show t_X d 241 144 lv2 [oI 0] g Q
    refine tz_eq jsu_144 (by decide) ⟨by omega, by omega⟩ (fun c5 => ?_) (fun c5 => absurd c5 (by omega))
    show t_X d 241 157 lv2 [] g Q
    refine t_0 jsu_157 rfl (ld_a l0) ?_
    refine t_0 jsu_158 rfl rfl ?_
    refine t_3 jsu_159 rfl (ar := ([pvR 196, oI 1], [])) (pcal_w (as := [oI 1]) rfl rfl rfl jeo_196) ⟨by omega, Nat.le_of_ble_eq_true rfl, Nat.le_of_ble_eq_true rfl, rfl⟩ ?_
    refine hc _ (by omega) _ (fun g9 h9 => ?_) _ rfl rfl
    obtain ⟨ft9, u9, sa9, wa9, hS9, hC9, hT9, hl9⟩ := h9
    show t_X d 241 162 lv2 [] g9 Q
    refine t_0 jsu_162 rfl rfl ?_
    refine t_5 jsu_163 rfl rfl ?_
    exact hO _ ⟨ft9, u9, sa9, wa9, hS9, hC9, hT9, hl9⟩
  · show t_X d 241 93 lv2 [] g Q
    refine t_0 jsu_93 rfl (ld_a l0) ?_
    refine t_0 jsu_94 rfl (ld_i l1) ?_
    refine t_3 jsu_95 rfl (ar := ([pvR 196, oI ((β : Int))], [])) (pcal_w (as := [oI ((β : Int))]) rfl rfl rfl jeo_196) ⟨by omega, Nat.le_of_ble_eq_true rfl, Nat.le_of_ble_eq_true rfl, rfl⟩ ?_
    refine jho_run hB hS (by omega) ⟨by omega, by omega⟩ (fun j hj => jK_v hT j (by omega)) (fun ⟨j, t1, t2, t3⟩ => absurd t3 (jK_s hT hq j (by omega) (by omega))) (fun _ => ?_) rfl rfl
    show t_X d 241 98 lv2 [oI 0] g Q
    refine tz_eq jsu_98 (by decide) ⟨by omega, by omega⟩ (fun c6 => ?_) (fun c6 => absurd c6 (by omega))
    show t_X d 241 139 lv2 [] g Q
    refine t_0 jsu_139 rfl (ld_a l0) ?_
    refine t_0 jsu_140 rfl (ld_i l1) ?_
    refine t_3 jsu_141 rfl (ar := ([pvR 196, oI ((β : Int))], [])) (pcal_w (as := [oI ((β : Int))]) rfl rfl rfl jeo_196) ⟨by omega, Nat.le_of_ble_eq_true rfl, Nat.le_of_ble_eq_true rfl, rfl⟩ ?_
    refine jho_run hB hS (by omega) ⟨by omega, by omega⟩ (fun j hj => jK_v hT j (by omega)) (fun ⟨j, t1, t2, t3⟩ => absurd t3 (jK_s hT hq j (by omega) (by omega))) (fun _ => ?_) rfl rfl
    show t_X d 241 144 lv2 [oI 0] g Q
    refine tz_eq jsu_144 (by decide) ⟨by omega, by omega⟩ (fun c7 => ?_) (fun c7 => absurd c7 (by omega))
    show t_X d 241 157 lv2 [] g Q
    refine t_0 jsu_157 rfl (ld_a l0) ?_
    refine t_0 jsu_158 rfl rfl ?_
    refine t_3 jsu_159 rfl (ar := ([pvR 196, oI 1], [])) (pcal_w (as := [oI 1]) rfl rfl rfl jeo_196) ⟨by omega, Nat.le_of_ble_eq_true rfl, Nat.le_of_ble_eq_true rfl, rfl⟩ ?_
    refine hc _ (by omega) _ (fun g9 h9 => ?_) _ rfl rfl
    obtain ⟨ft9, u9, sa9, wa9, hS9, hC9, hT9, hl9⟩ := h9
    show t_X d 241 162 lv2 [] g9 Q
    refine t_0 jsu_162 rfl rfl ?_
    refine t_5 jsu_163 rfl rfl ?_
    exact hO _ ⟨ft9, u9, sa9, wa9, hS9, hC9, hT9, hl9⟩
theorem su_in {d : Nat} (hd : 2 ≤ d) {g0 : pH} {p k δ : Int} {o v : tC} {π : List (Int × Int)} {g : pH} (hg : jSt g0 g p k o v δ π) {Q : Option pv × pH → Prop} (hF : ∀ QF, jQF d π.length Q QF → jF (d - 1) QF g) : jSu d Q g := by
  intro lv l0
  obtain ⟨ft, u, sa, wa, hS, hC, hT, hl⟩ := hg
  refine t_0 jsu_0 rfl (ld_a l0) ?_
  refine t_0 jsu_1 rfl (pq_cv jeo_196 rfl (show cF g 196 33 = (π.length : Int) from S_f hS 2 (Nat.le_of_ble_eq_true rfl))) ?_
  show t_X d 241 4 lv [oI ((π.length : Int))] g Q
  refine t_2 jsu_4 rfl (w := (px_s1 lv 1 (oI ((π.length : Int))), [])) rfl ?_
  replace l0 : px_lg (px_s1 lv 1 (oI ((π.length : Int)))) 0 = some (pvR 196) := s1_ne (by decide) (fun _ => rfl) l0
  have l1 : px_lg (px_s1 lv 1 (oI ((π.length : Int)))) 1 = some (oI ((π.length : Int))) := s1_eq
  generalize px_s1 lv 1 (oI ((π.length : Int))) = lv1 at l0 l1 ⊢
  show t_X d 241 5 lv1 [] g Q
  refine t_0 jsu_5 rfl (ld_a l0) ?_
  refine t_3 jsu_6 rfl (ar := ([pvR 196], [])) (pcal_w (as := []) rfl rfl rfl jeo_196) ⟨by omega, Nat.le_of_ble_eq_true rfl, Nat.le_of_ble_eq_true rfl, rfl⟩ ?_
  refine hF _ ⟨fun g8 a8 => ?_, fun g8 a8 => ?_⟩ _ rfl
  · show t_X d 241 9 lv1 [oI 1] g8 Q
    refine tz_ne jsu_9 (by decide) ⟨by omega, by omega⟩ (fun c2 => ?_) (fun c2 => absurd c2 (by omega))
    show t_X d 241 14 lv1 [] g8 Q
    exact a8 _ l0 l1
  · show t_X d 241 9 lv1 [oI 0] g8 Q
    refine tz_ne jsu_9 (by decide) ⟨by omega, by omega⟩ (fun c3 => absurd c3 (by omega)) (fun c3 => ?_)
    show t_X d 241 12 lv1 [] g8 Q
    refine t_0 jsu_12 rfl rfl ?_
    refine t_5 jsu_13 rfl rfl ?_
    exact a8
theorem en_s {d : Nat} (hd : 2 ≤ d) {g0 : pH} {B : tC} {n : Int} (hB : jB g0 B n) {p k δ : Int} {o v : tC} (hLP : lP n p k) (hδ : 0 ≤ δ ∧ δ ≤ 7) (hk : k < 240) {π : List (Int × Int)} {g : pH} (hg : jSt g0 g p k o v (δ + 1) ((10, 0) :: π)) {Q : Option pv × pH → Prop} (hQ : ∀ g1, jSt g0 g1 p (k + 1) (updI o k.toNat 10) (updI v k.toNat 0) δ π → jEn d Q g1) : jEn d Q g := by
  intro lv l0
  obtain ⟨ft, u, sa, wa, hS, hC, hT, hl⟩ := hg
  have hLP9 := hLP
  unfold lP at hLP9
  have hl1 : (((10, 0) :: π).length : Int) = (π.length : Int) + 1 := by rw [List.length_cons]; omega
  have eix : ((((10, 0) :: π).length : Int) - 1).toNat = π.length := by omega
  have hn0 := hB.2.2.1
  have hn1 := hB.2.2.2
  have hH : ∀ q, 0 ≤ q → -1 ≤ tH B n q ∧ tH B n q ≤ 255 := fun q hq => tH_b (jp_b hB.2.1) (by omega) hq
  refine t_0 jen_0 rfl (ld_a l0) ?_
  refine t_3 jen_1 rfl (ar := ([pvR 196], [])) (pcal_w (as := []) rfl rfl rfl jeo_196) ⟨by omega, Nat.le_of_ble_eq_true rfl, Nat.le_of_ble_eq_true rfl, rfl⟩ ?_
  refine jt1_run hB hS ⟨by omega, by omega⟩ (q := 10) (y := 0) (by rw [eix]; exact hT.1.1) ⟨by omega, by omega, by omega, by omega⟩ ?_ rfl
  show t_X d 186 4 lv [oI 10] g Q
  refine t_0 jen_4 rfl (pq_b (by decide)) ?_
  refine tb_ne jen_6 (by decide) ⟨by omega, by omega⟩ ⟨by omega, by omega⟩ (fun c1 => absurd c1 (by omega)) (fun c1 => ?_)
  show t_X d 186 9 lv [] g Q
  refine t_0 jen_9 rfl (ld_a l0) ?_
  refine t_0 jen_10 rfl (pq_b (by decide)) ?_
  refine t_0 jen_12 rfl rfl ?_
  refine t_3 jen_13 rfl (ar := ([pvR 196, oI 10, oI 0], [])) (pcal_w (as := [oI 0, oI 10]) rfl rfl rfl jeo_196) ⟨by omega, Nat.le_of_ble_eq_true rfl, Nat.le_of_ble_eq_true rfl, rfl⟩ ?_
  refine jno_run hB hS ⟨by omega, by omega⟩ ⟨by omega, by omega⟩ ⟨by omega, by omega⟩ (fun g2 hS2 => ?_) rfl rfl rfl
  replace hS2 : jS g0 g2 p (k + 1) (((10, 0) :: π).length : Int) (δ + 1) ft u (updI sa k.toNat (1048576 * 10 + 0)) wa := hS2
  show t_X d 186 16 lv [] g2 Q
  refine t_0 jen_16 rfl (ld_a l0) ?_
  refine t_0 jen_17 rfl (ld_a l0) ?_
  refine t_0 jen_18 rfl (pq_cv jeo_196 rfl (show cF g2 196 33 = (((10, 0) :: π).length : Int) from S_f hS2 2 (Nat.le_of_ble_eq_true rfl))) ?_
  show t_X d 186 21 lv [oI ((((10, 0) :: π).length : Int)), pvR 196] g2 Q
  refine t_0 jen_21 rfl rfl ?_
  refine t_0 jen_22 rfl pq_sub ?_
  refine ts_f (n := 2) rfl rfl (by decide) jen_23 rfl jeo_196 hS2 wt_jW_196_33 jgy_196_33 (by decide) ⟨by omega, by omega⟩ (fun g3 hS3 => ?_)
  replace hS3 : jS g0 g3 p (k + 1) ((((10, 0) :: π).length : Int) - 1) (δ + 1) ft u (updI sa k.toNat (1048576 * 10 + 0)) wa := hS3
  show t_X d 186 26 lv [] g3 Q
  refine t_0 jen_26 rfl (ld_a l0) ?_
  refine t_0 jen_27 rfl (ld_a l0) ?_
  refine t_0 jen_28 rfl (pq_cv jeo_196 rfl (show cF g3 196 31 = δ + 1 from S_f hS3 3 (Nat.le_of_ble_eq_true rfl))) ?_
  show t_X d 186 31 lv [oI (δ + 1), pvR 196] g3 Q
  refine t_0 jen_31 rfl rfl ?_
  refine t_0 jen_32 rfl pq_sub ?_
  refine ts_f (n := 3) rfl rfl (by decide) jen_33 rfl jeo_196 hS3 wt_jW_196_31 jgy_196_31 (by decide) ⟨by omega, by omega⟩ (fun g4 hS4 => ?_)
  replace hS4 : jS g0 g4 p (k + 1) ((((10, 0) :: π).length : Int) - 1) ((δ + 1) - 1) ft u (updI sa k.toNat (1048576 * 10 + 0)) wa := hS4
  show t_X d 186 36 lv [] g4 Q
  refine t_1 jen_36 rfl (pb_goto (pc := 36) (by decide)) ?_
  show t_X d 186 0 lv [] g4 Q
  exact hQ _ ⟨ft, u, _, wa, (show jS g0 g4 p (k + 1) (π.length : Int) δ ft u _ wa by rw [show (π.length : Int) = (((10, 0) :: π).length : Int) - 1 by omega]; have h7 := hS4; rw [show δ + 1 - 1 = δ by omega] at h7; exact h7), jC_e (by omega) hC (by omega) (by omega), hT.2, by omega⟩ _ l0
theorem en_0 {d : Nat} (hd : 2 ≤ d) {g0 : pH} {B : tC} {n : Int} (hB : jB g0 B n) {p k δ : Int} {o v : tC} (hLP : lP n p k) (hδ : 0 ≤ δ ∧ δ ≤ 7) {g : pH} (hg : jSt g0 g p k o v δ []) {Q : Option pv × pH → Prop} (hQ : Q (none, g)) : jEn d Q g := by
  intro lv l0
  obtain ⟨ft, u, sa, wa, hS, hC, hT, hl⟩ := hg
  have hn0 := hB.2.2.1
  have hn1 := hB.2.2.2
  have hH : ∀ q, 0 ≤ q → -1 ≤ tH B n q ∧ tH B n q ≤ 255 := fun q hq => tH_b (jp_b hB.2.1) (by omega) hq
  refine t_0 jen_0 rfl (ld_a l0) ?_
  refine t_3 jen_1 rfl (ar := ([pvR 196], [])) (pcal_w (as := []) rfl rfl rfl jeo_196) ⟨by omega, Nat.le_of_ble_eq_true rfl, Nat.le_of_ble_eq_true rfl, rfl⟩ ?_
  refine jt0_run hB (show jS g0 g _ _ 0 _ _ _ _ _ from hS) ?_ rfl
  show t_X d 186 4 lv [oI (-1)] g Q
  refine t_0 jen_4 rfl (pq_b (by decide)) ?_
  refine tb_ne jen_6 (by decide) ⟨by omega, by omega⟩ ⟨by omega, by omega⟩ (fun c1 => ?_) (fun c1 => absurd c1 (by omega))
  show t_X d 186 39 lv [] g Q
  refine t_5 jen_39 rfl rfl ?_
  exact hQ
theorem en_q {d : Nat} (hd : 2 ≤ d) {g0 : pH} {B : tC} {n : Int} (hB : jB g0 B n) {p k δ : Int} {o v : tC} (hLP : lP n p k) (hδ : 0 ≤ δ ∧ δ ≤ 7) {q : Int × Int} (hq : q.1 ≠ 10) {π : List (Int × Int)} {g : pH} (hg : jSt g0 g p k o v δ (q :: π)) {Q : Option pv × pH → Prop} (hQ : Q (none, g)) : jEn d Q g := by
  intro lv l0
  obtain ⟨ft, u, sa, wa, hS, hC, hT, hl⟩ := hg
  have hLP9 := hLP
  unfold lP at hLP9
  have hl1 : ((q :: π).length : Int) = (π.length : Int) + 1 := by rw [List.length_cons]; omega
  have eix : (((q :: π).length : Int) - 1).toNat = π.length := by omega
  have hq9 := hT.1
  have hn0 := hB.2.2.1
  have hn1 := hB.2.2.2
  have hH : ∀ q, 0 ≤ q → -1 ≤ tH B n q ∧ tH B n q ≤ 255 := fun q hq => tH_b (jp_b hB.2.1) (by omega) hq
  refine t_0 jen_0 rfl (ld_a l0) ?_
  refine t_3 jen_1 rfl (ar := ([pvR 196], [])) (pcal_w (as := []) rfl rfl rfl jeo_196) ⟨by omega, Nat.le_of_ble_eq_true rfl, Nat.le_of_ble_eq_true rfl, rfl⟩ ?_
  refine jt1_run hB hS ⟨by omega, by omega⟩ (q := q.1) (y := q.2) (by rw [eix]; exact hT.1.1) ⟨by omega, by omega, by omega, by omega⟩ ?_ rfl
  show t_X d 186 4 lv [oI (q.1)] g Q
  refine t_0 jen_4 rfl (pq_b (by decide)) ?_
  refine tb_ne jen_6 (by decide) ⟨by omega, by omega⟩ ⟨by omega, by omega⟩ (fun c1 => ?_) (fun c1 => absurd c1 (by omega))
  show t_X d 186 39 lv [] g Q
  refine t_5 jen_39 rfl rfl ?_
  exact hQ
set_option maxHeartbeats 1000000 in
theorem ln_A {d : Nat} (hd : 2 ≤ d) {g0 : pH} {B : tC} {n : Int} (hB : jB g0 B n) {p k δ : Int} {o v : tC} (hLP : lP n p k) (hδ : 0 ≤ δ ∧ δ ≤ 7) {a q y : Int} (hq0 : q = 11) (hy : 0 ≤ y ∧ y < k) (hk : k ≤ 240) {π : List (Int × Int)} {g : pH} (hg : jSt g0 g p k o (updI v y.toNat 0) δ ((q, y) :: π)) (hv : v y.toNat = k) {Q : Option pv × pH → Prop} (hQ : ∀ g1, jSt g0 g1 p k o v δ π → jLn d a Q g1) : jLn d a Q g := by
  intro lv l0 l1
  obtain ⟨ft, u, sa, wa, hS, hC, hT, hl⟩ := hg
  have hLP9 := hLP
  unfold lP at hLP9
  have hl1 : (((q, y) :: π).length : Int) = (π.length : Int) + 1 := by rw [List.length_cons]; omega
  have eix : ((((q, y) :: π).length : Int) - 1).toNat = π.length := by omega
  have hq : wa ((((q, y) :: π).length : Int) - 1).toNat = 1048576 * q + y := by rw [eix]; exact hT.1.1
  obtain ⟨a1, b1, hsa, ha1, hb1, ea1⟩ : ∃ a1 b1 : Int, sa y.toNat = 1048576 * a1 + b1 ∧ (0 ≤ a1 ∧ a1 ≤ 12) ∧ (0 ≤ b1 ∧ b1 ≤ 100000) ∧ a1 = o y.toNat := by
    have h5 := hC y.toNat (by omega)
    exact ⟨_, _, h5.1, ⟨h5.2.1, h5.2.2.1⟩, ⟨h5.2.2.2.1, h5.2.2.2.2⟩, rfl⟩
  have hn0 := hB.2.2.1
  have hn1 := hB.2.2.2
  have hH : ∀ q, 0 ≤ q → -1 ≤ tH B n q ∧ tH B n q ≤ 255 := fun q hq => tH_b (jp_b hB.2.1) (by omega) hq
  refine t_0 jla_0 rfl (ld_a l0) ?_
  refine t_3 jla_1 rfl (ar := ([pvR 196], [])) (pcal_w (as := []) rfl rfl rfl jeo_196) ⟨by omega, Nat.le_of_ble_eq_true rfl, Nat.le_of_ble_eq_true rfl, rfl⟩ ?_
  refine jt1_run hB hS ⟨by omega, by omega⟩ (q := q) (y := y) (by rw [eix]; exact hT.1.1) ⟨by omega, by omega, by omega, by omega⟩ ?_ rfl
  show t_X d 212 4 lv [oI (q)] g Q
  refine t_0 jla_4 rfl (pq_b (by decide)) ?_
  refine tb_eq jla_6 (by decide) ⟨by omega, by omega⟩ ⟨by omega, by omega⟩ (fun c1 => ?_) (fun c1 => absurd c1 (by omega))
  show t_X d 212 22 lv [] g Q
  refine t_0 jla_22 rfl (ld_a l0) ?_
  refine t_0 jla_23 rfl (jcq_196_37 (S_J hS).1) ?_
  show t_X d 212 26 lv [pvR 217] g Q
  refine t_0 jla_26 rfl (ld_a l0) ?_
  refine t_0 jla_27 rfl (pq_cv jeo_196 rfl (show cF g 196 33 = (((q, y) :: π).length : Int) from S_f hS 2 (Nat.le_of_ble_eq_true rfl))) ?_
  show t_X d 212 30 lv [oI ((((q, y) :: π).length : Int)), pvR 217] g Q
  refine t_0 jla_30 rfl rfl ?_
  refine t_0 jla_31 rfl pq_sub ?_
  have x2 : wa ((((q, y) :: π).length : Int) - 1).toNat = 1048576 * q + y := hq
  refine t_0 jla_32 rfl (pq_iv jez_217 rfl ⟨by omega, by omega⟩ (show fA g 217 = wa from S_a hS 1 (Nat.le_of_ble_eq_true rfl))) ?_
  rw [x2]
  show t_X d 212 33 lv [oI (1048576 * q + y)] g Q
  refine t_0 jla_33 rfl (pq_cw (n := 1048576) (by decide +kernel)) ?_
  refine t_0 jla_36 rfl (pq_rem ⟨by omega, by omega⟩ ⟨by omega, by omega⟩) ?_
  rw [show (1048576 * q + y) % 1048576 = y by omega]
  show t_X d 212 37 lv [oI (y)] g Q
  refine t_2 jla_37 rfl (w := (px_s1 lv 2 (oI (y)), [])) rfl ?_
  replace l0 : px_lg (px_s1 lv 2 (oI (y))) 0 = some (pvR 196) := s1_ne (by decide) (fun _ => rfl) l0
  replace l1 : px_lg (px_s1 lv 2 (oI (y))) 1 = some (oI (a)) := s1_ne (by decide) (fun _ => rfl) l1
  have l2 : px_lg (px_s1 lv 2 (oI (y))) 2 = some (oI (y)) := s1_eq
  generalize px_s1 lv 2 (oI (y)) = lv3 at l0 l1 l2 ⊢
  show t_X d 212 38 lv3 [] g Q
  refine t_0 jla_38 rfl (ld_a l0) ?_
  refine t_0 jla_39 rfl (jcq_196_36 (S_J hS).1) ?_
  show t_X d 212 42 lv3 [pvR 216] g Q
  refine t_0 jla_42 rfl (ld_i l2) ?_
  refine t_0 jla_43 rfl (pq_cw (n := 1048576) (by decide +kernel)) ?_
  refine t_0 jla_46 rfl (ld_a l0) ?_
  refine t_0 jla_47 rfl (jcq_196_36 (S_J hS).1) ?_
  show t_X d 212 50 lv3 [pvR 216, oI 1048576, oI (y), pvR 216] g Q
  refine t_0 jla_50 rfl (ld_i l2) ?_
  have x4 : sa (y).toNat = 1048576 * a1 + b1 := hsa
  refine t_0 jla_51 rfl (pq_iv jez_216 rfl ⟨by omega, by omega⟩ (show fA g 216 = sa from S_a hS 0 (Nat.le_of_ble_eq_true rfl))) ?_
  rw [x4]
  show t_X d 212 52 lv3 [oI (1048576 * a1 + b1), oI 1048576, oI (y), pvR 216] g Q
  refine t_0 jla_52 rfl (pq_cw (n := 1048576) (by decide +kernel)) ?_
  refine t_0 jla_55 rfl (pq_div ⟨by omega, by omega⟩ ⟨by omega, by omega⟩) ?_
  rw [show (1048576 * a1 + b1) / 1048576 = a1 by omega]
  show t_X d 212 56 lv3 [oI (a1), oI 1048576, oI (y), pvR 216] g Q
  refine t_0 jla_56 rfl pq_mul ?_
  refine t_0 jla_57 rfl (ld_a l0) ?_
  refine t_0 jla_58 rfl (pq_cv jeo_196 rfl (show cF g 196 32 = k from S_f hS 1 (Nat.le_of_ble_eq_true rfl))) ?_
  show t_X d 212 61 lv3 [oI (k), oI (1048576 * a1), oI (y), pvR 216] g Q
  refine t_0 jla_61 rfl pq_add ?_
  refine ts_a (n := 0) rfl rfl (by decide) jla_62 hS jez_216 rfl wu_jW_216 jgu_216 (by decide) ⟨by omega, by omega⟩ ⟨by omega, by omega⟩ (fun g5 hS5 => ?_)
  replace hS5 : jS g0 g5 p k (((q, y) :: π).length : Int) δ ft u (updI sa y.toNat ((1048576 * a1) + k)) wa := hS5
  show t_X d 212 63 lv3 [] g5 Q
  refine t_0 jla_63 rfl (ld_a l0) ?_
  refine t_0 jla_64 rfl (ld_a l0) ?_
  refine t_0 jla_65 rfl (pq_cv jeo_196 rfl (show cF g5 196 33 = (((q, y) :: π).length : Int) from S_f hS5 2 (Nat.le_of_ble_eq_true rfl))) ?_
  show t_X d 212 68 lv3 [oI ((((q, y) :: π).length : Int)), pvR 196] g5 Q
  refine t_0 jla_68 rfl rfl ?_
  refine t_0 jla_69 rfl pq_sub ?_
  refine ts_f (n := 2) rfl rfl (by decide) jla_70 rfl jeo_196 hS5 wt_jW_196_33 jgy_196_33 (by decide) ⟨by omega, by omega⟩ (fun g6 hS6 => ?_)
  replace hS6 : jS g0 g6 p k ((((q, y) :: π).length : Int) - 1) δ ft u (updI sa y.toNat ((1048576 * a1) + k)) wa := hS6
  show t_X d 212 73 lv3 [] g6 Q
  refine t_1 jla_73 rfl (pb_goto (pc := 73) (by decide)) ?_
  show t_X d 212 0 lv3 [] g6 Q
  refine hQ _ ⟨ft, u, _, wa, (show jS g0 g6 p k (π.length : Int) δ ft u _ wa by rw [show (π.length : Int) = (((q, y) :: π).length : Int) - 1 by omega]; exact hS6), (fun j hj => ?_), hT.2, by omega⟩ _ l0 l1
  have h5 := hC j hj
  unfold updI at h5 ⊢
  by_cases e : j = y.toNat
  · rw [if_pos e, e, hv]; have h6 := hC y.toNat (by omega); omega
  · rw [if_neg e] at h5 ⊢; exact h5
set_option maxHeartbeats 1000000 in
theorem ln_B {d : Nat} (hd : 2 ≤ d) {g0 : pH} {B : tC} {n : Int} (hB : jB g0 B n) {p k δ : Int} {o v : tC} (hLP : lP n p k) (hδ : 0 ≤ δ ∧ δ ≤ 7) {a q y : Int} (hq0 : q = 12) (hy : 0 ≤ y ∧ y < k) (hk : k ≤ 240) {π : List (Int × Int)} {g : pH} (hg : jSt g0 g p k o (updI v y.toNat 0) δ ((q, y) :: π)) (hv : v y.toNat = k) {Q : Option pv × pH → Prop} (hQ : ∀ g1, jSt g0 g1 p k o v δ π → jLn d 1 Q g1) : jLn d 1 Q g := by
  intro lv l0 l1
  obtain ⟨ft, u, sa, wa, hS, hC, hT, hl⟩ := hg
  have hLP9 := hLP
  unfold lP at hLP9
  have hl1 : (((q, y) :: π).length : Int) = (π.length : Int) + 1 := by rw [List.length_cons]; omega
  have eix : ((((q, y) :: π).length : Int) - 1).toNat = π.length := by omega
  have hq : wa ((((q, y) :: π).length : Int) - 1).toNat = 1048576 * q + y := by rw [eix]; exact hT.1.1
  obtain ⟨a1, b1, hsa, ha1, hb1, ea1⟩ : ∃ a1 b1 : Int, sa y.toNat = 1048576 * a1 + b1 ∧ (0 ≤ a1 ∧ a1 ≤ 12) ∧ (0 ≤ b1 ∧ b1 ≤ 100000) ∧ a1 = o y.toNat := by
    have h5 := hC y.toNat (by omega)
    exact ⟨_, _, h5.1, ⟨h5.2.1, h5.2.2.1⟩, ⟨h5.2.2.2.1, h5.2.2.2.2⟩, rfl⟩
  have hn0 := hB.2.2.1
  have hn1 := hB.2.2.2
  have hH : ∀ q, 0 ≤ q → -1 ≤ tH B n q ∧ tH B n q ≤ 255 := fun q hq => tH_b (jp_b hB.2.1) (by omega) hq
  refine t_0 jla_0 rfl (ld_a l0) ?_
  refine t_3 jla_1 rfl (ar := ([pvR 196], [])) (pcal_w (as := []) rfl rfl rfl jeo_196) ⟨by omega, Nat.le_of_ble_eq_true rfl, Nat.le_of_ble_eq_true rfl, rfl⟩ ?_
  refine jt1_run hB hS ⟨by omega, by omega⟩ (q := q) (y := y) (by rw [eix]; exact hT.1.1) ⟨by omega, by omega, by omega, by omega⟩ ?_ rfl
  show t_X d 212 4 lv [oI (q)] g Q
  refine t_0 jla_4 rfl (pq_b (by decide)) ?_
  refine tb_eq jla_6 (by decide) ⟨by omega, by omega⟩ ⟨by omega, by omega⟩ (fun c1 => absurd c1 (by omega)) (fun c1 => ?_)
  show t_X d 212 9 lv [] g Q
  refine t_0 jla_9 rfl (ld_i l1) ?_
  refine tz_eq jla_10 (by decide) ⟨by omega, by omega⟩ (fun c2 => absurd c2 (by omega)) (fun c2 => ?_)
  show t_X d 212 13 lv [] g Q
  refine t_0 jla_13 rfl (ld_a l0) ?_
  refine t_3 jla_14 rfl (ar := ([pvR 196], [])) (pcal_w (as := []) rfl rfl rfl jeo_196) ⟨by omega, Nat.le_of_ble_eq_true rfl, Nat.le_of_ble_eq_true rfl, rfl⟩ ?_
  refine jt1_run hB hS ⟨by omega, by omega⟩ (q := q) (y := y) (by rw [eix]; exact hT.1.1) ⟨by omega, by omega, by omega, by omega⟩ ?_ rfl
  show t_X d 212 17 lv [oI (q)] g Q
  refine t_0 jla_17 rfl (pq_b (by decide)) ?_
  refine tb_ne jla_19 (by decide) ⟨by omega, by omega⟩ ⟨by omega, by omega⟩ (fun c3 => absurd c3 (by omega)) (fun c3 => ?_)
  show t_X d 212 22 lv [] g Q
  refine t_0 jla_22 rfl (ld_a l0) ?_
  refine t_0 jla_23 rfl (jcq_196_37 (S_J hS).1) ?_
  show t_X d 212 26 lv [pvR 217] g Q
  refine t_0 jla_26 rfl (ld_a l0) ?_
  refine t_0 jla_27 rfl (pq_cv jeo_196 rfl (show cF g 196 33 = (((q, y) :: π).length : Int) from S_f hS 2 (Nat.le_of_ble_eq_true rfl))) ?_
  show t_X d 212 30 lv [oI ((((q, y) :: π).length : Int)), pvR 217] g Q
  refine t_0 jla_30 rfl rfl ?_
  refine t_0 jla_31 rfl pq_sub ?_
  have x4 : wa ((((q, y) :: π).length : Int) - 1).toNat = 1048576 * q + y := hq
  refine t_0 jla_32 rfl (pq_iv jez_217 rfl ⟨by omega, by omega⟩ (show fA g 217 = wa from S_a hS 1 (Nat.le_of_ble_eq_true rfl))) ?_
  rw [x4]
  show t_X d 212 33 lv [oI (1048576 * q + y)] g Q
  refine t_0 jla_33 rfl (pq_cw (n := 1048576) (by decide +kernel)) ?_
  refine t_0 jla_36 rfl (pq_rem ⟨by omega, by omega⟩ ⟨by omega, by omega⟩) ?_
  rw [show (1048576 * q + y) % 1048576 = y by omega]
  show t_X d 212 37 lv [oI (y)] g Q
  refine t_2 jla_37 rfl (w := (px_s1 lv 2 (oI (y)), [])) rfl ?_
  replace l0 : px_lg (px_s1 lv 2 (oI (y))) 0 = some (pvR 196) := s1_ne (by decide) (fun _ => rfl) l0
  replace l1 : px_lg (px_s1 lv 2 (oI (y))) 1 = some (oI 1) := s1_ne (by decide) (fun _ => rfl) l1
  have l2 : px_lg (px_s1 lv 2 (oI (y))) 2 = some (oI (y)) := s1_eq
  generalize px_s1 lv 2 (oI (y)) = lv5 at l0 l1 l2 ⊢
  show t_X d 212 38 lv5 [] g Q
  refine t_0 jla_38 rfl (ld_a l0) ?_
  refine t_0 jla_39 rfl (jcq_196_36 (S_J hS).1) ?_
  show t_X d 212 42 lv5 [pvR 216] g Q
  refine t_0 jla_42 rfl (ld_i l2) ?_
  refine t_0 jla_43 rfl (pq_cw (n := 1048576) (by decide +kernel)) ?_
  refine t_0 jla_46 rfl (ld_a l0) ?_
  refine t_0 jla_47 rfl (jcq_196_36 (S_J hS).1) ?_
  show t_X d 212 50 lv5 [pvR 216, oI 1048576, oI (y), pvR 216] g Q
  refine t_0 jla_50 rfl (ld_i l2) ?_
  have x6 : sa (y).toNat = 1048576 * a1 + b1 := hsa
  refine t_0 jla_51 rfl (pq_iv jez_216 rfl ⟨by omega, by omega⟩ (show fA g 216 = sa from S_a hS 0 (Nat.le_of_ble_eq_true rfl))) ?_
  rw [x6]
  show t_X d 212 52 lv5 [oI (1048576 * a1 + b1), oI 1048576, oI (y), pvR 216] g Q
  refine t_0 jla_52 rfl (pq_cw (n := 1048576) (by decide +kernel)) ?_
  refine t_0 jla_55 rfl (pq_div ⟨by omega, by omega⟩ ⟨by omega, by omega⟩) ?_
  rw [show (1048576 * a1 + b1) / 1048576 = a1 by omega]
  show t_X d 212 56 lv5 [oI (a1), oI 1048576, oI (y), pvR 216] g Q
  refine t_0 jla_56 rfl pq_mul ?_
  refine t_0 jla_57 rfl (ld_a l0) ?_
  refine t_0 jla_58 rfl (pq_cv jeo_196 rfl (show cF g 196 32 = k from S_f hS 1 (Nat.le_of_ble_eq_true rfl))) ?_
  show t_X d 212 61 lv5 [oI (k), oI (1048576 * a1), oI (y), pvR 216] g Q
  refine t_0 jla_61 rfl pq_add ?_
  refine ts_a (n := 0) rfl rfl (by decide) jla_62 hS jez_216 rfl wu_jW_216 jgu_216 (by decide) ⟨by omega, by omega⟩ ⟨by omega, by omega⟩ (fun g7 hS7 => ?_)
  replace hS7 : jS g0 g7 p k (((q, y) :: π).length : Int) δ ft u (updI sa y.toNat ((1048576 * a1) + k)) wa := hS7
  show t_X d 212 63 lv5 [] g7 Q
  refine t_0 jla_63 rfl (ld_a l0) ?_
  refine t_0 jla_64 rfl (ld_a l0) ?_
  refine t_0 jla_65 rfl (pq_cv jeo_196 rfl (show cF g7 196 33 = (((q, y) :: π).length : Int) from S_f hS7 2 (Nat.le_of_ble_eq_true rfl))) ?_
  show t_X d 212 68 lv5 [oI ((((q, y) :: π).length : Int)), pvR 196] g7 Q
  refine t_0 jla_68 rfl rfl ?_
  refine t_0 jla_69 rfl pq_sub ?_
  refine ts_f (n := 2) rfl rfl (by decide) jla_70 rfl jeo_196 hS7 wt_jW_196_33 jgy_196_33 (by decide) ⟨by omega, by omega⟩ (fun g8 hS8 => ?_)
  replace hS8 : jS g0 g8 p k ((((q, y) :: π).length : Int) - 1) δ ft u (updI sa y.toNat ((1048576 * a1) + k)) wa := hS8
  show t_X d 212 73 lv5 [] g8 Q
  refine t_1 jla_73 rfl (pb_goto (pc := 73) (by decide)) ?_
  show t_X d 212 0 lv5 [] g8 Q
  refine hQ _ ⟨ft, u, _, wa, (show jS g0 g8 p k (π.length : Int) δ ft u _ wa by rw [show (π.length : Int) = (((q, y) :: π).length : Int) - 1 by omega]; exact hS8), (fun j hj => ?_), hT.2, by omega⟩ _ l0 l1
  have h5 := hC j hj
  unfold updI at h5 ⊢
  by_cases e : j = y.toNat
  · rw [if_pos e, e, hv]; have h6 := hC y.toNat (by omega); omega
  · rw [if_neg e] at h5 ⊢; exact h5
theorem ln_Z0 {d : Nat} (hd : 2 ≤ d) {g0 : pH} {B : tC} {n : Int} (hB : jB g0 B n) {p k δ : Int} {o v : tC} (hLP : lP n p k) (hδ : 0 ≤ δ ∧ δ ≤ 7) {g : pH} (hg : jSt g0 g p k o v δ []) {Q : Option pv × pH → Prop} (hQ : Q (none, g)) : jLn d 0 Q g := by
  intro lv l0 l1
  obtain ⟨ft, u, sa, wa, hS, hC, hT, hl⟩ := hg
  have hn0 := hB.2.2.1
  have hn1 := hB.2.2.2
  have hH : ∀ q, 0 ≤ q → -1 ≤ tH B n q ∧ tH B n q ≤ 255 := fun q hq => tH_b (jp_b hB.2.1) (by omega) hq
  refine t_0 jla_0 rfl (ld_a l0) ?_
  refine t_3 jla_1 rfl (ar := ([pvR 196], [])) (pcal_w (as := []) rfl rfl rfl jeo_196) ⟨by omega, Nat.le_of_ble_eq_true rfl, Nat.le_of_ble_eq_true rfl, rfl⟩ ?_
  refine jt0_run hB (show jS g0 g _ _ 0 _ _ _ _ _ from hS) ?_ rfl
  show t_X d 212 4 lv [oI (-1)] g Q
  refine t_0 jla_4 rfl (pq_b (by decide)) ?_
  refine tb_eq jla_6 (by decide) ⟨by omega, by omega⟩ ⟨by omega, by omega⟩ (fun c1 => absurd c1 (by omega)) (fun c1 => ?_)
  show t_X d 212 9 lv [] g Q
  refine t_0 jla_9 rfl (ld_i l1) ?_
  refine tz_eq jla_10 (by decide) ⟨by omega, by omega⟩ (fun c2 => ?_) (fun c2 => absurd c2 (by omega))
  show t_X d 212 76 lv [] g Q
  refine t_5 jla_76 rfl rfl ?_
  exact hQ
theorem ln_N0 {d : Nat} (hd : 2 ≤ d) {g0 : pH} {B : tC} {n : Int} (hB : jB g0 B n) {p k δ : Int} {o v : tC} (hLP : lP n p k) (hδ : 0 ≤ δ ∧ δ ≤ 7) {q : Int × Int} (hq : q.1 = 13 ∨ q.1 = 12) {π : List (Int × Int)} {g : pH} (hg : jSt g0 g p k o v δ (q :: π)) {Q : Option pv × pH → Prop} (hQ : Q (none, g)) : jLn d 0 Q g := by
  intro lv l0 l1
  obtain ⟨ft, u, sa, wa, hS, hC, hT, hl⟩ := hg
  have hLP9 := hLP
  unfold lP at hLP9
  have hl1 : ((q :: π).length : Int) = (π.length : Int) + 1 := by rw [List.length_cons]; omega
  have eix : (((q :: π).length : Int) - 1).toNat = π.length := by omega
  have hq9 := hT.1
  have hn0 := hB.2.2.1
  have hn1 := hB.2.2.2
  have hH : ∀ q, 0 ≤ q → -1 ≤ tH B n q ∧ tH B n q ≤ 255 := fun q hq => tH_b (jp_b hB.2.1) (by omega) hq
  refine t_0 jla_0 rfl (ld_a l0) ?_
  refine t_3 jla_1 rfl (ar := ([pvR 196], [])) (pcal_w (as := []) rfl rfl rfl jeo_196) ⟨by omega, Nat.le_of_ble_eq_true rfl, Nat.le_of_ble_eq_true rfl, rfl⟩ ?_
  refine jt1_run hB hS ⟨by omega, by omega⟩ (q := q.1) (y := q.2) (by rw [eix]; exact hT.1.1) ⟨by omega, by omega, by omega, by omega⟩ ?_ rfl
  show t_X d 212 4 lv [oI (q.1)] g Q
  refine t_0 jla_4 rfl (pq_b (by decide)) ?_
  refine tb_eq jla_6 (by decide) ⟨by omega, by omega⟩ ⟨by omega, by omega⟩ (fun c1 => absurd c1 (by omega)) (fun c1 => ?_)
  show t_X d 212 9 lv [] g Q
  refine t_0 jla_9 rfl (ld_i l1) ?_
  refine tz_eq jla_10 (by decide) ⟨by omega, by omega⟩ (fun c2 => ?_) (fun c2 => absurd c2 (by omega))
  show t_X d 212 76 lv [] g Q
  refine t_5 jla_76 rfl rfl ?_
  exact hQ
theorem ln_Z1 {d : Nat} (hd : 2 ≤ d) {g0 : pH} {B : tC} {n : Int} (hB : jB g0 B n) {p k δ : Int} {o v : tC} (hLP : lP n p k) (hδ : 0 ≤ δ ∧ δ ≤ 7) {g : pH} (hg : jSt g0 g p k o v δ []) {Q : Option pv × pH → Prop} (hQ : Q (none, g)) : jLn d 1 Q g := by
  intro lv l0 l1
  obtain ⟨ft, u, sa, wa, hS, hC, hT, hl⟩ := hg
  have hn0 := hB.2.2.1
  have hn1 := hB.2.2.2
  have hH : ∀ q, 0 ≤ q → -1 ≤ tH B n q ∧ tH B n q ≤ 255 := fun q hq => tH_b (jp_b hB.2.1) (by omega) hq
  refine t_0 jla_0 rfl (ld_a l0) ?_
  refine t_3 jla_1 rfl (ar := ([pvR 196], [])) (pcal_w (as := []) rfl rfl rfl jeo_196) ⟨by omega, Nat.le_of_ble_eq_true rfl, Nat.le_of_ble_eq_true rfl, rfl⟩ ?_
  refine jt0_run hB (show jS g0 g _ _ 0 _ _ _ _ _ from hS) ?_ rfl
  show t_X d 212 4 lv [oI (-1)] g Q
  refine t_0 jla_4 rfl (pq_b (by decide)) ?_
  refine tb_eq jla_6 (by decide) ⟨by omega, by omega⟩ ⟨by omega, by omega⟩ (fun c1 => absurd c1 (by omega)) (fun c1 => ?_)
  show t_X d 212 9 lv [] g Q
  refine t_0 jla_9 rfl (ld_i l1) ?_
  refine tz_eq jla_10 (by decide) ⟨by omega, by omega⟩ (fun c2 => absurd c2 (by omega)) (fun c2 => ?_)
  show t_X d 212 13 lv [] g Q
  refine t_0 jla_13 rfl (ld_a l0) ?_
  refine t_3 jla_14 rfl (ar := ([pvR 196], [])) (pcal_w (as := []) rfl rfl rfl jeo_196) ⟨by omega, Nat.le_of_ble_eq_true rfl, Nat.le_of_ble_eq_true rfl, rfl⟩ ?_
  refine jt0_run hB (show jS g0 g _ _ 0 _ _ _ _ _ from hS) ?_ rfl
  show t_X d 212 17 lv [oI (-1)] g Q
  refine t_0 jla_17 rfl (pq_b (by decide)) ?_
  refine tb_ne jla_19 (by decide) ⟨by omega, by omega⟩ ⟨by omega, by omega⟩ (fun c3 => ?_) (fun c3 => absurd c3 (by omega))
  show t_X d 212 76 lv [] g Q
  refine t_5 jla_76 rfl rfl ?_
  exact hQ
theorem ln_N1 {d : Nat} (hd : 2 ≤ d) {g0 : pH} {B : tC} {n : Int} (hB : jB g0 B n) {p k δ : Int} {o v : tC} (hLP : lP n p k) (hδ : 0 ≤ δ ∧ δ ≤ 7) {q : Int × Int} (hq : q.1 = 13) {π : List (Int × Int)} {g : pH} (hg : jSt g0 g p k o v δ (q :: π)) {Q : Option pv × pH → Prop} (hQ : Q (none, g)) : jLn d 1 Q g := by
  intro lv l0 l1
  obtain ⟨ft, u, sa, wa, hS, hC, hT, hl⟩ := hg
  have hLP9 := hLP
  unfold lP at hLP9
  have hl1 : ((q :: π).length : Int) = (π.length : Int) + 1 := by rw [List.length_cons]; omega
  have eix : (((q :: π).length : Int) - 1).toNat = π.length := by omega
  have hq9 := hT.1
  have hn0 := hB.2.2.1
  have hn1 := hB.2.2.2
  have hH : ∀ q, 0 ≤ q → -1 ≤ tH B n q ∧ tH B n q ≤ 255 := fun q hq => tH_b (jp_b hB.2.1) (by omega) hq
  refine t_0 jla_0 rfl (ld_a l0) ?_
  refine t_3 jla_1 rfl (ar := ([pvR 196], [])) (pcal_w (as := []) rfl rfl rfl jeo_196) ⟨by omega, Nat.le_of_ble_eq_true rfl, Nat.le_of_ble_eq_true rfl, rfl⟩ ?_
  refine jt1_run hB hS ⟨by omega, by omega⟩ (q := q.1) (y := q.2) (by rw [eix]; exact hT.1.1) ⟨by omega, by omega, by omega, by omega⟩ ?_ rfl
  show t_X d 212 4 lv [oI (q.1)] g Q
  refine t_0 jla_4 rfl (pq_b (by decide)) ?_
  refine tb_eq jla_6 (by decide) ⟨by omega, by omega⟩ ⟨by omega, by omega⟩ (fun c1 => absurd c1 (by omega)) (fun c1 => ?_)
  show t_X d 212 9 lv [] g Q
  refine t_0 jla_9 rfl (ld_i l1) ?_
  refine tz_eq jla_10 (by decide) ⟨by omega, by omega⟩ (fun c2 => absurd c2 (by omega)) (fun c2 => ?_)
  show t_X d 212 13 lv [] g Q
  refine t_0 jla_13 rfl (ld_a l0) ?_
  refine t_3 jla_14 rfl (ar := ([pvR 196], [])) (pcal_w (as := []) rfl rfl rfl jeo_196) ⟨by omega, Nat.le_of_ble_eq_true rfl, Nat.le_of_ble_eq_true rfl, rfl⟩ ?_
  refine jt1_run hB hS ⟨by omega, by omega⟩ (q := q.1) (y := q.2) (by rw [eix]; exact hT.1.1) ⟨by omega, by omega, by omega, by omega⟩ ?_ rfl
  show t_X d 212 17 lv [oI (q.1)] g Q
  refine t_0 jla_17 rfl (pq_b (by decide)) ?_
  refine tb_ne jla_19 (by decide) ⟨by omega, by omega⟩ ⟨by omega, by omega⟩ (fun c3 => ?_) (fun c3 => absurd c3 (by omega))
  show t_X d 212 76 lv [] g Q
  refine t_5 jla_76 rfl rfl ?_
  exact hQ
theorem ln_st {d : Nat} (hd : 2 ≤ d) {g0 : pH} {B : tC} {n : Int} (hB : jB g0 B n) {p k δ : Int} {o v : tC} (hLP : lP n p k) (hδ : 0 ≤ δ ∧ δ ≤ 7) {a : Int} (ha : a = 0 ∨ a = 1) {π : List (Int × Int)} (hs : tLp a π) {g : pH} (hg : jSt g0 g p k o v δ π) {Q : Option pv × pH → Prop} (hQ : Q (none, g)) : jLn d a Q g := by
  rcases π with _ | ⟨q, π⟩
  · rcases ha with rfl | rfl
    · exact ln_Z0 hd hB hLP hδ hg hQ
    · exact ln_Z1 hd hB hLP hδ hg hQ
  · rcases hs with hs | ⟨h1, hs⟩
    · rcases ha with rfl | rfl
      · exact ln_N0 hd hB hLP hδ (Or.inl hs) hg hQ
      · exact ln_N1 hd hB hLP hδ hs hg hQ
    · subst h1
      exact ln_N0 hd hB hLP hδ (Or.inr hs) hg hQ
theorem le_0 {g0 : pH} {B : tC} {n : Int} (hB : jB g0 B n) {p k δ : Int} {o v : tC} (hLP : lP n p k) (hδ : 0 ≤ δ ∧ δ ≤ 7) {a : Int} (ha : a = 0 ∨ a = 1) {π : List (Int × Int)} (hs : tLp a π) {g : pH} (hg : jSt g0 g p k o v δ π) : jLe g0 a p k o v δ π g := ⟨⟨[], v, hg⟩, fun d hd Q hQ => ln_st hd hB hLP hδ ha hs hg (hQ g hg)⟩
theorem le_1 {g0 : pH} {B : tC} {n : Int} (hB : jB g0 B n) {p k δ : Int} {o v : tC} (hLP : lP n p k) (hδ : 0 ≤ δ ∧ δ ≤ 7) {a q y : Int} (ha : a = 0 ∨ a = 1) (hq : q = 11 ∨ (a = 1 ∧ q = 12)) (hy : 0 ≤ y ∧ y < k) {π : List (Int × Int)} (hs : tLp a π) (hv : v y.toNat = k) {g : pH} (hg : jSt g0 g p k o (updI v y.toNat 0) δ ((q, y) :: π)) : jLe g0 a p k o v δ π g := by
  have h9 := hB.2.2.2
  have h8 : k ≤ 240 := by unfold lP at hLP; omega
  refine ⟨⟨[(q, y)], _, hg⟩, fun d hd Q hQ => ?_⟩
  have fin : ∀ g1, jSt g0 g1 p k o v δ π → jLn d a Q g1 := fun g1 h1 => ln_st hd hB hLP hδ ha hs h1 (hQ g1 h1)
  rcases hq with hq | ⟨rfl, hq⟩
  · exact ln_A hd hB hLP hδ hq hy h8 hg hv fin
  · exact ln_B (a := 1) hd hB hLP hδ hq hy h8 hg hv fin
theorem le_2 {g0 : pH} {B : tC} {n : Int} (hB : jB g0 B n) {p k δ : Int} {o v : tC} (hLP : lP n p k) (hδ : 0 ≤ δ ∧ δ ≤ 7) {y z : Int} (hy : 0 ≤ y ∧ y < k) (hz : 0 ≤ z ∧ z < k) {π : List (Int × Int)} (hs : tLp 1 π) (hv : v y.toNat = k) (hvz : v z.toNat = k) (hyz : y ≠ z) {g : pH} (hg : jSt g0 g p k o (updI (updI v z.toNat 0) y.toNat 0) δ ((11, y) :: (12, z) :: π)) : jLe g0 1 p k o v δ π g := by
  have h9 := hB.2.2.2
  have h8 : k ≤ 240 := by unfold lP at hLP; omega
  refine ⟨⟨[(11, y), (12, z)], _, hg⟩, fun d hd Q hQ => ?_⟩
  refine ln_A hd hB hLP hδ rfl hy h8 hg (by unfold updI; rw [if_neg (by omega)]; exact hv) (fun g1 h1 => ?_)
  exact ln_B (a := 1) hd hB hLP hδ rfl hz h8 h1 hvz (fun g2 h2 => ln_st hd hB hLP hδ (Or.inr rfl) hs h2 (hQ g2 h2))
set_option maxHeartbeats 1000000 in
theorem cm_1 {d : Nat} (hd : 8 ≤ d) {g0 : pH} {B : tC} {n : Int} (hB : jB g0 B n) {p k δ : Int} {o v : tC} (hLP : lP n p k) (hδ : 0 ≤ δ ∧ δ ≤ 7) {π : List (Int × Int)} {g : pH} {Q : Option pv × pH → Prop} {f : Int} (h1 : ∀ Q1, jOK g0 Q1 f → jSu (d - 1) Q1 g) (hQ : jOK g0 Q f) : jCm d Q g := by
  intro lv l0
  have hn0 := hB.2.2.1
  have hn1 := hB.2.2.2
  have hH : ∀ q, 0 ≤ q → -1 ≤ tH B n q ∧ tH B n q ≤ 255 := fun q hq => tH_b (jp_b hB.2.1) (by omega) hq
  refine t_0 jcm_0 rfl (ld_a l0) ?_
  refine t_3 jcm_1 rfl (ar := ([pvR 196], [])) (pcal_w (as := []) rfl rfl rfl jeo_196) ⟨by omega, Nat.le_of_ble_eq_true rfl, Nat.le_of_ble_eq_true rfl, rfl⟩ ?_
  refine h1 _ (fun g9 f9 => ?_) _ rfl
  show t_X d 234 4 lv [oI 0] g9 Q
  refine tz_ne jcm_4 (by decide) ⟨by omega, by omega⟩ (fun c1 => absurd c1 (by omega)) (fun c1 => ?_)
  show t_X d 234 7 lv [] g9 Q
  refine t_0 jcm_7 rfl rfl ?_
  refine t_5 jcm_8 rfl rfl ?_
  exact hQ _ f9
set_option maxHeartbeats 1000000 in
theorem cm_2 {d : Nat} (hd : 8 ≤ d) {g0 : pH} {B : tC} {n : Int} (hB : jB g0 B n) {p k δ : Int} {o v : tC} (hLP : lP n p k) (hδ : 0 ≤ δ ∧ δ ≤ 7) {π : List (Int × Int)} {g : pH} {Q : Option pv × pH → Prop} {p1 k1 : Int} {o1 v1 : tC} (hLP1 : lP n p1 k1) (h1 : ∀ Q1, (∀ g1, jSt g0 g1 p1 k1 o1 v1 δ π → Q1 (some (oI 1), g1)) → jSu (d - 1) Q1 g) (hc : lC3 (tH B n p1) = -1) (hQ : jOK g0 Q (-1000 - p1)) : jCm d Q g := by
  intro lv l0
  have hn0 := hB.2.2.1
  have hn1 := hB.2.2.2
  have hH : ∀ q, 0 ≤ q → -1 ≤ tH B n q ∧ tH B n q ≤ 255 := fun q hq => tH_b (jp_b hB.2.1) (by omega) hq
  have hP9 := hLP1
  unfold lP at hP9
  have w9 := lC3_b (tH B n p1)
  refine t_0 jcm_0 rfl (ld_a l0) ?_
  refine t_3 jcm_1 rfl (ar := ([pvR 196], [])) (pcal_w (as := []) rfl rfl rfl jeo_196) ⟨by omega, Nat.le_of_ble_eq_true rfl, Nat.le_of_ble_eq_true rfl, rfl⟩ ?_
  refine h1 _ (fun g9 t9 => ?_) _ rfl
  obtain ⟨ft9, u9, sa9, wa9, hS9, hC9, hT9, hl9⟩ := t9
  show t_X d 234 4 lv [oI 1] g9 Q
  refine tz_ne jcm_4 (by decide) ⟨by omega, by omega⟩ (fun c1 => ?_) (fun c1 => absurd c1 (by omega))
  show t_X d 234 9 lv [] g9 Q
  refine t_0 jcm_9 rfl (ld_a l0) ?_
  refine t_3 jcm_10 rfl (ar := ([pvR 196], [])) (pcal_w (as := []) rfl rfl rfl jeo_196) ⟨by omega, Nat.le_of_ble_eq_true rfl, Nat.le_of_ble_eq_true rfl, rfl⟩ ?_
  refine jh_run hB hS9 (by omega) ?_ rfl
  have b2 := hH p1 (by omega)
  have z2 := tH_n (B := B) (n := n) (p := p1)
  show t_X d 234 13 lv [oI (tH B n p1)] g9 Q
  refine t_0 jcm_13 rfl (pq_b (by decide)) ?_
  refine tb_ne jcm_15 (by decide) ⟨by omega, by omega⟩ ⟨by omega, by omega⟩ (fun c3 => ?_) (fun c3 => absurd c3 (by omega))
  show t_X d 234 23 lv [] g9 Q
  refine t_0 jcm_23 rfl (ld_a l0) ?_
  refine t_3 jcm_24 rfl (ar := ([pvR 196], [])) (pcal_w (as := []) rfl rfl rfl jeo_196) ⟨by omega, Nat.le_of_ble_eq_true rfl, Nat.le_of_ble_eq_true rfl, rfl⟩ ?_
  refine jh_run hB hS9 (by omega) ?_ rfl
  show t_X d 234 27 lv [oI (tH B n p1)] g9 Q
  refine t_0 jcm_27 rfl (pq_b (by decide)) ?_
  refine tb_ne jcm_29 (by decide) ⟨by omega, by omega⟩ ⟨by omega, by omega⟩ (fun c4 => ?_) (fun c4 => absurd c4 (by omega))
  show t_X d 234 37 lv [] g9 Q
  refine t_0 jcm_37 rfl (ld_a l0) ?_
  refine t_3 jcm_38 rfl (ar := ([pvR 196], [])) (pcal_w (as := []) rfl rfl rfl jeo_196) ⟨by omega, Nat.le_of_ble_eq_true rfl, Nat.le_of_ble_eq_true rfl, rfl⟩ ?_
  refine jh_run hB hS9 (by omega) ?_ rfl
  show t_X d 234 41 lv [oI (tH B n p1)] g9 Q
  refine t_0 jcm_41 rfl (pq_b (by decide)) ?_
  refine tb_ne jcm_43 (by decide) ⟨by omega, by omega⟩ ⟨by omega, by omega⟩ (fun c5 => ?_) (fun c5 => absurd c5 (by omega))
  show t_X d 234 51 lv [] g9 Q
  refine t_0 jcm_51 rfl rfl ?_
  refine t_2 jcm_52 rfl (w := (px_s1 lv 1 (oI (-1)), [])) rfl ?_
  replace l0 : px_lg (px_s1 lv 1 (oI (-1))) 0 = some (pvR 196) := s1_ne (by decide) (fun _ => rfl) l0
  have l1 : px_lg (px_s1 lv 1 (oI (-1))) 1 = some (oI (-1)) := s1_eq
  generalize px_s1 lv 1 (oI (-1)) = lv6 at l0 l1 ⊢
  show t_X d 234 53 lv6 [] g9 Q
  refine t_0 jcm_53 rfl (ld_i l1) ?_
  refine t_0 jcm_54 rfl rfl ?_
  refine tb_ne jcm_55 (by decide) ⟨by omega, by omega⟩ ⟨by omega, by omega⟩ (fun c7 => absurd c7 (by omega)) (fun c7 => ?_)
  show t_X d 234 58 lv6 [] g9 Q
  refine t_0 jcm_58 rfl (ld_a l0) ?_
  refine t_0 jcm_59 rfl rfl ?_
  refine t_0 jcm_60 rfl (ld_a l0) ?_
  refine t_0 jcm_61 rfl (pq_cv jeo_196 rfl (show cF g9 196 18 = p1 from S_f hS9 0 (Nat.le_of_ble_eq_true rfl))) ?_
  show t_X d 234 64 lv6 [oI (p1), oI 1, pvR 196] g9 Q
  refine t_3 jcm_64 rfl (ar := ([pvR 196, oI 1, oI (p1)], [])) (pcal_w (as := [oI (p1), oI 1]) rfl rfl rfl jeo_196) ⟨by omega, Nat.le_of_ble_eq_true rfl, Nat.le_of_ble_eq_true rfl, rfl⟩ ?_
  refine jw_run hB hS9 ⟨by omega, by omega⟩ ⟨by omega, by omega⟩ (fun g8 hS8 => ?_) rfl rfl rfl
  replace hS8 : jS g0 g8 p1 k1 (π.length : Int) δ (-1000 * 1 - p1) u9 sa9 wa9 := hS8
  show t_X d 234 67 lv6 [oI 0] g8 Q
  refine t_5 jcm_67 rfl rfl ?_
  exact hQ _ ⟨_, _, _, _, _, _, _, (show jS g0 g8 _ _ _ _ (-1000 - p1) _ _ _ by rw [show -1000 - p1 = -1000 * 1 - p1 by omega]; exact hS8)⟩
set_option maxHeartbeats 1000000 in
theorem cm_3 {d : Nat} (hd : 8 ≤ d) {g0 : pH} {B : tC} {n : Int} (hB : jB g0 B n) {p k δ : Int} {o v : tC} (hLP : lP n p k) (hδ : 0 ≤ δ ∧ δ ≤ 7) {π : List (Int × Int)} {g : pH} {Q : Option pv × pH → Prop} {p1 k1 : Int} {o1 v1 : tC} (hLP1 : lP n p1 k1) (h1 : ∀ Q1, (∀ g1, jSt g0 g1 p1 k1 o1 v1 δ π → Q1 (some (oI 1), g1)) → jSu (d - 1) Q1 g) (hc : 7 ≤ lC3 (tH B n p1)) {f : Int} (h2 : ∀ g1, jSt g0 g1 (p1 + 1) k1 o1 v1 δ π → ∀ Q1, jOK g0 Q1 f → jSu (d - 1) Q1 g1) (hQ : jOK g0 Q f) : jCm d Q g := by
  intro lv l0
  have hn0 := hB.2.2.1
  have hn1 := hB.2.2.2
  have hH : ∀ q, 0 ≤ q → -1 ≤ tH B n q ∧ tH B n q ≤ 255 := fun q hq => tH_b (jp_b hB.2.1) (by omega) hq
  have hP9 := hLP1
  unfold lP at hP9
  have w9 := lC3_b (tH B n p1)
  refine t_0 jcm_0 rfl (ld_a l0) ?_
  refine t_3 jcm_1 rfl (ar := ([pvR 196], [])) (pcal_w (as := []) rfl rfl rfl jeo_196) ⟨by omega, Nat.le_of_ble_eq_true rfl, Nat.le_of_ble_eq_true rfl, rfl⟩ ?_
  refine h1 _ (fun g9 t9 => ?_) _ rfl
  obtain ⟨ft9, u9, sa9, wa9, hS9, hC9, hT9, hl9⟩ := t9
  show t_X d 234 4 lv [oI 1] g9 Q
  refine tz_ne jcm_4 (by decide) ⟨by omega, by omega⟩ (fun c1 => ?_) (fun c1 => absurd c1 (by omega))
  show t_X d 234 9 lv [] g9 Q
  refine t_0 jcm_9 rfl (ld_a l0) ?_
  refine t_3 jcm_10 rfl (ar := ([pvR 196], [])) (pcal_w (as := []) rfl rfl rfl jeo_196) ⟨by omega, Nat.le_of_ble_eq_true rfl, Nat.le_of_ble_eq_true rfl, rfl⟩ ?_
  refine jh_run hB hS9 (by omega) ?_ rfl
  have b2 := hH p1 (by omega)
  have z2 := tH_n (B := B) (n := n) (p := p1)
  show t_X d 234 13 lv [oI (tH B n p1)] g9 Q
  refine t_0 jcm_13 rfl (pq_b (by decide)) ?_
  refine tb_ne jcm_15 (by decide) ⟨by omega, by omega⟩ ⟨by omega, by omega⟩ (fun c3 => ?_) (fun c3 => ?_)
  · show t_X d 234 23 lv [] g9 Q
    refine t_0 jcm_23 rfl (ld_a l0) ?_
    refine t_3 jcm_24 rfl (ar := ([pvR 196], [])) (pcal_w (as := []) rfl rfl rfl jeo_196) ⟨by omega, Nat.le_of_ble_eq_true rfl, Nat.le_of_ble_eq_true rfl, rfl⟩ ?_
    refine jh_run hB hS9 (by omega) ?_ rfl
    show t_X d 234 27 lv [oI (tH B n p1)] g9 Q
    refine t_0 jcm_27 rfl (pq_b (by decide)) ?_
    refine tb_ne jcm_29 (by decide) ⟨by omega, by omega⟩ ⟨by omega, by omega⟩ (fun c4 => ?_) (fun c4 => ?_)
    · show t_X d 234 37 lv [] g9 Q
      refine t_0 jcm_37 rfl (ld_a l0) ?_
      refine t_3 jcm_38 rfl (ar := ([pvR 196], [])) (pcal_w (as := []) rfl rfl rfl jeo_196) ⟨by omega, Nat.le_of_ble_eq_true rfl, Nat.le_of_ble_eq_true rfl, rfl⟩ ?_
      refine jh_run hB hS9 (by omega) ?_ rfl
      show t_X d 234 41 lv [oI (tH B n p1)] g9 Q
      refine t_0 jcm_41 rfl (pq_b (by decide)) ?_
      refine tb_ne jcm_43 (by decide) ⟨by omega, by omega⟩ ⟨by omega, by omega⟩ (fun c5 => ?_) (fun c5 => ?_)
      · show t_X d 234 51 lv [] g9 Q
        refine t_0 jcm_51 rfl rfl ?_
        refine t_2 jcm_52 rfl (w := (px_s1 lv 1 (oI (-1)), [])) rfl ?_
        replace l0 : px_lg (px_s1 lv 1 (oI (-1))) 0 = some (pvR 196) := s1_ne (by decide) (fun _ => rfl) l0
        have l1 : px_lg (px_s1 lv 1 (oI (-1))) 1 = some (oI (-1)) := s1_eq
        generalize px_s1 lv 1 (oI (-1)) = lv6 at l0 l1 ⊢
        show t_X d 234 53 lv6 [] g9 Q
        refine t_0 jcm_53 rfl (ld_i l1) ?_
        refine t_0 jcm_54 rfl rfl ?_
        refine tb_ne jcm_55 (by decide) ⟨by omega, by omega⟩ ⟨by omega, by omega⟩ (fun c7 => absurd c7 (by omega)) (fun c7 => ?_)
        show t_X d 234 58 lv6 [] g9 Q
        refine t_0 jcm_58 rfl (ld_a l0) ?_
        refine t_0 jcm_59 rfl rfl ?_
        refine t_0 jcm_60 rfl (ld_a l0) ?_
        refine t_0 jcm_61 rfl (pq_cv jeo_196 rfl (show cF g9 196 18 = p1 from S_f hS9 0 (Nat.le_of_ble_eq_true rfl))) ?_
        show t_X d 234 64 lv6 [oI (p1), oI 1, pvR 196] g9 Q
        refine t_3 jcm_64 rfl (ar := ([pvR 196, oI 1, oI (p1)], [])) (pcal_w (as := [oI (p1), oI 1]) rfl rfl rfl jeo_196) ⟨by omega, Nat.le_of_ble_eq_true rfl, Nat.le_of_ble_eq_true rfl, rfl⟩ ?_
        refine jw_run hB hS9 ⟨by omega, by omega⟩ ⟨by omega, by omega⟩ (fun g8 hS8 => ?_) rfl rfl rfl
        replace hS8 : jS g0 g8 p1 k1 (π.length : Int) δ (-1000 * 1 - p1) u9 sa9 wa9 := hS8
        show t_X d 234 67 lv6 [oI 0] g8 Q
        refine t_5 jcm_67 rfl rfl ?_
        exfalso
        omega
      · show t_X d 234 46 lv [] g9 Q
        refine t_0 jcm_46 rfl (pq_b (by decide)) ?_
        refine t_1 jcm_48 rfl (pb_goto (pc := 48) (by decide)) ?_
        show t_X d 234 52 lv [oI 9] g9 Q
        refine t_2 jcm_52 rfl (w := (px_s1 lv 1 (oI 9), [])) rfl ?_
        replace l0 : px_lg (px_s1 lv 1 (oI 9)) 0 = some (pvR 196) := s1_ne (by decide) (fun _ => rfl) l0
        have l1 : px_lg (px_s1 lv 1 (oI 9)) 1 = some (oI 9) := s1_eq
        generalize px_s1 lv 1 (oI 9) = lv9 at l0 l1 ⊢
        show t_X d 234 53 lv9 [] g9 Q
        refine t_0 jcm_53 rfl (ld_i l1) ?_
        refine t_0 jcm_54 rfl rfl ?_
        refine tb_ne jcm_55 (by decide) ⟨by omega, by omega⟩ ⟨by omega, by omega⟩ (fun c10 => ?_) (fun c10 => absurd c10 (by omega))
        show t_X d 234 68 lv9 [] g9 Q
        refine t_0 jcm_68 rfl (ld_a l0) ?_
        refine t_0 jcm_69 rfl (ld_a l0) ?_
        refine t_0 jcm_70 rfl (pq_cv jeo_196 rfl (show cF g9 196 18 = p1 from S_f hS9 0 (Nat.le_of_ble_eq_true rfl))) ?_
        show t_X d 234 73 lv9 [oI (p1), pvR 196] g9 Q
        refine t_0 jcm_73 rfl rfl ?_
        refine t_0 jcm_74 rfl pq_add ?_
        refine ts_f (n := 0) rfl rfl (by decide) jcm_75 rfl jeo_196 hS9 wt_jW_196_18 jgy_196_18 (by decide) ⟨by omega, by omega⟩ (fun g11 hS11 => ?_)
        replace hS11 : jS g0 g11 (p1 + 1) k1 (π.length : Int) δ ft9 u9 sa9 wa9 := hS11
        show t_X d 234 78 lv9 [] g11 Q
        refine t_0 jcm_78 rfl (ld_a l0) ?_
        refine t_3 jcm_79 rfl (ar := ([pvR 196], [])) (pcal_w (as := []) rfl rfl rfl jeo_196) ⟨by omega, Nat.le_of_ble_eq_true rfl, Nat.le_of_ble_eq_true rfl, rfl⟩ ?_
        have ec : lC3 (tH B n p1) = 9 := by rw [show tH B n p1 = 61 by omega]; rfl
        refine h2 _ ⟨ft9, u9, sa9, wa9, hS11, hC9, hT9, by omega⟩ _ (fun g8 f8 => ?_) _ rfl
        show t_X d 234 82 lv9 [oI 0] g8 Q
        refine tz_ne jcm_82 (by decide) ⟨by omega, by omega⟩ (fun c12 => absurd c12 (by omega)) (fun c12 => ?_)
        show t_X d 234 85 lv9 [] g8 Q
        refine t_0 jcm_85 rfl rfl ?_
        refine t_5 jcm_86 rfl rfl ?_
        exact hQ _ f8
    · show t_X d 234 32 lv [] g9 Q
      refine t_0 jcm_32 rfl (pq_b (by decide)) ?_
      refine t_1 jcm_34 rfl (pb_goto (pc := 34) (by decide)) ?_
      show t_X d 234 52 lv [oI 8] g9 Q
      refine t_2 jcm_52 rfl (w := (px_s1 lv 1 (oI 8), [])) rfl ?_
      replace l0 : px_lg (px_s1 lv 1 (oI 8)) 0 = some (pvR 196) := s1_ne (by decide) (fun _ => rfl) l0
      have l1 : px_lg (px_s1 lv 1 (oI 8)) 1 = some (oI 8) := s1_eq
      generalize px_s1 lv 1 (oI 8) = lv13 at l0 l1 ⊢
      show t_X d 234 53 lv13 [] g9 Q
      refine t_0 jcm_53 rfl (ld_i l1) ?_
      refine t_0 jcm_54 rfl rfl ?_
      refine tb_ne jcm_55 (by decide) ⟨by omega, by omega⟩ ⟨by omega, by omega⟩ (fun c14 => ?_) (fun c14 => absurd c14 (by omega))
      show t_X d 234 68 lv13 [] g9 Q
      refine t_0 jcm_68 rfl (ld_a l0) ?_
      refine t_0 jcm_69 rfl (ld_a l0) ?_
      refine t_0 jcm_70 rfl (pq_cv jeo_196 rfl (show cF g9 196 18 = p1 from S_f hS9 0 (Nat.le_of_ble_eq_true rfl))) ?_
      show t_X d 234 73 lv13 [oI (p1), pvR 196] g9 Q
      refine t_0 jcm_73 rfl rfl ?_
      refine t_0 jcm_74 rfl pq_add ?_
      refine ts_f (n := 0) rfl rfl (by decide) jcm_75 rfl jeo_196 hS9 wt_jW_196_18 jgy_196_18 (by decide) ⟨by omega, by omega⟩ (fun g15 hS15 => ?_)
      replace hS15 : jS g0 g15 (p1 + 1) k1 (π.length : Int) δ ft9 u9 sa9 wa9 := hS15
      show t_X d 234 78 lv13 [] g15 Q
      refine t_0 jcm_78 rfl (ld_a l0) ?_
      refine t_3 jcm_79 rfl (ar := ([pvR 196], [])) (pcal_w (as := []) rfl rfl rfl jeo_196) ⟨by omega, Nat.le_of_ble_eq_true rfl, Nat.le_of_ble_eq_true rfl, rfl⟩ ?_
      have ec : lC3 (tH B n p1) = 8 := by rw [show tH B n p1 = 62 by omega]; rfl
      refine h2 _ ⟨ft9, u9, sa9, wa9, hS15, hC9, hT9, by omega⟩ _ (fun g8 f8 => ?_) _ rfl
      show t_X d 234 82 lv13 [oI 0] g8 Q
      refine tz_ne jcm_82 (by decide) ⟨by omega, by omega⟩ (fun c16 => absurd c16 (by omega)) (fun c16 => ?_)
      show t_X d 234 85 lv13 [] g8 Q
      refine t_0 jcm_85 rfl rfl ?_
      refine t_5 jcm_86 rfl rfl ?_
      exact hQ _ f8
  · show t_X d 234 18 lv [] g9 Q
    refine t_0 jcm_18 rfl (pq_b (by decide)) ?_
    refine t_1 jcm_20 rfl (pb_goto (pc := 20) (by decide)) ?_
    show t_X d 234 52 lv [oI 7] g9 Q
    refine t_2 jcm_52 rfl (w := (px_s1 lv 1 (oI 7), [])) rfl ?_
    replace l0 : px_lg (px_s1 lv 1 (oI 7)) 0 = some (pvR 196) := s1_ne (by decide) (fun _ => rfl) l0
    have l1 : px_lg (px_s1 lv 1 (oI 7)) 1 = some (oI 7) := s1_eq
    generalize px_s1 lv 1 (oI 7) = lv17 at l0 l1 ⊢
    show t_X d 234 53 lv17 [] g9 Q
    refine t_0 jcm_53 rfl (ld_i l1) ?_
    refine t_0 jcm_54 rfl rfl ?_
    refine tb_ne jcm_55 (by decide) ⟨by omega, by omega⟩ ⟨by omega, by omega⟩ (fun c18 => ?_) (fun c18 => absurd c18 (by omega))
    show t_X d 234 68 lv17 [] g9 Q
    refine t_0 jcm_68 rfl (ld_a l0) ?_
    refine t_0 jcm_69 rfl (ld_a l0) ?_
    refine t_0 jcm_70 rfl (pq_cv jeo_196 rfl (show cF g9 196 18 = p1 from S_f hS9 0 (Nat.le_of_ble_eq_true rfl))) ?_
    show t_X d 234 73 lv17 [oI (p1), pvR 196] g9 Q
    refine t_0 jcm_73 rfl rfl ?_
    refine t_0 jcm_74 rfl pq_add ?_
    refine ts_f (n := 0) rfl rfl (by decide) jcm_75 rfl jeo_196 hS9 wt_jW_196_18 jgy_196_18 (by decide) ⟨by omega, by omega⟩ (fun g19 hS19 => ?_)
    replace hS19 : jS g0 g19 (p1 + 1) k1 (π.length : Int) δ ft9 u9 sa9 wa9 := hS19
    show t_X d 234 78 lv17 [] g19 Q
    refine t_0 jcm_78 rfl (ld_a l0) ?_
    refine t_3 jcm_79 rfl (ar := ([pvR 196], [])) (pcal_w (as := []) rfl rfl rfl jeo_196) ⟨by omega, Nat.le_of_ble_eq_true rfl, Nat.le_of_ble_eq_true rfl, rfl⟩ ?_
    have ec : lC3 (tH B n p1) = 7 := by rw [show tH B n p1 = 60 by omega]; rfl
    refine h2 _ ⟨ft9, u9, sa9, wa9, hS19, hC9, hT9, by omega⟩ _ (fun g8 f8 => ?_) _ rfl
    show t_X d 234 82 lv17 [oI 0] g8 Q
    refine tz_ne jcm_82 (by decide) ⟨by omega, by omega⟩ (fun c20 => absurd c20 (by omega)) (fun c20 => ?_)
    show t_X d 234 85 lv17 [] g8 Q
    refine t_0 jcm_85 rfl rfl ?_
    refine t_5 jcm_86 rfl rfl ?_
    exact hQ _ f8
set_option maxHeartbeats 1000000 in
theorem cm_4 {d : Nat} (hd : 8 ≤ d) {g0 : pH} {B : tC} {n : Int} (hB : jB g0 B n) {p k δ : Int} {o v : tC} (hLP : lP n p k) (hδ : 0 ≤ δ ∧ δ ≤ 7) {π : List (Int × Int)} {g : pH} {Q : Option pv × pH → Prop} {p1 k1 : Int} {o1 v1 : tC} (hLP1 : lP n p1 k1) (h1 : ∀ Q1, (∀ g1, jSt g0 g1 p1 k1 o1 v1 δ π → Q1 (some (oI 1), g1)) → jSu (d - 1) Q1 g) (hc : 7 ≤ lC3 (tH B n p1)) {p2 k2 : Int} {o2 v2 : tC} (hLP2 : lP n p2 (k2 + 1)) (hk2 : 0 ≤ k2) (h2 : ∀ g1, jSt g0 g1 (p1 + 1) k1 o1 v1 δ π → ∀ Q1, (∀ g2, jSt g0 g2 p2 k2 o2 v2 δ π → Q1 (some (oI 1), g2)) → jSu (d - 1) Q1 g1) {R : pH → Prop} (hE : jE g0 R p2 (k2 + 1) (updI o2 k2.toNat (lC3 (tH B n p1))) (updI v2 k2.toNat 0) δ π) (hR : ∀ g1, R g1 → Q (some (oI 1), g1)) : jCm d Q g := by
  intro lv l0
  have hn0 := hB.2.2.1
  have hn1 := hB.2.2.2
  have hH : ∀ q, 0 ≤ q → -1 ≤ tH B n q ∧ tH B n q ≤ 255 := fun q hq => tH_b (jp_b hB.2.1) (by omega) hq
  have hP9 := hLP1
  unfold lP at hP9
  have w9 := lC3_b (tH B n p1)
  have hP8 := hLP2
  unfold lP at hP8
  refine t_0 jcm_0 rfl (ld_a l0) ?_
  refine t_3 jcm_1 rfl (ar := ([pvR 196], [])) (pcal_w (as := []) rfl rfl rfl jeo_196) ⟨by omega, Nat.le_of_ble_eq_true rfl, Nat.le_of_ble_eq_true rfl, rfl⟩ ?_
  refine h1 _ (fun g9 t9 => ?_) _ rfl
  obtain ⟨ft9, u9, sa9, wa9, hS9, hC9, hT9, hl9⟩ := t9
  show t_X d 234 4 lv [oI 1] g9 Q
  refine tz_ne jcm_4 (by decide) ⟨by omega, by omega⟩ (fun c1 => ?_) (fun c1 => absurd c1 (by omega))
  show t_X d 234 9 lv [] g9 Q
  refine t_0 jcm_9 rfl (ld_a l0) ?_
  refine t_3 jcm_10 rfl (ar := ([pvR 196], [])) (pcal_w (as := []) rfl rfl rfl jeo_196) ⟨by omega, Nat.le_of_ble_eq_true rfl, Nat.le_of_ble_eq_true rfl, rfl⟩ ?_
  refine jh_run hB hS9 (by omega) ?_ rfl
  have b2 := hH p1 (by omega)
  have z2 := tH_n (B := B) (n := n) (p := p1)
  show t_X d 234 13 lv [oI (tH B n p1)] g9 Q
  refine t_0 jcm_13 rfl (pq_b (by decide)) ?_
  refine tb_ne jcm_15 (by decide) ⟨by omega, by omega⟩ ⟨by omega, by omega⟩ (fun c3 => ?_) (fun c3 => ?_)
  · show t_X d 234 23 lv [] g9 Q
    refine t_0 jcm_23 rfl (ld_a l0) ?_
    refine t_3 jcm_24 rfl (ar := ([pvR 196], [])) (pcal_w (as := []) rfl rfl rfl jeo_196) ⟨by omega, Nat.le_of_ble_eq_true rfl, Nat.le_of_ble_eq_true rfl, rfl⟩ ?_
    refine jh_run hB hS9 (by omega) ?_ rfl
    show t_X d 234 27 lv [oI (tH B n p1)] g9 Q
    refine t_0 jcm_27 rfl (pq_b (by decide)) ?_
    refine tb_ne jcm_29 (by decide) ⟨by omega, by omega⟩ ⟨by omega, by omega⟩ (fun c4 => ?_) (fun c4 => ?_)
    · show t_X d 234 37 lv [] g9 Q
      refine t_0 jcm_37 rfl (ld_a l0) ?_
      refine t_3 jcm_38 rfl (ar := ([pvR 196], [])) (pcal_w (as := []) rfl rfl rfl jeo_196) ⟨by omega, Nat.le_of_ble_eq_true rfl, Nat.le_of_ble_eq_true rfl, rfl⟩ ?_
      refine jh_run hB hS9 (by omega) ?_ rfl
      show t_X d 234 41 lv [oI (tH B n p1)] g9 Q
      refine t_0 jcm_41 rfl (pq_b (by decide)) ?_
      refine tb_ne jcm_43 (by decide) ⟨by omega, by omega⟩ ⟨by omega, by omega⟩ (fun c5 => ?_) (fun c5 => ?_)
      · show t_X d 234 51 lv [] g9 Q
        refine t_0 jcm_51 rfl rfl ?_
        refine t_2 jcm_52 rfl (w := (px_s1 lv 1 (oI (-1)), [])) rfl ?_
        replace l0 : px_lg (px_s1 lv 1 (oI (-1))) 0 = some (pvR 196) := s1_ne (by decide) (fun _ => rfl) l0
        have l1 : px_lg (px_s1 lv 1 (oI (-1))) 1 = some (oI (-1)) := s1_eq
        generalize px_s1 lv 1 (oI (-1)) = lv6 at l0 l1 ⊢
        show t_X d 234 53 lv6 [] g9 Q
        refine t_0 jcm_53 rfl (ld_i l1) ?_
        refine t_0 jcm_54 rfl rfl ?_
        refine tb_ne jcm_55 (by decide) ⟨by omega, by omega⟩ ⟨by omega, by omega⟩ (fun c7 => absurd c7 (by omega)) (fun c7 => ?_)
        show t_X d 234 58 lv6 [] g9 Q
        refine t_0 jcm_58 rfl (ld_a l0) ?_
        refine t_0 jcm_59 rfl rfl ?_
        refine t_0 jcm_60 rfl (ld_a l0) ?_
        refine t_0 jcm_61 rfl (pq_cv jeo_196 rfl (show cF g9 196 18 = p1 from S_f hS9 0 (Nat.le_of_ble_eq_true rfl))) ?_
        show t_X d 234 64 lv6 [oI (p1), oI 1, pvR 196] g9 Q
        refine t_3 jcm_64 rfl (ar := ([pvR 196, oI 1, oI (p1)], [])) (pcal_w (as := [oI (p1), oI 1]) rfl rfl rfl jeo_196) ⟨by omega, Nat.le_of_ble_eq_true rfl, Nat.le_of_ble_eq_true rfl, rfl⟩ ?_
        refine jw_run hB hS9 ⟨by omega, by omega⟩ ⟨by omega, by omega⟩ (fun g8 hS8 => ?_) rfl rfl rfl
        replace hS8 : jS g0 g8 p1 k1 (π.length : Int) δ (-1000 * 1 - p1) u9 sa9 wa9 := hS8
        show t_X d 234 67 lv6 [oI 0] g8 Q
        refine t_5 jcm_67 rfl rfl ?_
        exfalso
        omega
      · show t_X d 234 46 lv [] g9 Q
        refine t_0 jcm_46 rfl (pq_b (by decide)) ?_
        refine t_1 jcm_48 rfl (pb_goto (pc := 48) (by decide)) ?_
        show t_X d 234 52 lv [oI 9] g9 Q
        refine t_2 jcm_52 rfl (w := (px_s1 lv 1 (oI 9), [])) rfl ?_
        replace l0 : px_lg (px_s1 lv 1 (oI 9)) 0 = some (pvR 196) := s1_ne (by decide) (fun _ => rfl) l0
        have l1 : px_lg (px_s1 lv 1 (oI 9)) 1 = some (oI 9) := s1_eq
        generalize px_s1 lv 1 (oI 9) = lv9 at l0 l1 ⊢
        show t_X d 234 53 lv9 [] g9 Q
        refine t_0 jcm_53 rfl (ld_i l1) ?_
        refine t_0 jcm_54 rfl rfl ?_
        refine tb_ne jcm_55 (by decide) ⟨by omega, by omega⟩ ⟨by omega, by omega⟩ (fun c10 => ?_) (fun c10 => absurd c10 (by omega))
        show t_X d 234 68 lv9 [] g9 Q
        refine t_0 jcm_68 rfl (ld_a l0) ?_
        refine t_0 jcm_69 rfl (ld_a l0) ?_
        refine t_0 jcm_70 rfl (pq_cv jeo_196 rfl (show cF g9 196 18 = p1 from S_f hS9 0 (Nat.le_of_ble_eq_true rfl))) ?_
        show t_X d 234 73 lv9 [oI (p1), pvR 196] g9 Q
        refine t_0 jcm_73 rfl rfl ?_
        refine t_0 jcm_74 rfl pq_add ?_
        refine ts_f (n := 0) rfl rfl (by decide) jcm_75 rfl jeo_196 hS9 wt_jW_196_18 jgy_196_18 (by decide) ⟨by omega, by omega⟩ (fun g11 hS11 => ?_)
        replace hS11 : jS g0 g11 (p1 + 1) k1 (π.length : Int) δ ft9 u9 sa9 wa9 := hS11
        show t_X d 234 78 lv9 [] g11 Q
        refine t_0 jcm_78 rfl (ld_a l0) ?_
        refine t_3 jcm_79 rfl (ar := ([pvR 196], [])) (pcal_w (as := []) rfl rfl rfl jeo_196) ⟨by omega, Nat.le_of_ble_eq_true rfl, Nat.le_of_ble_eq_true rfl, rfl⟩ ?_
        have ec : lC3 (tH B n p1) = 9 := by rw [show tH B n p1 = 61 by omega]; rfl
        refine h2 _ ⟨ft9, u9, sa9, wa9, hS11, hC9, hT9, by omega⟩ _ (fun g8 t8 => ?_) _ rfl
        obtain ⟨ft8, u8, sa8, wa8, hS8, hC8, hT8, hl8⟩ := t8
        show t_X d 234 82 lv9 [oI 1] g8 Q
        refine tz_ne jcm_82 (by decide) ⟨by omega, by omega⟩ (fun c12 => ?_) (fun c12 => absurd c12 (by omega))
        show t_X d 234 87 lv9 [] g8 Q
        refine t_0 jcm_87 rfl (ld_a l0) ?_
        refine t_0 jcm_88 rfl (ld_i l1) ?_
        refine t_0 jcm_89 rfl rfl ?_
        refine t_3 jcm_90 rfl (ar := ([pvR 196, oI 9, oI 0], [])) (pcal_w (as := [oI 0, oI 9]) rfl rfl rfl jeo_196) ⟨by omega, Nat.le_of_ble_eq_true rfl, Nat.le_of_ble_eq_true rfl, rfl⟩ ?_
        refine jno_run hB hS8 ⟨by omega, by omega⟩ ⟨by omega, by omega⟩ ⟨by omega, by omega⟩ (fun g13 hS13 => ?_) rfl rfl rfl
        replace hS13 : jS g0 g13 p2 (k2 + 1) (π.length : Int) δ ft8 u8 (updI sa8 k2.toNat (1048576 * 9 + 0)) wa8 := hS13
        show t_X d 234 93 lv9 [] g13 Q
        refine t_0 jcm_93 rfl (ld_a l0) ?_
        refine t_3 jcm_94 rfl (ar := ([pvR 196], [])) (pcal_w (as := []) rfl rfl rfl jeo_196) ⟨by omega, Nat.le_of_ble_eq_true rfl, Nat.le_of_ble_eq_true rfl, rfl⟩ ?_
        refine hE _ ⟨ft8, u8, _, wa8, hS13, (by rw [ec]; exact jC_e (by omega) hC8 (by omega) (by omega)), hT8, by omega⟩ _ (by omega) _ (fun g7 r7 => ?_) _ rfl
        show t_X d 234 97 lv9 [] g7 Q
        refine t_0 jcm_97 rfl rfl ?_
        refine t_5 jcm_98 rfl rfl ?_
        exact hR _ r7
    · show t_X d 234 32 lv [] g9 Q
      refine t_0 jcm_32 rfl (pq_b (by decide)) ?_
      refine t_1 jcm_34 rfl (pb_goto (pc := 34) (by decide)) ?_
      show t_X d 234 52 lv [oI 8] g9 Q
      refine t_2 jcm_52 rfl (w := (px_s1 lv 1 (oI 8), [])) rfl ?_
      replace l0 : px_lg (px_s1 lv 1 (oI 8)) 0 = some (pvR 196) := s1_ne (by decide) (fun _ => rfl) l0
      have l1 : px_lg (px_s1 lv 1 (oI 8)) 1 = some (oI 8) := s1_eq
      generalize px_s1 lv 1 (oI 8) = lv14 at l0 l1 ⊢
      show t_X d 234 53 lv14 [] g9 Q
      refine t_0 jcm_53 rfl (ld_i l1) ?_
      refine t_0 jcm_54 rfl rfl ?_
      refine tb_ne jcm_55 (by decide) ⟨by omega, by omega⟩ ⟨by omega, by omega⟩ (fun c15 => ?_) (fun c15 => absurd c15 (by omega))
      show t_X d 234 68 lv14 [] g9 Q
      refine t_0 jcm_68 rfl (ld_a l0) ?_
      refine t_0 jcm_69 rfl (ld_a l0) ?_
      refine t_0 jcm_70 rfl (pq_cv jeo_196 rfl (show cF g9 196 18 = p1 from S_f hS9 0 (Nat.le_of_ble_eq_true rfl))) ?_
      show t_X d 234 73 lv14 [oI (p1), pvR 196] g9 Q
      refine t_0 jcm_73 rfl rfl ?_
      refine t_0 jcm_74 rfl pq_add ?_
      refine ts_f (n := 0) rfl rfl (by decide) jcm_75 rfl jeo_196 hS9 wt_jW_196_18 jgy_196_18 (by decide) ⟨by omega, by omega⟩ (fun g16 hS16 => ?_)
      replace hS16 : jS g0 g16 (p1 + 1) k1 (π.length : Int) δ ft9 u9 sa9 wa9 := hS16
      show t_X d 234 78 lv14 [] g16 Q
      refine t_0 jcm_78 rfl (ld_a l0) ?_
      refine t_3 jcm_79 rfl (ar := ([pvR 196], [])) (pcal_w (as := []) rfl rfl rfl jeo_196) ⟨by omega, Nat.le_of_ble_eq_true rfl, Nat.le_of_ble_eq_true rfl, rfl⟩ ?_
      have ec : lC3 (tH B n p1) = 8 := by rw [show tH B n p1 = 62 by omega]; rfl
      refine h2 _ ⟨ft9, u9, sa9, wa9, hS16, hC9, hT9, by omega⟩ _ (fun g8 t8 => ?_) _ rfl
      obtain ⟨ft8, u8, sa8, wa8, hS8, hC8, hT8, hl8⟩ := t8
      show t_X d 234 82 lv14 [oI 1] g8 Q
      refine tz_ne jcm_82 (by decide) ⟨by omega, by omega⟩ (fun c17 => ?_) (fun c17 => absurd c17 (by omega))
      show t_X d 234 87 lv14 [] g8 Q
      refine t_0 jcm_87 rfl (ld_a l0) ?_
      refine t_0 jcm_88 rfl (ld_i l1) ?_
      refine t_0 jcm_89 rfl rfl ?_
      refine t_3 jcm_90 rfl (ar := ([pvR 196, oI 8, oI 0], [])) (pcal_w (as := [oI 0, oI 8]) rfl rfl rfl jeo_196) ⟨by omega, Nat.le_of_ble_eq_true rfl, Nat.le_of_ble_eq_true rfl, rfl⟩ ?_
      refine jno_run hB hS8 ⟨by omega, by omega⟩ ⟨by omega, by omega⟩ ⟨by omega, by omega⟩ (fun g18 hS18 => ?_) rfl rfl rfl
      replace hS18 : jS g0 g18 p2 (k2 + 1) (π.length : Int) δ ft8 u8 (updI sa8 k2.toNat (1048576 * 8 + 0)) wa8 := hS18
      show t_X d 234 93 lv14 [] g18 Q
      refine t_0 jcm_93 rfl (ld_a l0) ?_
      refine t_3 jcm_94 rfl (ar := ([pvR 196], [])) (pcal_w (as := []) rfl rfl rfl jeo_196) ⟨by omega, Nat.le_of_ble_eq_true rfl, Nat.le_of_ble_eq_true rfl, rfl⟩ ?_
      refine hE _ ⟨ft8, u8, _, wa8, hS18, (by rw [ec]; exact jC_e (by omega) hC8 (by omega) (by omega)), hT8, by omega⟩ _ (by omega) _ (fun g7 r7 => ?_) _ rfl
      show t_X d 234 97 lv14 [] g7 Q
      refine t_0 jcm_97 rfl rfl ?_
      refine t_5 jcm_98 rfl rfl ?_
      exact hR _ r7
  · show t_X d 234 18 lv [] g9 Q
    refine t_0 jcm_18 rfl (pq_b (by decide)) ?_
    refine t_1 jcm_20 rfl (pb_goto (pc := 20) (by decide)) ?_
    show t_X d 234 52 lv [oI 7] g9 Q
    refine t_2 jcm_52 rfl (w := (px_s1 lv 1 (oI 7), [])) rfl ?_
    replace l0 : px_lg (px_s1 lv 1 (oI 7)) 0 = some (pvR 196) := s1_ne (by decide) (fun _ => rfl) l0
    have l1 : px_lg (px_s1 lv 1 (oI 7)) 1 = some (oI 7) := s1_eq
    generalize px_s1 lv 1 (oI 7) = lv19 at l0 l1 ⊢
    show t_X d 234 53 lv19 [] g9 Q
    refine t_0 jcm_53 rfl (ld_i l1) ?_
    refine t_0 jcm_54 rfl rfl ?_
    refine tb_ne jcm_55 (by decide) ⟨by omega, by omega⟩ ⟨by omega, by omega⟩ (fun c20 => ?_) (fun c20 => absurd c20 (by omega))
    show t_X d 234 68 lv19 [] g9 Q
    refine t_0 jcm_68 rfl (ld_a l0) ?_
    refine t_0 jcm_69 rfl (ld_a l0) ?_
    refine t_0 jcm_70 rfl (pq_cv jeo_196 rfl (show cF g9 196 18 = p1 from S_f hS9 0 (Nat.le_of_ble_eq_true rfl))) ?_
    show t_X d 234 73 lv19 [oI (p1), pvR 196] g9 Q
    refine t_0 jcm_73 rfl rfl ?_
    refine t_0 jcm_74 rfl pq_add ?_
    refine ts_f (n := 0) rfl rfl (by decide) jcm_75 rfl jeo_196 hS9 wt_jW_196_18 jgy_196_18 (by decide) ⟨by omega, by omega⟩ (fun g21 hS21 => ?_)
    replace hS21 : jS g0 g21 (p1 + 1) k1 (π.length : Int) δ ft9 u9 sa9 wa9 := hS21
    show t_X d 234 78 lv19 [] g21 Q
    refine t_0 jcm_78 rfl (ld_a l0) ?_
    refine t_3 jcm_79 rfl (ar := ([pvR 196], [])) (pcal_w (as := []) rfl rfl rfl jeo_196) ⟨by omega, Nat.le_of_ble_eq_true rfl, Nat.le_of_ble_eq_true rfl, rfl⟩ ?_
    have ec : lC3 (tH B n p1) = 7 := by rw [show tH B n p1 = 60 by omega]; rfl
    refine h2 _ ⟨ft9, u9, sa9, wa9, hS21, hC9, hT9, by omega⟩ _ (fun g8 t8 => ?_) _ rfl
    obtain ⟨ft8, u8, sa8, wa8, hS8, hC8, hT8, hl8⟩ := t8
    show t_X d 234 82 lv19 [oI 1] g8 Q
    refine tz_ne jcm_82 (by decide) ⟨by omega, by omega⟩ (fun c22 => ?_) (fun c22 => absurd c22 (by omega))
    show t_X d 234 87 lv19 [] g8 Q
    refine t_0 jcm_87 rfl (ld_a l0) ?_
    refine t_0 jcm_88 rfl (ld_i l1) ?_
    refine t_0 jcm_89 rfl rfl ?_
    refine t_3 jcm_90 rfl (ar := ([pvR 196, oI 7, oI 0], [])) (pcal_w (as := [oI 0, oI 7]) rfl rfl rfl jeo_196) ⟨by omega, Nat.le_of_ble_eq_true rfl, Nat.le_of_ble_eq_true rfl, rfl⟩ ?_
    refine jno_run hB hS8 ⟨by omega, by omega⟩ ⟨by omega, by omega⟩ ⟨by omega, by omega⟩ (fun g23 hS23 => ?_) rfl rfl rfl
    replace hS23 : jS g0 g23 p2 (k2 + 1) (π.length : Int) δ ft8 u8 (updI sa8 k2.toNat (1048576 * 7 + 0)) wa8 := hS23
    show t_X d 234 93 lv19 [] g23 Q
    refine t_0 jcm_93 rfl (ld_a l0) ?_
    refine t_3 jcm_94 rfl (ar := ([pvR 196], [])) (pcal_w (as := []) rfl rfl rfl jeo_196) ⟨by omega, Nat.le_of_ble_eq_true rfl, Nat.le_of_ble_eq_true rfl, rfl⟩ ?_
    refine hE _ ⟨ft8, u8, _, wa8, hS23, (by rw [ec]; exact jC_e (by omega) hC8 (by omega) (by omega)), hT8, by omega⟩ _ (by omega) _ (fun g7 r7 => ?_) _ rfl
    show t_X d 234 97 lv19 [] g7 Q
    refine t_0 jcm_97 rfl rfl ?_
    refine t_5 jcm_98 rfl rfl ?_
    exact hR _ r7
set_option maxHeartbeats 1000000 in
theorem pa_b {d : Nat} (hd : 10 ≤ d) {g0 : pH} {B : tC} {n : Int} (hB : jB g0 B n) {p k δ : Int} {o v : tC} (hLP : lP n p k) (hδ : 0 ≤ δ ∧ δ ≤ 7) {π : List (Int × Int)} {g : pH} {Q : Option pv × pH → Prop} (hg : jSt g0 g p k o v δ π) (hh : tH B n p = 33) (h6 : δ < 6) (hA : ∀ g1, jSt g0 g1 (p + 1) k o v (δ + 1) ((10, 0) :: π) → jA d Q g1) : jA d Q g := by
  intro lv l0
  obtain ⟨ft, u, sa, wa, hS, hC, hT, hl⟩ := hg
  have hLP9 := hLP
  unfold lP at hLP9
  have hn0 := hB.2.2.1
  have hn1 := hB.2.2.2
  have hH : ∀ q, 0 ≤ q → -1 ≤ tH B n q ∧ tH B n q ≤ 255 := fun q hq => tH_b (jp_b hB.2.1) (by omega) hq
  refine t_0 jrc_40 rfl (ld_a l0) ?_
  refine t_3 jrc_41 rfl (ar := ([pvR 196], [])) (pcal_w (as := []) rfl rfl rfl jeo_196) ⟨by omega, Nat.le_of_ble_eq_true rfl, Nat.le_of_ble_eq_true rfl, rfl⟩ ?_
  refine jh_run hB hS (by omega) ?_ rfl
  have b1 := hH p (by omega)
  have z1 := tH_n (B := B) (n := n) (p := p)
  show t_X d 235 44 lv [oI (tH B n p)] g Q
  refine t_0 jrc_44 rfl (pq_b (by decide)) ?_
  refine tb_eq jrc_46 (by decide) ⟨by omega, by omega⟩ ⟨by omega, by omega⟩ (fun c2 => ?_) (fun c2 => absurd c2 (by omega))
  show t_X d 235 58 lv [] g Q
  refine t_0 jrc_58 rfl (ld_a l0) ?_
  refine t_0 jrc_59 rfl (ld_a l0) ?_
  refine t_3 jrc_60 rfl (ar := ([pvR 196], [pvR 196])) (pcal_w (as := []) rfl rfl rfl jeo_196) ⟨by omega, Nat.le_of_ble_eq_true rfl, Nat.le_of_ble_eq_true rfl, rfl⟩ ?_
  refine jh_run hB hS (by omega) ?_ rfl
  show t_X d 235 63 lv [oI (tH B n p), pvR 196] g Q
  refine t_0 jrc_63 rfl (pq_b (by decide)) ?_
  refine tb_ne jrc_65 (by decide) ⟨by omega, by omega⟩ ⟨by omega, by omega⟩ (fun c3 => absurd c3 (by omega)) (fun c3 => ?_)
  show t_X d 235 68 lv [pvR 196] g Q
  refine t_0 jrc_68 rfl (pq_b (by decide)) ?_
  refine t_1 jrc_70 rfl (pb_goto (pc := 70) (by decide)) ?_
  show t_X d 235 75 lv [oI 10, pvR 196] g Q
  refine t_3 jrc_75 rfl (ar := ([pvR 196, oI 10], [])) (pcal_w (as := [oI 10]) rfl rfl rfl jeo_196) ⟨by omega, Nat.le_of_ble_eq_true rfl, Nat.le_of_ble_eq_true rfl, rfl⟩ ?_
  refine jop_run (by omega) hB hS ⟨by omega, by omega⟩ (by omega) ⟨by omega, by omega⟩ ⟨by omega, by omega⟩ (fun t4 g4 hS4 => ?_) (fun t4 => absurd t4 (by omega)) rfl rfl
  show t_X d 235 78 lv [oI 1] g4 Q
  refine tz_ne jrc_78 (by decide) ⟨by omega, by omega⟩ (fun c5 => ?_) (fun c5 => absurd c5 (by omega))
  show t_X d 235 40 lv [] g4 Q
  exact hA _ ⟨ft, u, sa, _, (show jS g0 g4 (p + 1) k (((10, 0) :: π).length : Int) (δ + 1) ft u sa _ by rw [show (((10, 0) :: π).length : Int) = (π.length : Int) + 1 by rw [List.length_cons]; omega]; exact hS4), hC, (by have h7 := jK_p (a := 10) (b := 0) (w := (π.length : Int)) rfl hT (by omega) (by omega); rw [Int.add_zero] at h7; exact h7), (by rw [List.length_cons]; omega)⟩ _ l0
set_option maxHeartbeats 1000000 in
theorem pa_bd {d : Nat} (hd : 10 ≤ d) {g0 : pH} {B : tC} {n : Int} (hB : jB g0 B n) {p k δ : Int} {o v : tC} (hLP : lP n p k) (hδ : 0 ≤ δ ∧ δ ≤ 7) {π : List (Int × Int)} {g : pH} {Q : Option pv × pH → Prop} (hg : jSt g0 g p k o v δ π) (hh : tH B n p = 33) (h6 : δ = 6) (hQ : jOK g0 Q (-5000 - p)) : jA d Q g := by
  intro lv l0
  obtain ⟨ft, u, sa, wa, hS, hC, hT, hl⟩ := hg
  have hLP9 := hLP
  unfold lP at hLP9
  have hn0 := hB.2.2.1
  have hn1 := hB.2.2.2
  have hH : ∀ q, 0 ≤ q → -1 ≤ tH B n q ∧ tH B n q ≤ 255 := fun q hq => tH_b (jp_b hB.2.1) (by omega) hq
  refine t_0 jrc_40 rfl (ld_a l0) ?_
  refine t_3 jrc_41 rfl (ar := ([pvR 196], [])) (pcal_w (as := []) rfl rfl rfl jeo_196) ⟨by omega, Nat.le_of_ble_eq_true rfl, Nat.le_of_ble_eq_true rfl, rfl⟩ ?_
  refine jh_run hB hS (by omega) ?_ rfl
  have b1 := hH p (by omega)
  have z1 := tH_n (B := B) (n := n) (p := p)
  show t_X d 235 44 lv [oI (tH B n p)] g Q
  refine t_0 jrc_44 rfl (pq_b (by decide)) ?_
  refine tb_eq jrc_46 (by decide) ⟨by omega, by omega⟩ ⟨by omega, by omega⟩ (fun c2 => ?_) (fun c2 => absurd c2 (by omega))
  show t_X d 235 58 lv [] g Q
  refine t_0 jrc_58 rfl (ld_a l0) ?_
  refine t_0 jrc_59 rfl (ld_a l0) ?_
  refine t_3 jrc_60 rfl (ar := ([pvR 196], [pvR 196])) (pcal_w (as := []) rfl rfl rfl jeo_196) ⟨by omega, Nat.le_of_ble_eq_true rfl, Nat.le_of_ble_eq_true rfl, rfl⟩ ?_
  refine jh_run hB hS (by omega) ?_ rfl
  show t_X d 235 63 lv [oI (tH B n p), pvR 196] g Q
  refine t_0 jrc_63 rfl (pq_b (by decide)) ?_
  refine tb_ne jrc_65 (by decide) ⟨by omega, by omega⟩ ⟨by omega, by omega⟩ (fun c3 => absurd c3 (by omega)) (fun c3 => ?_)
  show t_X d 235 68 lv [pvR 196] g Q
  refine t_0 jrc_68 rfl (pq_b (by decide)) ?_
  refine t_1 jrc_70 rfl (pb_goto (pc := 70) (by decide)) ?_
  show t_X d 235 75 lv [oI 10, pvR 196] g Q
  refine t_3 jrc_75 rfl (ar := ([pvR 196, oI 10], [])) (pcal_w (as := [oI 10]) rfl rfl rfl jeo_196) ⟨by omega, Nat.le_of_ble_eq_true rfl, Nat.le_of_ble_eq_true rfl, rfl⟩ ?_
  refine jop_run (by omega) hB hS ⟨by omega, by omega⟩ (by omega) ⟨by omega, by omega⟩ ⟨by omega, by omega⟩ (fun t4 => absurd t4 (by omega)) (fun t4 g4 hS4 => ?_) rfl rfl
  show t_X d 235 78 lv [oI 0] g4 Q
  refine tz_ne jrc_78 (by decide) ⟨by omega, by omega⟩ (fun c5 => absurd c5 (by omega)) (fun c5 => ?_)
  show t_X d 235 81 lv [] g4 Q
  refine t_0 jrc_81 rfl rfl ?_
  refine t_5 jrc_82 rfl rfl ?_
  exact hQ _ ⟨_, _, _, _, _, _, _, hS4⟩
set_option maxHeartbeats 1000000 in
theorem pa_p {d : Nat} (hd : 10 ≤ d) {g0 : pH} {B : tC} {n : Int} (hB : jB g0 B n) {p k δ : Int} {o v : tC} (hLP : lP n p k) (hδ : 0 ≤ δ ∧ δ ≤ 7) {π : List (Int × Int)} {g : pH} {Q : Option pv × pH → Prop} (hg : jSt g0 g p k o v δ π) (hh : tH B n p = 40) (h6 : δ < 6) (hA : ∀ g1, jSt g0 g1 (p + 1) k o v (δ + 1) ((13, 0) :: π) → jA d Q g1) : jA d Q g := by
  intro lv l0
  obtain ⟨ft, u, sa, wa, hS, hC, hT, hl⟩ := hg
  have hLP9 := hLP
  unfold lP at hLP9
  have hn0 := hB.2.2.1
  have hn1 := hB.2.2.2
  have hH : ∀ q, 0 ≤ q → -1 ≤ tH B n q ∧ tH B n q ≤ 255 := fun q hq => tH_b (jp_b hB.2.1) (by omega) hq
  refine t_0 jrc_40 rfl (ld_a l0) ?_
  refine t_3 jrc_41 rfl (ar := ([pvR 196], [])) (pcal_w (as := []) rfl rfl rfl jeo_196) ⟨by omega, Nat.le_of_ble_eq_true rfl, Nat.le_of_ble_eq_true rfl, rfl⟩ ?_
  refine jh_run hB hS (by omega) ?_ rfl
  have b1 := hH p (by omega)
  have z1 := tH_n (B := B) (n := n) (p := p)
  show t_X d 235 44 lv [oI (tH B n p)] g Q
  refine t_0 jrc_44 rfl (pq_b (by decide)) ?_
  refine tb_eq jrc_46 (by decide) ⟨by omega, by omega⟩ ⟨by omega, by omega⟩ (fun c2 => absurd c2 (by omega)) (fun c2 => ?_)
  show t_X d 235 49 lv [] g Q
  refine t_0 jrc_49 rfl (ld_a l0) ?_
  refine t_3 jrc_50 rfl (ar := ([pvR 196], [])) (pcal_w (as := []) rfl rfl rfl jeo_196) ⟨by omega, Nat.le_of_ble_eq_true rfl, Nat.le_of_ble_eq_true rfl, rfl⟩ ?_
  refine jh_run hB hS (by omega) ?_ rfl
  show t_X d 235 53 lv [oI (tH B n p)] g Q
  refine t_0 jrc_53 rfl (pq_b (by decide)) ?_
  refine tb_ne jrc_55 (by decide) ⟨by omega, by omega⟩ ⟨by omega, by omega⟩ (fun c3 => absurd c3 (by omega)) (fun c3 => ?_)
  show t_X d 235 58 lv [] g Q
  refine t_0 jrc_58 rfl (ld_a l0) ?_
  refine t_0 jrc_59 rfl (ld_a l0) ?_
  refine t_3 jrc_60 rfl (ar := ([pvR 196], [pvR 196])) (pcal_w (as := []) rfl rfl rfl jeo_196) ⟨by omega, Nat.le_of_ble_eq_true rfl, Nat.le_of_ble_eq_true rfl, rfl⟩ ?_
  refine jh_run hB hS (by omega) ?_ rfl
  show t_X d 235 63 lv [oI (tH B n p), pvR 196] g Q
  refine t_0 jrc_63 rfl (pq_b (by decide)) ?_
  refine tb_ne jrc_65 (by decide) ⟨by omega, by omega⟩ ⟨by omega, by omega⟩ (fun c4 => ?_) (fun c4 => absurd c4 (by omega))
  show t_X d 235 73 lv [pvR 196] g Q
  refine t_0 jrc_73 rfl (pq_b (by decide)) ?_
  refine t_3 jrc_75 rfl (ar := ([pvR 196, oI 13], [])) (pcal_w (as := [oI 13]) rfl rfl rfl jeo_196) ⟨by omega, Nat.le_of_ble_eq_true rfl, Nat.le_of_ble_eq_true rfl, rfl⟩ ?_
  refine jop_run (by omega) hB hS ⟨by omega, by omega⟩ (by omega) ⟨by omega, by omega⟩ ⟨by omega, by omega⟩ (fun t5 g5 hS5 => ?_) (fun t5 => absurd t5 (by omega)) rfl rfl
  show t_X d 235 78 lv [oI 1] g5 Q
  refine tz_ne jrc_78 (by decide) ⟨by omega, by omega⟩ (fun c6 => ?_) (fun c6 => absurd c6 (by omega))
  show t_X d 235 40 lv [] g5 Q
  exact hA _ ⟨ft, u, sa, _, (show jS g0 g5 (p + 1) k (((13, 0) :: π).length : Int) (δ + 1) ft u sa _ by rw [show (((13, 0) :: π).length : Int) = (π.length : Int) + 1 by rw [List.length_cons]; omega]; exact hS5), hC, (by have h7 := jK_p (a := 13) (b := 0) (w := (π.length : Int)) rfl hT (by omega) (by omega); rw [Int.add_zero] at h7; exact h7), (by rw [List.length_cons]; omega)⟩ _ l0
set_option maxHeartbeats 1000000 in
theorem pa_pd {d : Nat} (hd : 10 ≤ d) {g0 : pH} {B : tC} {n : Int} (hB : jB g0 B n) {p k δ : Int} {o v : tC} (hLP : lP n p k) (hδ : 0 ≤ δ ∧ δ ≤ 7) {π : List (Int × Int)} {g : pH} {Q : Option pv × pH → Prop} (hg : jSt g0 g p k o v δ π) (hh : tH B n p = 40) (h6 : δ = 6) (hQ : jOK g0 Q (-5000 - p)) : jA d Q g := by
  intro lv l0
  obtain ⟨ft, u, sa, wa, hS, hC, hT, hl⟩ := hg
  have hLP9 := hLP
  unfold lP at hLP9
  have hn0 := hB.2.2.1
  have hn1 := hB.2.2.2
  have hH : ∀ q, 0 ≤ q → -1 ≤ tH B n q ∧ tH B n q ≤ 255 := fun q hq => tH_b (jp_b hB.2.1) (by omega) hq
  refine t_0 jrc_40 rfl (ld_a l0) ?_
  refine t_3 jrc_41 rfl (ar := ([pvR 196], [])) (pcal_w (as := []) rfl rfl rfl jeo_196) ⟨by omega, Nat.le_of_ble_eq_true rfl, Nat.le_of_ble_eq_true rfl, rfl⟩ ?_
  refine jh_run hB hS (by omega) ?_ rfl
  have b1 := hH p (by omega)
  have z1 := tH_n (B := B) (n := n) (p := p)
  show t_X d 235 44 lv [oI (tH B n p)] g Q
  refine t_0 jrc_44 rfl (pq_b (by decide)) ?_
  refine tb_eq jrc_46 (by decide) ⟨by omega, by omega⟩ ⟨by omega, by omega⟩ (fun c2 => absurd c2 (by omega)) (fun c2 => ?_)
  show t_X d 235 49 lv [] g Q
  refine t_0 jrc_49 rfl (ld_a l0) ?_
  refine t_3 jrc_50 rfl (ar := ([pvR 196], [])) (pcal_w (as := []) rfl rfl rfl jeo_196) ⟨by omega, Nat.le_of_ble_eq_true rfl, Nat.le_of_ble_eq_true rfl, rfl⟩ ?_
  refine jh_run hB hS (by omega) ?_ rfl
  show t_X d 235 53 lv [oI (tH B n p)] g Q
  refine t_0 jrc_53 rfl (pq_b (by decide)) ?_
  refine tb_ne jrc_55 (by decide) ⟨by omega, by omega⟩ ⟨by omega, by omega⟩ (fun c3 => absurd c3 (by omega)) (fun c3 => ?_)
  show t_X d 235 58 lv [] g Q
  refine t_0 jrc_58 rfl (ld_a l0) ?_
  refine t_0 jrc_59 rfl (ld_a l0) ?_
  refine t_3 jrc_60 rfl (ar := ([pvR 196], [pvR 196])) (pcal_w (as := []) rfl rfl rfl jeo_196) ⟨by omega, Nat.le_of_ble_eq_true rfl, Nat.le_of_ble_eq_true rfl, rfl⟩ ?_
  refine jh_run hB hS (by omega) ?_ rfl
  show t_X d 235 63 lv [oI (tH B n p), pvR 196] g Q
  refine t_0 jrc_63 rfl (pq_b (by decide)) ?_
  refine tb_ne jrc_65 (by decide) ⟨by omega, by omega⟩ ⟨by omega, by omega⟩ (fun c4 => ?_) (fun c4 => absurd c4 (by omega))
  show t_X d 235 73 lv [pvR 196] g Q
  refine t_0 jrc_73 rfl (pq_b (by decide)) ?_
  refine t_3 jrc_75 rfl (ar := ([pvR 196, oI 13], [])) (pcal_w (as := [oI 13]) rfl rfl rfl jeo_196) ⟨by omega, Nat.le_of_ble_eq_true rfl, Nat.le_of_ble_eq_true rfl, rfl⟩ ?_
  refine jop_run (by omega) hB hS ⟨by omega, by omega⟩ (by omega) ⟨by omega, by omega⟩ ⟨by omega, by omega⟩ (fun t5 => absurd t5 (by omega)) (fun t5 g5 hS5 => ?_) rfl rfl
  show t_X d 235 78 lv [oI 0] g5 Q
  refine tz_ne jrc_78 (by decide) ⟨by omega, by omega⟩ (fun c6 => absurd c6 (by omega)) (fun c6 => ?_)
  show t_X d 235 81 lv [] g5 Q
  refine t_0 jrc_81 rfl rfl ?_
  refine t_5 jrc_82 rfl rfl ?_
  exact hQ _ ⟨_, _, _, _, _, _, _, hS5⟩
set_option maxHeartbeats 1000000 in
theorem pa_c {d : Nat} (hd : 10 ≤ d) {g0 : pH} {B : tC} {n : Int} (hB : jB g0 B n) {p k δ : Int} {o v : tC} (hLP : lP n p k) (hδ : 0 ≤ δ ∧ δ ≤ 7) {π : List (Int × Int)} {g : pH} {Q : Option pv × pH → Prop} (hg : jSt g0 g p k o v δ π) (hh : tH B n p ≠ 33) (hh2 : tH B n p ≠ 40) (hC9 : ∀ QD, (∀ g1, jR d Q g1 → QD (some (oI 1), g1)) → (∀ g1, Q (some (oI 0), g1) → QD (some (oI 0), g1)) → jCm (d - 1) QD g) : jA d Q g := by
  intro lv l0
  obtain ⟨ft, u, sa, wa, hS, hC, hT, hl⟩ := hg
  have hLP9 := hLP
  unfold lP at hLP9
  have hn0 := hB.2.2.1
  have hn1 := hB.2.2.2
  have hH : ∀ q, 0 ≤ q → -1 ≤ tH B n q ∧ tH B n q ≤ 255 := fun q hq => tH_b (jp_b hB.2.1) (by omega) hq
  refine t_0 jrc_40 rfl (ld_a l0) ?_
  refine t_3 jrc_41 rfl (ar := ([pvR 196], [])) (pcal_w (as := []) rfl rfl rfl jeo_196) ⟨by omega, Nat.le_of_ble_eq_true rfl, Nat.le_of_ble_eq_true rfl, rfl⟩ ?_
  refine jh_run hB hS (by omega) ?_ rfl
  have b1 := hH p (by omega)
  have z1 := tH_n (B := B) (n := n) (p := p)
  show t_X d 235 44 lv [oI (tH B n p)] g Q
  refine t_0 jrc_44 rfl (pq_b (by decide)) ?_
  refine tb_eq jrc_46 (by decide) ⟨by omega, by omega⟩ ⟨by omega, by omega⟩ (fun c2 => absurd c2 (by omega)) (fun c2 => ?_)
  show t_X d 235 49 lv [] g Q
  refine t_0 jrc_49 rfl (ld_a l0) ?_
  refine t_3 jrc_50 rfl (ar := ([pvR 196], [])) (pcal_w (as := []) rfl rfl rfl jeo_196) ⟨by omega, Nat.le_of_ble_eq_true rfl, Nat.le_of_ble_eq_true rfl, rfl⟩ ?_
  refine jh_run hB hS (by omega) ?_ rfl
  show t_X d 235 53 lv [oI (tH B n p)] g Q
  refine t_0 jrc_53 rfl (pq_b (by decide)) ?_
  refine tb_ne jrc_55 (by decide) ⟨by omega, by omega⟩ ⟨by omega, by omega⟩ (fun c3 => ?_) (fun c3 => absurd c3 (by omega))
  show t_X d 235 83 lv [] g Q
  refine t_0 jrc_83 rfl (ld_a l0) ?_
  refine t_3 jrc_84 rfl (ar := ([pvR 196], [])) (pcal_w (as := []) rfl rfl rfl jeo_196) ⟨by omega, Nat.le_of_ble_eq_true rfl, Nat.le_of_ble_eq_true rfl, rfl⟩ ?_
  refine hC9 _ (fun g8 a8 => ?_) (fun g8 a8 => ?_) _ rfl
  · show t_X d 235 87 lv [oI 1] g8 Q
    refine tz_ne jrc_87 (by decide) ⟨by omega, by omega⟩ (fun c4 => ?_) (fun c4 => absurd c4 (by omega))
    show t_X d 235 92 lv [] g8 Q
    exact a8 _ l0
  · show t_X d 235 87 lv [oI 0] g8 Q
    refine tz_ne jrc_87 (by decide) ⟨by omega, by omega⟩ (fun c5 => absurd c5 (by omega)) (fun c5 => ?_)
    show t_X d 235 90 lv [] g8 Q
    refine t_0 jrc_90 rfl rfl ?_
    refine t_5 jrc_91 rfl rfl ?_
    exact a8
set_option maxHeartbeats 1000000 in
theorem cr_p {d : Nat} (hd : 10 ≤ d) {g0 : pH} {B : tC} {n : Int} (hB : jB g0 B n) {p k δ : Int} {o v : tC} (hLP : lP n p k) (hδ : 0 ≤ δ ∧ δ ≤ 7) {π : List (Int × Int)} {g : pH} {Q : Option pv × pH → Prop} (hle : jLe g0 1 p k o v δ ((13, 0) :: π) g) (hh : tH B n p = 41) (hπ : 0 < π.length) (hE : jE g0 (jR d Q) (p + 1) k o v (δ - 1) π) : jR d Q g := by
  intro lv l0
  obtain ⟨⟨l, v8, hg⟩, hc⟩ := hle
  obtain ⟨ft, u, sa, wa, hS, hC, hT, hl⟩ := hg
  have hLP9 := hLP
  unfold lP at hLP9
  have hn0 := hB.2.2.1
  have hn1 := hB.2.2.2
  have hH : ∀ q, 0 ≤ q → -1 ≤ tH B n q ∧ tH B n q ≤ 255 := fun q hq => tH_b (jp_b hB.2.1) (by omega) hq
  have hl1 : (((13, 0) :: π : List (Int × Int)).length : Int) = (π.length : Int) + 1 := by rw [List.length_cons]; omega
  refine t_0 jrc_92 rfl (ld_a l0) ?_
  refine t_3 jrc_93 rfl (ar := ([pvR 196], [])) (pcal_w (as := []) rfl rfl rfl jeo_196) ⟨by omega, Nat.le_of_ble_eq_true rfl, Nat.le_of_ble_eq_true rfl, rfl⟩ ?_
  refine jh_run hB hS (by omega) ?_ rfl
  have b1 := hH p (by omega)
  have z1 := tH_n (B := B) (n := n) (p := p)
  show t_X d 235 96 lv [oI (tH B n p)] g Q
  refine t_0 jrc_96 rfl (pq_b (by decide)) ?_
  refine tb_ne jrc_98 (by decide) ⟨by omega, by omega⟩ ⟨by omega, by omega⟩ (fun c2 => absurd c2 (by omega)) (fun c2 => ?_)
  show t_X d 235 101 lv [] g Q
  refine t_0 jrc_101 rfl (ld_a l0) ?_
  refine t_0 jrc_102 rfl rfl ?_
  refine t_3 jrc_103 rfl (ar := ([pvR 196, oI 1], [])) (pcal_w (as := [oI 1]) rfl rfl rfl jeo_196) ⟨by omega, Nat.le_of_ble_eq_true rfl, Nat.le_of_ble_eq_true rfl, rfl⟩ ?_
  refine hc _ (by omega) _ (fun g9 h9 => ?_) _ rfl rfl
  obtain ⟨ft9, u9, sa9, wa9, hS9, hC9, hT9, hl9⟩ := h9
  show t_X d 235 106 lv [] g9 Q
  refine t_0 jrc_106 rfl (ld_a l0) ?_
  refine t_0 jrc_107 rfl (ld_a l0) ?_
  refine t_0 jrc_108 rfl (pq_cv jeo_196 rfl (show cF g9 196 33 = (((13, 0) :: π).length : Int) from S_f hS9 2 (Nat.le_of_ble_eq_true rfl))) ?_
  show t_X d 235 111 lv [oI ((((13, 0) :: π).length : Int)), pvR 196] g9 Q
  refine t_0 jrc_111 rfl rfl ?_
  refine t_0 jrc_112 rfl pq_sub ?_
  refine ts_f (n := 2) rfl rfl (by decide) jrc_113 rfl jeo_196 hS9 wt_jW_196_33 jgy_196_33 (by decide) ⟨by omega, by omega⟩ (fun g3 hS3 => ?_)
  replace hS3 : jS g0 g3 p k ((((13, 0) :: π).length : Int) - 1) δ ft9 u9 sa9 wa9 := hS3
  show t_X d 235 116 lv [] g3 Q
  refine t_0 jrc_116 rfl (ld_a l0) ?_
  refine t_0 jrc_117 rfl (ld_a l0) ?_
  refine t_0 jrc_118 rfl (pq_cv jeo_196 rfl (show cF g3 196 31 = δ from S_f hS3 3 (Nat.le_of_ble_eq_true rfl))) ?_
  show t_X d 235 121 lv [oI (δ), pvR 196] g3 Q
  refine t_0 jrc_121 rfl rfl ?_
  refine t_0 jrc_122 rfl pq_sub ?_
  refine ts_f (n := 3) rfl rfl (by decide) jrc_123 rfl jeo_196 hS3 wt_jW_196_31 jgy_196_31 (by decide) ⟨by omega, by omega⟩ (fun g4 hS4 => ?_)
  replace hS4 : jS g0 g4 p k ((((13, 0) :: π).length : Int) - 1) (δ - 1) ft9 u9 sa9 wa9 := hS4
  show t_X d 235 126 lv [] g4 Q
  refine t_0 jrc_126 rfl (ld_a l0) ?_
  refine t_0 jrc_127 rfl (ld_a l0) ?_
  refine t_0 jrc_128 rfl (pq_cv jeo_196 rfl (show cF g4 196 18 = p from S_f hS4 0 (Nat.le_of_ble_eq_true rfl))) ?_
  show t_X d 235 131 lv [oI (p), pvR 196] g4 Q
  refine t_0 jrc_131 rfl rfl ?_
  refine t_0 jrc_132 rfl pq_add ?_
  refine ts_f (n := 0) rfl rfl (by decide) jrc_133 rfl jeo_196 hS4 wt_jW_196_18 jgy_196_18 (by decide) ⟨by omega, by omega⟩ (fun g5 hS5 => ?_)
  replace hS5 : jS g0 g5 (p + 1) k ((((13, 0) :: π).length : Int) - 1) (δ - 1) ft9 u9 sa9 wa9 := hS5
  show t_X d 235 136 lv [] g5 Q
  refine t_0 jrc_136 rfl (ld_a l0) ?_
  refine t_0 jrc_137 rfl (pq_cv jeo_196 rfl (show cF g5 196 33 = (((13, 0) :: π).length : Int) - 1 from S_f hS5 2 (Nat.le_of_ble_eq_true rfl))) ?_
  show t_X d 235 140 lv [oI ((((13, 0) :: π).length : Int) - 1)] g5 Q
  refine tz_ne jrc_140 (by decide) ⟨by omega, by omega⟩ (fun c6 => ?_) (fun c6 => absurd c6 (by omega))
  show t_X d 235 145 lv [] g5 Q
  refine t_0 jrc_145 rfl (ld_a l0) ?_
  refine t_3 jrc_146 rfl (ar := ([pvR 196], [])) (pcal_w (as := []) rfl rfl rfl jeo_196) ⟨by omega, Nat.le_of_ble_eq_true rfl, Nat.le_of_ble_eq_true rfl, rfl⟩ ?_
  refine hE _ ⟨ft9, u9, sa9, wa9, (show jS g0 g5 (p + 1) k (π.length : Int) (δ - 1) ft9 u9 sa9 wa9 by rw [show (π.length : Int) = ((((13, 0) : Int × Int) :: π).length : Int) - 1 by rw [List.length_cons]; omega]; exact hS5), hC9, hT9.2, by omega⟩ _ (by omega) _ (fun g7 r7 => ?_) _ rfl
  show t_X d 235 149 lv [] g7 Q
  refine t_1 jrc_149 rfl (pb_goto (pc := 149) (by decide)) ?_
  show t_X d 235 92 lv [] g7 Q
  exact r7 _ l0
set_option maxHeartbeats 1000000 in
theorem cr_e {d : Nat} (hd : 10 ≤ d) {g0 : pH} {B : tC} {n : Int} (hB : jB g0 B n) {p k δ : Int} {o v : tC} (hLP : lP n p k) (hδ : 0 ≤ δ ∧ δ ≤ 7) {π : List (Int × Int)} {g : pH} {Q : Option pv × pH → Prop} (hle : jLe g0 1 p k o v δ [(13, 0)] g) (hh : tH B n p = 41) (hO : ∀ g1, jSt g0 g1 (p + 1) k o v (δ - 1) [] → Q (some (oI 1), g1)) : jR d Q g := by
  intro lv l0
  obtain ⟨⟨l, v8, hg⟩, hc⟩ := hle
  obtain ⟨ft, u, sa, wa, hS, hC, hT, hl⟩ := hg
  have hLP9 := hLP
  unfold lP at hLP9
  have hn0 := hB.2.2.1
  have hn1 := hB.2.2.2
  have hH : ∀ q, 0 ≤ q → -1 ≤ tH B n q ∧ tH B n q ≤ 255 := fun q hq => tH_b (jp_b hB.2.1) (by omega) hq
  have hl1 : (([(13, 0)] : List (Int × Int)).length : Int) = 1 := rfl
  refine t_0 jrc_92 rfl (ld_a l0) ?_
  refine t_3 jrc_93 rfl (ar := ([pvR 196], [])) (pcal_w (as := []) rfl rfl rfl jeo_196) ⟨by omega, Nat.le_of_ble_eq_true rfl, Nat.le_of_ble_eq_true rfl, rfl⟩ ?_
  refine jh_run hB hS (by omega) ?_ rfl
  have b1 := hH p (by omega)
  have z1 := tH_n (B := B) (n := n) (p := p)
  show t_X d 235 96 lv [oI (tH B n p)] g Q
  refine t_0 jrc_96 rfl (pq_b (by decide)) ?_
  refine tb_ne jrc_98 (by decide) ⟨by omega, by omega⟩ ⟨by omega, by omega⟩ (fun c2 => absurd c2 (by omega)) (fun c2 => ?_)
  show t_X d 235 101 lv [] g Q
  refine t_0 jrc_101 rfl (ld_a l0) ?_
  refine t_0 jrc_102 rfl rfl ?_
  refine t_3 jrc_103 rfl (ar := ([pvR 196, oI 1], [])) (pcal_w (as := [oI 1]) rfl rfl rfl jeo_196) ⟨by omega, Nat.le_of_ble_eq_true rfl, Nat.le_of_ble_eq_true rfl, rfl⟩ ?_
  refine hc _ (by omega) _ (fun g9 h9 => ?_) _ rfl rfl
  obtain ⟨ft9, u9, sa9, wa9, hS9, hC9, hT9, hl9⟩ := h9
  show t_X d 235 106 lv [] g9 Q
  refine t_0 jrc_106 rfl (ld_a l0) ?_
  refine t_0 jrc_107 rfl (ld_a l0) ?_
  refine t_0 jrc_108 rfl (pq_cv jeo_196 rfl (show cF g9 196 33 = ([(13, 0)].length : Int) from S_f hS9 2 (Nat.le_of_ble_eq_true rfl))) ?_
  show t_X d 235 111 lv [oI (([(13, 0)].length : Int)), pvR 196] g9 Q
  refine t_0 jrc_111 rfl rfl ?_
  refine t_0 jrc_112 rfl pq_sub ?_
  refine ts_f (n := 2) rfl rfl (by decide) jrc_113 rfl jeo_196 hS9 wt_jW_196_33 jgy_196_33 (by decide) ⟨by omega, by omega⟩ (fun g3 hS3 => ?_)
  replace hS3 : jS g0 g3 p k (([(13, 0)].length : Int) - 1) δ ft9 u9 sa9 wa9 := hS3
  show t_X d 235 116 lv [] g3 Q
  refine t_0 jrc_116 rfl (ld_a l0) ?_
  refine t_0 jrc_117 rfl (ld_a l0) ?_
  refine t_0 jrc_118 rfl (pq_cv jeo_196 rfl (show cF g3 196 31 = δ from S_f hS3 3 (Nat.le_of_ble_eq_true rfl))) ?_
  show t_X d 235 121 lv [oI (δ), pvR 196] g3 Q
  refine t_0 jrc_121 rfl rfl ?_
  refine t_0 jrc_122 rfl pq_sub ?_
  refine ts_f (n := 3) rfl rfl (by decide) jrc_123 rfl jeo_196 hS3 wt_jW_196_31 jgy_196_31 (by decide) ⟨by omega, by omega⟩ (fun g4 hS4 => ?_)
  replace hS4 : jS g0 g4 p k (([(13, 0)].length : Int) - 1) (δ - 1) ft9 u9 sa9 wa9 := hS4
  show t_X d 235 126 lv [] g4 Q
  refine t_0 jrc_126 rfl (ld_a l0) ?_
  refine t_0 jrc_127 rfl (ld_a l0) ?_
  refine t_0 jrc_128 rfl (pq_cv jeo_196 rfl (show cF g4 196 18 = p from S_f hS4 0 (Nat.le_of_ble_eq_true rfl))) ?_
  show t_X d 235 131 lv [oI (p), pvR 196] g4 Q
  refine t_0 jrc_131 rfl rfl ?_
  refine t_0 jrc_132 rfl pq_add ?_
  refine ts_f (n := 0) rfl rfl (by decide) jrc_133 rfl jeo_196 hS4 wt_jW_196_18 jgy_196_18 (by decide) ⟨by omega, by omega⟩ (fun g5 hS5 => ?_)
  replace hS5 : jS g0 g5 (p + 1) k (([(13, 0)].length : Int) - 1) (δ - 1) ft9 u9 sa9 wa9 := hS5
  show t_X d 235 136 lv [] g5 Q
  refine t_0 jrc_136 rfl (ld_a l0) ?_
  refine t_0 jrc_137 rfl (pq_cv jeo_196 rfl (show cF g5 196 33 = ([(13, 0)].length : Int) - 1 from S_f hS5 2 (Nat.le_of_ble_eq_true rfl))) ?_
  show t_X d 235 140 lv [oI (([(13, 0)].length : Int) - 1)] g5 Q
  refine tz_ne jrc_140 (by decide) ⟨by omega, by omega⟩ (fun c6 => absurd c6 (by omega)) (fun c6 => ?_)
  show t_X d 235 143 lv [] g5 Q
  refine t_0 jrc_143 rfl rfl ?_
  refine t_5 jrc_144 rfl rfl ?_
  exact hO _ ⟨ft9, u9, sa9, wa9, hS5, hC9, trivial, by show ((0 : Nat) : Int) ≤ _; omega⟩
set_option maxHeartbeats 1000000 in
theorem cr_a {d : Nat} (hd : 10 ≤ d) {g0 : pH} {B : tC} {n : Int} (hB : jB g0 B n) {p k δ : Int} {o v : tC} (hLP : lP n p k) (hδ : 0 ≤ δ ∧ δ ≤ 7) {π : List (Int × Int)} {g : pH} {Q : Option pv × pH → Prop} (hle : jLe g0 0 p k o v δ π g) (hh : tH B n p = 38) (hA : ∀ g1, jSt g0 g1 (p + 1) (k + 1) (updI o k.toNat 11) (updI v k.toNat 0) δ ((11, k) :: π) → jA d Q g1) : jR d Q g := by
  intro lv l0
  obtain ⟨⟨l, v8, hg⟩, hc⟩ := hle
  obtain ⟨ft, u, sa, wa, hS, hC, hT, hl⟩ := hg
  have hLP9 := hLP
  unfold lP at hLP9
  have hn0 := hB.2.2.1
  have hn1 := hB.2.2.2
  have hH : ∀ q, 0 ≤ q → -1 ≤ tH B n q ∧ tH B n q ≤ 255 := fun q hq => tH_b (jp_b hB.2.1) (by omega) hq
  refine t_0 jrc_92 rfl (ld_a l0) ?_
  refine t_3 jrc_93 rfl (ar := ([pvR 196], [])) (pcal_w (as := []) rfl rfl rfl jeo_196) ⟨by omega, Nat.le_of_ble_eq_true rfl, Nat.le_of_ble_eq_true rfl, rfl⟩ ?_
  refine jh_run hB hS (by omega) ?_ rfl
  have b1 := hH p (by omega)
  have z1 := tH_n (B := B) (n := n) (p := p)
  show t_X d 235 96 lv [oI (tH B n p)] g Q
  refine t_0 jrc_96 rfl (pq_b (by decide)) ?_
  refine tb_ne jrc_98 (by decide) ⟨by omega, by omega⟩ ⟨by omega, by omega⟩ (fun c2 => ?_) (fun c2 => absurd c2 (by omega))
  show t_X d 235 152 lv [] g Q
  refine t_0 jrc_152 rfl (ld_a l0) ?_
  refine t_3 jrc_153 rfl (ar := ([pvR 196], [])) (pcal_w (as := []) rfl rfl rfl jeo_196) ⟨by omega, Nat.le_of_ble_eq_true rfl, Nat.le_of_ble_eq_true rfl, rfl⟩ ?_
  refine jh_run hB hS (by omega) ?_ rfl
  show t_X d 235 156 lv [oI (tH B n p)] g Q
  refine t_0 jrc_156 rfl (pq_b (by decide)) ?_
  refine tb_eq jrc_158 (by decide) ⟨by omega, by omega⟩ ⟨by omega, by omega⟩ (fun c3 => ?_) (fun c3 => absurd c3 (by omega))
  show t_X d 235 180 lv [] g Q
  refine t_0 jrc_180 rfl (ld_a l0) ?_
  refine t_0 jrc_181 rfl (ld_a l0) ?_
  refine t_3 jrc_182 rfl (ar := ([pvR 196], [pvR 196])) (pcal_w (as := []) rfl rfl rfl jeo_196) ⟨by omega, Nat.le_of_ble_eq_true rfl, Nat.le_of_ble_eq_true rfl, rfl⟩ ?_
  refine jh_run hB hS (by omega) ?_ rfl
  show t_X d 235 185 lv [oI (tH B n p), pvR 196] g Q
  refine t_0 jrc_185 rfl (pq_b (by decide)) ?_
  refine tb_ne jrc_187 (by decide) ⟨by omega, by omega⟩ ⟨by omega, by omega⟩ (fun c4 => ?_) (fun c4 => absurd c4 (by omega))
  show t_X d 235 194 lv [pvR 196] g Q
  refine t_0 jrc_194 rfl rfl ?_
  refine t_3 jrc_195 rfl (ar := ([pvR 196, oI 0], [])) (pcal_w (as := [oI 0]) rfl rfl rfl jeo_196) ⟨by omega, Nat.le_of_ble_eq_true rfl, Nat.le_of_ble_eq_true rfl, rfl⟩ ?_
  refine hc _ (by omega) _ (fun g9 h9 => ?_) _ rfl rfl
  obtain ⟨ft9, u9, sa9, wa9, hS9, hC9, hT9, hl9⟩ := h9
  show t_X d 235 198 lv [] g9 Q
  refine t_0 jrc_198 rfl (ld_a l0) ?_
  refine t_0 jrc_199 rfl (ld_a l0) ?_
  refine t_3 jrc_200 rfl (ar := ([pvR 196], [pvR 196])) (pcal_w (as := []) rfl rfl rfl jeo_196) ⟨by omega, Nat.le_of_ble_eq_true rfl, Nat.le_of_ble_eq_true rfl, rfl⟩ ?_
  refine jh_run hB hS9 (by omega) ?_ rfl
  show t_X d 235 203 lv [oI (tH B n p), pvR 196] g9 Q
  refine t_0 jrc_203 rfl (pq_b (by decide)) ?_
  refine tb_ne jrc_205 (by decide) ⟨by omega, by omega⟩ ⟨by omega, by omega⟩ (fun c5 => absurd c5 (by omega)) (fun c5 => ?_)
  show t_X d 235 208 lv [pvR 196] g9 Q
  refine t_0 jrc_208 rfl (pq_b (by decide)) ?_
  refine t_1 jrc_210 rfl (pb_goto (pc := 210) (by decide)) ?_
  show t_X d 235 215 lv [oI 11, pvR 196] g9 Q
  refine t_3 jrc_215 rfl (ar := ([pvR 196, oI 11], [])) (pcal_w (as := [oI 11]) rfl rfl rfl jeo_196) ⟨by omega, Nat.le_of_ble_eq_true rfl, Nat.le_of_ble_eq_true rfl, rfl⟩ ?_
  refine jju_run (by omega) hB hS9 ⟨by omega, by omega⟩ (by omega) (by omega) (by omega) (fun g6 hS6 => ?_) rfl rfl
  show t_X d 235 218 lv [] g6 Q
  refine t_1 jrc_218 rfl (pb_goto (pc := 218) (by decide)) ?_
  show t_X d 235 40 lv [] g6 Q
  exact hA _ ⟨ft9, u9, _, _, (show jS g0 g6 (p + 1) (k + 1) (((11, k) :: π).length : Int) δ ft9 u9 _ _ by rw [show (((11, k) :: π).length : Int) = (π.length : Int) + 1 by rw [List.length_cons]; omega]; exact hS6), (by have h7 := jC_e (a := 11) (b := 0) (by omega) hC9 (by omega) (by omega); rw [Int.add_zero] at h7; exact h7), jK_p (a := 11) (b := k) (w := (π.length : Int)) rfl hT9 (by omega) (by omega), (by rw [List.length_cons]; omega)⟩ _ l0
set_option maxHeartbeats 1000000 in
theorem cr_o {d : Nat} (hd : 10 ≤ d) {g0 : pH} {B : tC} {n : Int} (hB : jB g0 B n) {p k δ : Int} {o v : tC} (hLP : lP n p k) (hδ : 0 ≤ δ ∧ δ ≤ 7) {π : List (Int × Int)} {g : pH} {Q : Option pv × pH → Prop} (hle : jLe g0 1 p k o v δ π g) (hh : tH B n p = 124) (hA : ∀ g1, jSt g0 g1 (p + 1) (k + 1) (updI o k.toNat 12) (updI v k.toNat 0) δ ((12, k) :: π) → jA d Q g1) : jR d Q g := by
  intro lv l0
  obtain ⟨⟨l, v8, hg⟩, hc⟩ := hle
  obtain ⟨ft, u, sa, wa, hS, hC, hT, hl⟩ := hg
  have hLP9 := hLP
  unfold lP at hLP9
  have hn0 := hB.2.2.1
  have hn1 := hB.2.2.2
  have hH : ∀ q, 0 ≤ q → -1 ≤ tH B n q ∧ tH B n q ≤ 255 := fun q hq => tH_b (jp_b hB.2.1) (by omega) hq
  refine t_0 jrc_92 rfl (ld_a l0) ?_
  refine t_3 jrc_93 rfl (ar := ([pvR 196], [])) (pcal_w (as := []) rfl rfl rfl jeo_196) ⟨by omega, Nat.le_of_ble_eq_true rfl, Nat.le_of_ble_eq_true rfl, rfl⟩ ?_
  refine jh_run hB hS (by omega) ?_ rfl
  have b1 := hH p (by omega)
  have z1 := tH_n (B := B) (n := n) (p := p)
  show t_X d 235 96 lv [oI (tH B n p)] g Q
  refine t_0 jrc_96 rfl (pq_b (by decide)) ?_
  refine tb_ne jrc_98 (by decide) ⟨by omega, by omega⟩ ⟨by omega, by omega⟩ (fun c2 => ?_) (fun c2 => absurd c2 (by omega))
  show t_X d 235 152 lv [] g Q
  refine t_0 jrc_152 rfl (ld_a l0) ?_
  refine t_3 jrc_153 rfl (ar := ([pvR 196], [])) (pcal_w (as := []) rfl rfl rfl jeo_196) ⟨by omega, Nat.le_of_ble_eq_true rfl, Nat.le_of_ble_eq_true rfl, rfl⟩ ?_
  refine jh_run hB hS (by omega) ?_ rfl
  show t_X d 235 156 lv [oI (tH B n p)] g Q
  refine t_0 jrc_156 rfl (pq_b (by decide)) ?_
  refine tb_eq jrc_158 (by decide) ⟨by omega, by omega⟩ ⟨by omega, by omega⟩ (fun c3 => absurd c3 (by omega)) (fun c3 => ?_)
  show t_X d 235 161 lv [] g Q
  refine t_0 jrc_161 rfl (ld_a l0) ?_
  refine t_3 jrc_162 rfl (ar := ([pvR 196], [])) (pcal_w (as := []) rfl rfl rfl jeo_196) ⟨by omega, Nat.le_of_ble_eq_true rfl, Nat.le_of_ble_eq_true rfl, rfl⟩ ?_
  refine jh_run hB hS (by omega) ?_ rfl
  show t_X d 235 165 lv [oI (tH B n p)] g Q
  refine t_0 jrc_165 rfl (pq_b (by decide)) ?_
  refine tb_eq jrc_167 (by decide) ⟨by omega, by omega⟩ ⟨by omega, by omega⟩ (fun c4 => ?_) (fun c4 => absurd c4 (by omega))
  show t_X d 235 180 lv [] g Q
  refine t_0 jrc_180 rfl (ld_a l0) ?_
  refine t_0 jrc_181 rfl (ld_a l0) ?_
  refine t_3 jrc_182 rfl (ar := ([pvR 196], [pvR 196])) (pcal_w (as := []) rfl rfl rfl jeo_196) ⟨by omega, Nat.le_of_ble_eq_true rfl, Nat.le_of_ble_eq_true rfl, rfl⟩ ?_
  refine jh_run hB hS (by omega) ?_ rfl
  show t_X d 235 185 lv [oI (tH B n p), pvR 196] g Q
  refine t_0 jrc_185 rfl (pq_b (by decide)) ?_
  refine tb_ne jrc_187 (by decide) ⟨by omega, by omega⟩ ⟨by omega, by omega⟩ (fun c5 => absurd c5 (by omega)) (fun c5 => ?_)
  show t_X d 235 190 lv [pvR 196] g Q
  refine t_0 jrc_190 rfl rfl ?_
  refine t_1 jrc_191 rfl (pb_goto (pc := 191) (by decide)) ?_
  show t_X d 235 195 lv [oI 1, pvR 196] g Q
  refine t_3 jrc_195 rfl (ar := ([pvR 196, oI 1], [])) (pcal_w (as := [oI 1]) rfl rfl rfl jeo_196) ⟨by omega, Nat.le_of_ble_eq_true rfl, Nat.le_of_ble_eq_true rfl, rfl⟩ ?_
  refine hc _ (by omega) _ (fun g9 h9 => ?_) _ rfl rfl
  obtain ⟨ft9, u9, sa9, wa9, hS9, hC9, hT9, hl9⟩ := h9
  show t_X d 235 198 lv [] g9 Q
  refine t_0 jrc_198 rfl (ld_a l0) ?_
  refine t_0 jrc_199 rfl (ld_a l0) ?_
  refine t_3 jrc_200 rfl (ar := ([pvR 196], [pvR 196])) (pcal_w (as := []) rfl rfl rfl jeo_196) ⟨by omega, Nat.le_of_ble_eq_true rfl, Nat.le_of_ble_eq_true rfl, rfl⟩ ?_
  refine jh_run hB hS9 (by omega) ?_ rfl
  show t_X d 235 203 lv [oI (tH B n p), pvR 196] g9 Q
  refine t_0 jrc_203 rfl (pq_b (by decide)) ?_
  refine tb_ne jrc_205 (by decide) ⟨by omega, by omega⟩ ⟨by omega, by omega⟩ (fun c6 => ?_) (fun c6 => absurd c6 (by omega))
  show t_X d 235 213 lv [pvR 196] g9 Q
  refine t_0 jrc_213 rfl (pq_b (by decide)) ?_
  refine t_3 jrc_215 rfl (ar := ([pvR 196, oI 12], [])) (pcal_w (as := [oI 12]) rfl rfl rfl jeo_196) ⟨by omega, Nat.le_of_ble_eq_true rfl, Nat.le_of_ble_eq_true rfl, rfl⟩ ?_
  refine jju_run (by omega) hB hS9 ⟨by omega, by omega⟩ (by omega) (by omega) (by omega) (fun g7 hS7 => ?_) rfl rfl
  show t_X d 235 218 lv [] g7 Q
  refine t_1 jrc_218 rfl (pb_goto (pc := 218) (by decide)) ?_
  show t_X d 235 40 lv [] g7 Q
  exact hA _ ⟨ft9, u9, _, _, (show jS g0 g7 (p + 1) (k + 1) (((12, k) :: π).length : Int) δ ft9 u9 _ _ by rw [show (((12, k) :: π).length : Int) = (π.length : Int) + 1 by rw [List.length_cons]; omega]; exact hS7), (by have h7 := jC_e (a := 12) (b := 0) (by omega) hC9 (by omega) (by omega); rw [Int.add_zero] at h7; exact h7), jK_p (a := 12) (b := k) (w := (π.length : Int)) rfl hT9 (by omega) (by omega), (by rw [List.length_cons]; omega)⟩ _ l0
set_option maxHeartbeats 1000000 in
theorem cr_b {d : Nat} (hd : 10 ≤ d) {g0 : pH} {B : tC} {n : Int} (hB : jB g0 B n) {p k δ : Int} {o v : tC} (hLP : lP n p k) (hδ : 0 ≤ δ ∧ δ ≤ 7) {π : List (Int × Int)} {g : pH} {Q : Option pv × pH → Prop} (hg : jSt g0 g p k o v δ π) (hh : tH B n p ≠ 41) (hh2 : tH B n p ≠ 38) (hh3 : tH B n p ≠ 124) (hQ : jOK g0 Q (-1000 - p)) : jR d Q g := by
  intro lv l0
  obtain ⟨ft, u, sa, wa, hS, hC, hT, hl⟩ := hg
  have hLP9 := hLP
  unfold lP at hLP9
  have hn0 := hB.2.2.1
  have hn1 := hB.2.2.2
  have hH : ∀ q, 0 ≤ q → -1 ≤ tH B n q ∧ tH B n q ≤ 255 := fun q hq => tH_b (jp_b hB.2.1) (by omega) hq
  refine t_0 jrc_92 rfl (ld_a l0) ?_
  refine t_3 jrc_93 rfl (ar := ([pvR 196], [])) (pcal_w (as := []) rfl rfl rfl jeo_196) ⟨by omega, Nat.le_of_ble_eq_true rfl, Nat.le_of_ble_eq_true rfl, rfl⟩ ?_
  refine jh_run hB hS (by omega) ?_ rfl
  have b1 := hH p (by omega)
  have z1 := tH_n (B := B) (n := n) (p := p)
  show t_X d 235 96 lv [oI (tH B n p)] g Q
  refine t_0 jrc_96 rfl (pq_b (by decide)) ?_
  refine tb_ne jrc_98 (by decide) ⟨by omega, by omega⟩ ⟨by omega, by omega⟩ (fun c2 => ?_) (fun c2 => absurd c2 (by omega))
  show t_X d 235 152 lv [] g Q
  refine t_0 jrc_152 rfl (ld_a l0) ?_
  refine t_3 jrc_153 rfl (ar := ([pvR 196], [])) (pcal_w (as := []) rfl rfl rfl jeo_196) ⟨by omega, Nat.le_of_ble_eq_true rfl, Nat.le_of_ble_eq_true rfl, rfl⟩ ?_
  refine jh_run hB hS (by omega) ?_ rfl
  show t_X d 235 156 lv [oI (tH B n p)] g Q
  refine t_0 jrc_156 rfl (pq_b (by decide)) ?_
  refine tb_eq jrc_158 (by decide) ⟨by omega, by omega⟩ ⟨by omega, by omega⟩ (fun c3 => absurd c3 (by omega)) (fun c3 => ?_)
  show t_X d 235 161 lv [] g Q
  refine t_0 jrc_161 rfl (ld_a l0) ?_
  refine t_3 jrc_162 rfl (ar := ([pvR 196], [])) (pcal_w (as := []) rfl rfl rfl jeo_196) ⟨by omega, Nat.le_of_ble_eq_true rfl, Nat.le_of_ble_eq_true rfl, rfl⟩ ?_
  refine jh_run hB hS (by omega) ?_ rfl
  show t_X d 235 165 lv [oI (tH B n p)] g Q
  refine t_0 jrc_165 rfl (pq_b (by decide)) ?_
  refine tb_eq jrc_167 (by decide) ⟨by omega, by omega⟩ ⟨by omega, by omega⟩ (fun c4 => absurd c4 (by omega)) (fun c4 => ?_)
  show t_X d 235 170 lv [] g Q
  refine t_0 jrc_170 rfl (ld_a l0) ?_
  refine t_0 jrc_171 rfl rfl ?_
  refine t_0 jrc_172 rfl (ld_a l0) ?_
  refine t_0 jrc_173 rfl (pq_cv jeo_196 rfl (show cF g 196 18 = p from S_f hS 0 (Nat.le_of_ble_eq_true rfl))) ?_
  show t_X d 235 176 lv [oI (p), oI 1, pvR 196] g Q
  refine t_3 jrc_176 rfl (ar := ([pvR 196, oI 1, oI (p)], [])) (pcal_w (as := [oI (p), oI 1]) rfl rfl rfl jeo_196) ⟨by omega, Nat.le_of_ble_eq_true rfl, Nat.le_of_ble_eq_true rfl, rfl⟩ ?_
  refine jw_run hB hS ⟨by omega, by omega⟩ ⟨by omega, by omega⟩ (fun g5 hS5 => ?_) rfl rfl rfl
  replace hS5 : jS g0 g5 p k (π.length : Int) δ (-1000 * 1 - p) u sa wa := hS5
  show t_X d 235 179 lv [oI 0] g5 Q
  refine t_5 jrc_179 rfl rfl ?_
  exact hQ _ ⟨_, _, _, _, _, _, _, (show jS g0 g5 _ _ _ _ (-1000 - p) _ _ _ by rw [show -1000 - p = -1000 * 1 - p by omega]; exact hS5)⟩
