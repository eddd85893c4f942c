/-! the tie: rows of twos: the reference (printed by wip/e2/t16.py) -/
theorem qgcl9_35 : xe_look (xc 194) 35 = some (.iload_n 3, 1, 0, 0, 0) := by decide +kernel
theorem qgcl9_36 : xe_look (xc 194) 36 = some (.aload_n 0, 1, 0, 0, 0) := by decide +kernel
theorem qgcl9_37 : xe_look (xc 194) 37 = some (.getfield 212, 3, 12, 22, 1147) := by decide +kernel
theorem qgcl9_40 : xe_look (xc 194) 40 = some (.if_icmp .ge 60, 3, 0, 0, 0) := by decide +kernel
theorem qgcl9_43 : xe_look (xc 194) 43 = some (.aload_n 0, 1, 0, 0, 0) := by decide +kernel
theorem qgcl9_44 : xe_look (xc 194) 44 = some (.getfield 37, 3, 12, 11, 1148) := by decide +kernel
theorem qgcl9_47 : xe_look (xc 194) 47 = some (.iload_n 3, 1, 0, 0, 0) := by decide +kernel
theorem qgcl9_48 : xe_look (xc 194) 48 = some (.iaload, 1, 0, 0, 0) := by decide +kernel
theorem qgcl9_49 : xe_look (xc 194) 49 = some (.iload_n 1, 1, 0, 0, 0) := by decide +kernel
theorem qgcl9_50 : xe_look (xc 194) 50 = some (.if_icmp .eq 44, 3, 0, 0, 0) := by decide +kernel
theorem qgcl9_53 : xe_look (xc 194) 53 = some (.aload_n 0, 1, 0, 0, 0) := by decide +kernel
theorem qgcl9_54 : xe_look (xc 194) 54 = some (.getfield 40, 3, 12, 12, 1149) := by decide +kernel
theorem qgcl9_57 : xe_look (xc 194) 57 = some (.iload_n 3, 1, 0, 0, 0) := by decide +kernel
theorem qgcl9_58 : xe_look (xc 194) 58 = some (.iaload, 1, 0, 0, 0) := by decide +kernel
theorem qgcl9_59 : xe_look (xc 194) 59 = some (.iload_n 1, 1, 0, 0, 0) := by decide +kernel
theorem qgcl9_60 : xe_look (xc 194) 60 = some (.if_icmp .ne 6, 3, 0, 0, 0) := by decide +kernel
theorem qgcl9_63 : xe_look (xc 194) 63 = some (.goto 31, 3, 0, 0, 0) := by decide +kernel
theorem qgcl9_66 : xe_look (xc 194) 66 = some (.aload_n 0, 1, 0, 0, 0) := by decide +kernel
theorem qgcl9_67 : xe_look (xc 194) 67 = some (.getfield 37, 3, 12, 11, 1148) := by decide +kernel
theorem qgcl9_70 : xe_look (xc 194) 70 = some (.iload_n 2, 1, 0, 0, 0) := by decide +kernel
theorem qgcl9_71 : xe_look (xc 194) 71 = some (.aload_n 0, 1, 0, 0, 0) := by decide +kernel
theorem qgcl9_72 : xe_look (xc 194) 72 = some (.getfield 37, 3, 12, 11, 1148) := by decide +kernel
theorem qgcl9_75 : xe_look (xc 194) 75 = some (.iload_n 3, 1, 0, 0, 0) := by decide +kernel
theorem qgcl9_76 : xe_look (xc 194) 76 = some (.iaload, 1, 0, 0, 0) := by decide +kernel
theorem qgcl9_77 : xe_look (xc 194) 77 = some (.iastore, 1, 0, 0, 0) := by decide +kernel
theorem qgcl9_78 : xe_look (xc 194) 78 = some (.aload_n 0, 1, 0, 0, 0) := by decide +kernel
theorem qgcl9_79 : xe_look (xc 194) 79 = some (.getfield 40, 3, 12, 12, 1149) := by decide +kernel
theorem qgcl9_82 : xe_look (xc 194) 82 = some (.iload_n 2, 1, 0, 0, 0) := by decide +kernel
theorem qgcl9_83 : xe_look (xc 194) 83 = some (.aload_n 0, 1, 0, 0, 0) := by decide +kernel
theorem qgcl9_84 : xe_look (xc 194) 84 = some (.getfield 40, 3, 12, 12, 1149) := by decide +kernel
theorem qgcl9_87 : xe_look (xc 194) 87 = some (.iload_n 3, 1, 0, 0, 0) := by decide +kernel
theorem qgcl9_88 : xe_look (xc 194) 88 = some (.iaload, 1, 0, 0, 0) := by decide +kernel
theorem qgcl9_89 : xe_look (xc 194) 89 = some (.iastore, 1, 0, 0, 0) := by decide +kernel
theorem qgcl9_90 : xe_look (xc 194) 90 = some (.iload_n 2, 1, 0, 0, 0) := by decide +kernel
theorem qgcl9_91 : xe_look (xc 194) 91 = some (.iconst 1, 1, 0, 0, 0) := by decide +kernel
theorem qgcl9_92 : xe_look (xc 194) 92 = some (.iadd, 1, 0, 0, 0) := by decide +kernel
theorem qgcl9_93 : xe_look (xc 194) 93 = some (.istore_n 2, 1, 0, 0, 0) := by decide +kernel
theorem qgcl9_94 : xe_look (xc 194) 94 = some (.iinc 3 1, 3, 0, 0, 0) := by decide +kernel
theorem qgcl9_97 : xe_look (xc 194) 97 = some (.goto (-62), 3, 0, 0, 0) := by decide +kernel
theorem qgcl9_100 : xe_look (xc 194) 100 = some (.aload_n 0, 1, 0, 0, 0) := by decide +kernel
theorem qgcl9_101 : xe_look (xc 194) 101 = some (.iload_n 2, 1, 0, 0, 0) := by decide +kernel
theorem qgcl9_102 : xe_look (xc 194) 102 = some (.putfield 212, 3, 12, 22, 1147) := by decide +kernel
theorem qgli9_109 : xe_look (xc 194) 109 = some (.iload_n 3, 1, 0, 0, 0) := by decide +kernel
theorem qgli9_110 : xe_look (xc 194) 110 = some (.aload_n 0, 1, 0, 0, 0) := by decide +kernel
theorem qgli9_111 : xe_look (xc 194) 111 = some (.getfield 215, 3, 12, 23, 1117) := by decide +kernel
theorem qgli9_114 : xe_look (xc 194) 114 = some (.if_icmp .ge 60, 3, 0, 0, 0) := by decide +kernel
theorem qgli9_117 : xe_look (xc 194) 117 = some (.aload_n 0, 1, 0, 0, 0) := by decide +kernel
theorem qgli9_118 : xe_look (xc 194) 118 = some (.getfield 43, 3, 12, 13, 1120) := by decide +kernel
theorem qgli9_121 : xe_look (xc 194) 121 = some (.iload_n 3, 1, 0, 0, 0) := by decide +kernel
theorem qgli9_122 : xe_look (xc 194) 122 = some (.iaload, 1, 0, 0, 0) := by decide +kernel
theorem qgli9_123 : xe_look (xc 194) 123 = some (.iload_n 1, 1, 0, 0, 0) := by decide +kernel
theorem qgli9_124 : xe_look (xc 194) 124 = some (.if_icmp .eq 44, 3, 0, 0, 0) := by decide +kernel
theorem qgli9_127 : xe_look (xc 194) 127 = some (.aload_n 0, 1, 0, 0, 0) := by decide +kernel
theorem qgli9_128 : xe_look (xc 194) 128 = some (.getfield 46, 3, 12, 14, 1118) := by decide +kernel
theorem qgli9_131 : xe_look (xc 194) 131 = some (.iload_n 3, 1, 0, 0, 0) := by decide +kernel
theorem qgli9_132 : xe_look (xc 194) 132 = some (.iaload, 1, 0, 0, 0) := by decide +kernel
theorem qgli9_133 : xe_look (xc 194) 133 = some (.iload_n 1, 1, 0, 0, 0) := by decide +kernel
theorem qgli9_134 : xe_look (xc 194) 134 = some (.if_icmp .ne 6, 3, 0, 0, 0) := by decide +kernel
theorem qgli9_137 : xe_look (xc 194) 137 = some (.goto 31, 3, 0, 0, 0) := by decide +kernel
theorem qgli9_140 : xe_look (xc 194) 140 = some (.aload_n 0, 1, 0, 0, 0) := by decide +kernel
theorem qgli9_141 : xe_look (xc 194) 141 = some (.getfield 43, 3, 12, 13, 1120) := by decide +kernel
theorem qgli9_144 : xe_look (xc 194) 144 = some (.iload_n 2, 1, 0, 0, 0) := by decide +kernel
theorem qgli9_145 : xe_look (xc 194) 145 = some (.aload_n 0, 1, 0, 0, 0) := by decide +kernel
theorem qgli9_146 : xe_look (xc 194) 146 = some (.getfield 43, 3, 12, 13, 1120) := by decide +kernel
theorem qgli9_149 : xe_look (xc 194) 149 = some (.iload_n 3, 1, 0, 0, 0) := by decide +kernel
theorem qgli9_150 : xe_look (xc 194) 150 = some (.iaload, 1, 0, 0, 0) := by decide +kernel
theorem qgli9_151 : xe_look (xc 194) 151 = some (.iastore, 1, 0, 0, 0) := by decide +kernel
theorem qgli9_152 : xe_look (xc 194) 152 = some (.aload_n 0, 1, 0, 0, 0) := by decide +kernel
theorem qgli9_153 : xe_look (xc 194) 153 = some (.getfield 46, 3, 12, 14, 1118) := by decide +kernel
theorem qgli9_156 : xe_look (xc 194) 156 = some (.iload_n 2, 1, 0, 0, 0) := by decide +kernel
theorem qgli9_157 : xe_look (xc 194) 157 = some (.aload_n 0, 1, 0, 0, 0) := by decide +kernel
theorem qgli9_158 : xe_look (xc 194) 158 = some (.getfield 46, 3, 12, 14, 1118) := by decide +kernel
theorem qgli9_161 : xe_look (xc 194) 161 = some (.iload_n 3, 1, 0, 0, 0) := by decide +kernel
theorem qgli9_162 : xe_look (xc 194) 162 = some (.iaload, 1, 0, 0, 0) := by decide +kernel
theorem qgli9_163 : xe_look (xc 194) 163 = some (.iastore, 1, 0, 0, 0) := by decide +kernel
theorem qgli9_164 : xe_look (xc 194) 164 = some (.iload_n 2, 1, 0, 0, 0) := by decide +kernel
theorem qgli9_165 : xe_look (xc 194) 165 = some (.iconst 1, 1, 0, 0, 0) := by decide +kernel
theorem qgli9_166 : xe_look (xc 194) 166 = some (.iadd, 1, 0, 0, 0) := by decide +kernel
theorem qgli9_167 : xe_look (xc 194) 167 = some (.istore_n 2, 1, 0, 0, 0) := by decide +kernel
theorem qgli9_168 : xe_look (xc 194) 168 = some (.iinc 3 1, 3, 0, 0, 0) := by decide +kernel
theorem qgli9_171 : xe_look (xc 194) 171 = some (.goto (-62), 3, 0, 0, 0) := by decide +kernel
theorem qgli9_174 : xe_look (xc 194) 174 = some (.aload_n 0, 1, 0, 0, 0) := by decide +kernel
theorem qgli9_175 : xe_look (xc 194) 175 = some (.iload_n 2, 1, 0, 0, 0) := by decide +kernel
theorem qgli9_176 : xe_look (xc 194) 176 = some (.putfield 215, 3, 12, 23, 1117) := by decide +kernel
theorem qmcl9_0 : xe_look (xc 177) 0 = some (.aload_n 0, 1, 0, 0, 0) := by decide +kernel
theorem qmcl9_1 : xe_look (xc 177) 1 = some (.iload_n 1, 1, 0, 0, 0) := by decide +kernel
theorem qmcl9_2 : xe_look (xc 177) 2 = some (.invokevirtual 205, 3, 0, 205, 1130) := by decide +kernel
theorem qmcl9_5 : xe_look (xc 177) 5 = some (.ifCond .eq 25, 3, 0, 0, 0) := by decide +kernel
theorem qmcl9_8 : xe_look (xc 177) 8 = some (.aload_n 0, 1, 0, 0, 0) := by decide +kernel
theorem qmcl9_9 : xe_look (xc 177) 9 = some (.iload_n 2, 1, 0, 0, 0) := by decide +kernel
theorem qmcl9_10 : xe_look (xc 177) 10 = some (.invokevirtual 205, 3, 0, 205, 1130) := by decide +kernel
theorem qmcl9_13 : xe_look (xc 177) 13 = some (.ifCond .eq 17, 3, 0, 0, 0) := by decide +kernel
theorem qmcl9_16 : xe_look (xc 177) 16 = some (.iload_n 1, 1, 0, 0, 0) := by decide +kernel
theorem qmcl9_17 : xe_look (xc 177) 17 = some (.iload_n 2, 1, 0, 0, 0) := by decide +kernel
theorem qmcl9_18 : xe_look (xc 177) 18 = some (.if_icmp .eq 12, 3, 0, 0, 0) := by decide +kernel
theorem qmcl9_21 : xe_look (xc 177) 21 = some (.aload_n 0, 1, 0, 0, 0) := by decide +kernel
theorem qmcl9_22 : xe_look (xc 177) 22 = some (.getfield 212, 3, 12, 22, 1147) := by decide +kernel
theorem qmcl9_25 : xe_look (xc 177) 25 = some (.bipush 24, 2, 0, 0, 0) := by decide +kernel
theorem qmcl9_27 : xe_look (xc 177) 27 = some (.if_icmp .ne 5, 3, 0, 0, 0) := by decide +kernel
theorem qmcl9_30 : xe_look (xc 177) 30 = some (.iconst (-1), 1, 0, 0, 0) := by decide +kernel
theorem qmcl9_31 : xe_look (xc 177) 31 = some (.ireturn, 1, 0, 0, 0) := by decide +kernel
theorem qmcl9_32 : xe_look (xc 177) 32 = some (.aload_n 0, 1, 0, 0, 0) := by decide +kernel
theorem qmcl9_33 : xe_look (xc 177) 33 = some (.getfield 37, 3, 12, 11, 1148) := by decide +kernel
theorem qmcl9_36 : xe_look (xc 177) 36 = some (.aload_n 0, 1, 0, 0, 0) := by decide +kernel
theorem qmcl9_37 : xe_look (xc 177) 37 = some (.getfield 212, 3, 12, 22, 1147) := by decide +kernel
theorem qmcl9_40 : xe_look (xc 177) 40 = some (.iload_n 1, 1, 0, 0, 0) := by decide +kernel
theorem qmcl9_41 : xe_look (xc 177) 41 = some (.iastore, 1, 0, 0, 0) := by decide +kernel
theorem qmcl9_42 : xe_look (xc 177) 42 = some (.aload_n 0, 1, 0, 0, 0) := by decide +kernel
theorem qmcl9_43 : xe_look (xc 177) 43 = some (.getfield 40, 3, 12, 12, 1149) := by decide +kernel
theorem qmcl9_46 : xe_look (xc 177) 46 = some (.aload_n 0, 1, 0, 0, 0) := by decide +kernel
theorem qmcl9_47 : xe_look (xc 177) 47 = some (.getfield 212, 3, 12, 22, 1147) := by decide +kernel
theorem qmcl9_50 : xe_look (xc 177) 50 = some (.iload_n 2, 1, 0, 0, 0) := by decide +kernel
theorem qmcl9_51 : xe_look (xc 177) 51 = some (.iastore, 1, 0, 0, 0) := by decide +kernel
theorem qmcl9_52 : xe_look (xc 177) 52 = some (.aload_n 0, 1, 0, 0, 0) := by decide +kernel
theorem qmcl9_53 : xe_look (xc 177) 53 = some (.aload_n 0, 1, 0, 0, 0) := by decide +kernel
theorem qmcl9_54 : xe_look (xc 177) 54 = some (.getfield 212, 3, 12, 22, 1147) := by decide +kernel
theorem qmcl9_57 : xe_look (xc 177) 57 = some (.iconst 1, 1, 0, 0, 0) := by decide +kernel
theorem qmcl9_58 : xe_look (xc 177) 58 = some (.iadd, 1, 0, 0, 0) := by decide +kernel
theorem qmcl9_59 : xe_look (xc 177) 59 = some (.putfield 212, 3, 12, 22, 1147) := by decide +kernel
theorem qmcl9_62 : xe_look (xc 177) 62 = some (.aload_n 0, 1, 0, 0, 0) := by decide +kernel
theorem qmcl9_63 : xe_look (xc 177) 63 = some (.getfield 212, 3, 12, 22, 1147) := by decide +kernel
theorem qmcl9_66 : xe_look (xc 177) 66 = some (.ireturn, 1, 0, 0, 0) := by decide +kernel
theorem qmli9_0 : xe_look (xc 220) 0 = some (.aload_n 0, 1, 0, 0, 0) := by decide +kernel
theorem qmli9_1 : xe_look (xc 220) 1 = some (.iload_n 1, 1, 0, 0, 0) := by decide +kernel
theorem qmli9_2 : xe_look (xc 220) 2 = some (.invokevirtual 205, 3, 0, 205, 1130) := by decide +kernel
theorem qmli9_5 : xe_look (xc 220) 5 = some (.ifCond .eq 25, 3, 0, 0, 0) := by decide +kernel
theorem qmli9_8 : xe_look (xc 220) 8 = some (.aload_n 0, 1, 0, 0, 0) := by decide +kernel
theorem qmli9_9 : xe_look (xc 220) 9 = some (.iload_n 2, 1, 0, 0, 0) := by decide +kernel
theorem qmli9_10 : xe_look (xc 220) 10 = some (.invokevirtual 205, 3, 0, 205, 1130) := by decide +kernel
theorem qmli9_13 : xe_look (xc 220) 13 = some (.ifCond .eq 17, 3, 0, 0, 0) := by decide +kernel
theorem qmli9_16 : xe_look (xc 220) 16 = some (.iload_n 1, 1, 0, 0, 0) := by decide +kernel
theorem qmli9_17 : xe_look (xc 220) 17 = some (.iload_n 2, 1, 0, 0, 0) := by decide +kernel
theorem qmli9_18 : xe_look (xc 220) 18 = some (.if_icmp .eq 12, 3, 0, 0, 0) := by decide +kernel
theorem qmli9_21 : xe_look (xc 220) 21 = some (.aload_n 0, 1, 0, 0, 0) := by decide +kernel
theorem qmli9_22 : xe_look (xc 220) 22 = some (.getfield 215, 3, 12, 23, 1117) := by decide +kernel
theorem qmli9_25 : xe_look (xc 220) 25 = some (.bipush 12, 2, 0, 0, 0) := by decide +kernel
theorem qmli9_27 : xe_look (xc 220) 27 = some (.if_icmp .ne 5, 3, 0, 0, 0) := by decide +kernel
theorem qmli9_30 : xe_look (xc 220) 30 = some (.iconst (-1), 1, 0, 0, 0) := by decide +kernel
theorem qmli9_31 : xe_look (xc 220) 31 = some (.ireturn, 1, 0, 0, 0) := by decide +kernel
theorem qmli9_32 : xe_look (xc 220) 32 = some (.aload_n 0, 1, 0, 0, 0) := by decide +kernel
theorem qmli9_33 : xe_look (xc 220) 33 = some (.getfield 43, 3, 12, 13, 1120) := by decide +kernel
theorem qmli9_36 : xe_look (xc 220) 36 = some (.aload_n 0, 1, 0, 0, 0) := by decide +kernel
theorem qmli9_37 : xe_look (xc 220) 37 = some (.getfield 215, 3, 12, 23, 1117) := by decide +kernel
theorem qmli9_40 : xe_look (xc 220) 40 = some (.iload_n 1, 1, 0, 0, 0) := by decide +kernel
theorem qmli9_41 : xe_look (xc 220) 41 = some (.iastore, 1, 0, 0, 0) := by decide +kernel
theorem qmli9_42 : xe_look (xc 220) 42 = some (.aload_n 0, 1, 0, 0, 0) := by decide +kernel
theorem qmli9_43 : xe_look (xc 220) 43 = some (.getfield 46, 3, 12, 14, 1118) := by decide +kernel
theorem qmli9_46 : xe_look (xc 220) 46 = some (.aload_n 0, 1, 0, 0, 0) := by decide +kernel
theorem qmli9_47 : xe_look (xc 220) 47 = some (.getfield 215, 3, 12, 23, 1117) := by decide +kernel
theorem qmli9_50 : xe_look (xc 220) 50 = some (.iload_n 2, 1, 0, 0, 0) := by decide +kernel
theorem qmli9_51 : xe_look (xc 220) 51 = some (.iastore, 1, 0, 0, 0) := by decide +kernel
theorem qmli9_52 : xe_look (xc 220) 52 = some (.aload_n 0, 1, 0, 0, 0) := by decide +kernel
theorem qmli9_53 : xe_look (xc 220) 53 = some (.aload_n 0, 1, 0, 0, 0) := by decide +kernel
theorem qmli9_54 : xe_look (xc 220) 54 = some (.getfield 215, 3, 12, 23, 1117) := by decide +kernel
theorem qmli9_57 : xe_look (xc 220) 57 = some (.iconst 1, 1, 0, 0, 0) := by decide +kernel
theorem qmli9_58 : xe_look (xc 220) 58 = some (.iadd, 1, 0, 0, 0) := by decide +kernel
theorem qmli9_59 : xe_look (xc 220) 59 = some (.putfield 215, 3, 12, 23, 1117) := by decide +kernel
theorem qmli9_62 : xe_look (xc 220) 62 = some (.aload_n 0, 1, 0, 0, 0) := by decide +kernel
theorem qmli9_63 : xe_look (xc 220) 63 = some (.getfield 215, 3, 12, 23, 1117) := by decide +kernel
theorem qmli9_66 : xe_look (xc 220) 66 = some (.ireturn, 1, 0, 0, 0) := by decide +kernel
theorem qxm_0 : xe_look (xc 194) 0 = some (.aload_n 0, 1, 0, 0, 0) := by decide +kernel
theorem qxm_1 : xe_look (xc 194) 1 = some (.iload_n 1, 1, 0, 0, 0) := by decide +kernel
theorem qxm_2 : xe_look (xc 194) 2 = some (.invokevirtual 205, 3, 0, 205, 1130) := by decide +kernel
theorem qxm_5 : xe_look (xc 194) 5 = some (.ifCond .ne 5, 3, 0, 0, 0) := by decide +kernel
theorem qxm_8 : xe_look (xc 194) 8 = some (.iconst 0, 1, 0, 0, 0) := by decide +kernel
theorem qxm_9 : xe_look (xc 194) 9 = some (.ireturn, 1, 0, 0, 0) := by decide +kernel
theorem qxm_10 : xe_look (xc 194) 10 = some (.aload_n 0, 1, 0, 0, 0) := by decide +kernel
theorem qxm_11 : xe_look (xc 194) 11 = some (.aload_n 0, 1, 0, 0, 0) := by decide +kernel
theorem qxm_12 : xe_look (xc 194) 12 = some (.getfield 183, 3, 12, 0, 1158) := by decide +kernel
theorem qxm_15 : xe_look (xc 194) 15 = some (.iconst 1, 1, 0, 0, 0) := by decide +kernel
theorem qxm_16 : xe_look (xc 194) 16 = some (.iload_n 1, 1, 0, 0, 0) := by decide +kernel
theorem qxm_17 : xe_look (xc 194) 17 = some (.ishl, 1, 0, 0, 0) := by decide +kernel
theorem qxm_18 : xe_look (xc 194) 18 = some (.iconst (-1), 1, 0, 0, 0) := by decide +kernel
theorem qxm_19 : xe_look (xc 194) 19 = some (.ixor, 1, 0, 0, 0) := by decide +kernel
theorem qxm_20 : xe_look (xc 194) 20 = some (.iand, 1, 0, 0, 0) := by decide +kernel
theorem qxm_21 : xe_look (xc 194) 21 = some (.putfield 183, 3, 12, 0, 1158) := by decide +kernel
theorem qxm_24 : xe_look (xc 194) 24 = some (.aload_n 0, 1, 0, 0, 0) := by decide +kernel
theorem qxm_25 : xe_look (xc 194) 25 = some (.getfield 34, 3, 12, 10, 1156) := by decide +kernel
theorem qxm_28 : xe_look (xc 194) 28 = some (.iload_n 1, 1, 0, 0, 0) := by decide +kernel
theorem qxm_29 : xe_look (xc 194) 29 = some (.iconst (-1), 1, 0, 0, 0) := by decide +kernel
theorem qxm_30 : xe_look (xc 194) 30 = some (.iastore, 1, 0, 0, 0) := by decide +kernel
theorem qxm_31 : xe_look (xc 194) 31 = some (.iconst 0, 1, 0, 0, 0) := by decide +kernel
theorem qxm_32 : xe_look (xc 194) 32 = some (.istore_n 2, 1, 0, 0, 0) := by decide +kernel
theorem qxm_33 : xe_look (xc 194) 33 = some (.iconst 0, 1, 0, 0, 0) := by decide +kernel
theorem qxm_34 : xe_look (xc 194) 34 = some (.istore_n 3, 1, 0, 0, 0) := by decide +kernel
theorem qxm_105 : xe_look (xc 194) 105 = some (.iconst 0, 1, 0, 0, 0) := by decide +kernel
theorem qxm_106 : xe_look (xc 194) 106 = some (.istore_n 2, 1, 0, 0, 0) := by decide +kernel
theorem qxm_107 : xe_look (xc 194) 107 = some (.iconst 0, 1, 0, 0, 0) := by decide +kernel
theorem qxm_108 : xe_look (xc 194) 108 = some (.istore_n 3, 1, 0, 0, 0) := by decide +kernel
theorem qxm_179 : xe_look (xc 194) 179 = some (.iconst 1, 1, 0, 0, 0) := by decide +kernel
theorem qxm_180 : xe_look (xc 194) 180 = some (.ireturn, 1, 0, 0, 0) := by decide +kernel
theorem gf_23 : eG (cn 196 + 23) = (0, 12, []) := by decide +kernel
theorem ff_10 : (eG (cn 196 + 10)).2.2 = [206] := by decide +kernel
theorem ar_10 {d i : Nat} {lv : List (Nat × pv)} {r : List pv} {g : pH} (hG : g_I eG g) : px_push eL d none (.getfield i) 12 10 lv (pvR 196 :: r) g = some (pvR 205 :: r) := pget el_196 (gI_r (r := 205) hG el_196 (Nat.le_of_ble_eq_true rfl) (y := 10) rfl ff_10)
theorem ff_13 : (eG (cn 196 + 13)).2.2 = [209] := by decide +kernel
theorem ar_13 {d i : Nat} {lv : List (Nat × pv)} {r : List pv} {g : pH} (hG : g_I eG g) : px_push eL d none (.getfield i) 12 13 lv (pvR 196 :: r) g = some (pvR 208 :: r) := pget el_196 (gI_r (r := 208) hG el_196 (Nat.le_of_ble_eq_true rfl) (y := 13) rfl ff_13)
theorem ff_14 : (eG (cn 196 + 14)).2.2 = [210] := by decide +kernel
theorem ar_14 {d i : Nat} {lv : List (Nat × pv)} {r : List pv} {g : pH} (hG : g_I eG g) : px_push eL d none (.getfield i) 12 14 lv (pvR 196 :: r) g = some (pvR 209 :: r) := pget el_196 (gI_r (r := 209) hG el_196 (Nat.le_of_ble_eq_true rfl) (y := 14) rfl ff_14)
theorem ff_85 : (eG (cn 196 + 85)).2.2 = [250] := by decide +kernel
theorem ar_85 {d i : Nat} {lv : List (Nat × pv)} {r : List pv} {g : pH} (hG : g_I eG g) : px_push eL d none (.getfield i) 12 85 lv (pvR 196 :: r) g = some (pvR 249 :: r) := pget el_196 (gI_r (r := 249) hG el_196 (Nat.le_of_ble_eq_true rfl) (y := 85) rfl ff_85)
theorem ff_86 : (eG (cn 196 + 86)).2.2 = [251] := by decide +kernel
theorem ar_86 {d i : Nat} {lv : List (Nat × pv)} {r : List pv} {g : pH} (hG : g_I eG g) : px_push eL d none (.getfield i) 12 86 lv (pvR 196 :: r) g = some (pvR 250 :: r) := pget el_196 (gI_r (r := 250) hG el_196 (Nat.le_of_ble_eq_true rfl) (y := 86) rfl ff_86)
theorem ff_87 : (eG (cn 196 + 87)).2.2 = [252] := by decide +kernel
theorem ar_87 {d i : Nat} {lv : List (Nat × pv)} {r : List pv} {g : pH} (hG : g_I eG g) : px_push eL d none (.getfield i) 12 87 lv (pvR 196 :: r) g = some (pvR 251 :: r) := pget el_196 (gI_r (r := 251) hG el_196 (Nat.le_of_ble_eq_true rfl) (y := 87) rfl ff_87)
theorem ff_88 : (eG (cn 196 + 88)).2.2 = [253] := by decide +kernel
theorem ar_88 {d i : Nat} {lv : List (Nat × pv)} {r : List pv} {g : pH} (hG : g_I eG g) : px_push eL d none (.getfield i) 12 88 lv (pvR 196 :: r) g = some (pvR 252 :: r) := pget el_196 (gI_r (r := 252) hG el_196 (Nat.le_of_ble_eq_true rfl) (y := 88) rfl ff_88)
theorem el_205 : eL[205]? = some (1, 32) := by decide +kernel
theorem Wclm : kk_41.2.2.2.1.testBit (cn 206) = true ∧ kk_41.2.2.2.1.testBit (cn 207) = true ∧ kk_41.2.2.2.1.testBit (cn 196 + 22) = true ∧ kk_41.2.2.2.1 &&& eDX = 0 := by decide +kernel
set_option maxHeartbeats 2000000 in
theorem mc_cl {d : Nat} (hd : 2 ≤ d) {g : pH} (hG : g_I eG g) {i j : Int} (hi : -2147483648 ≤ i ∧ i ≤ 2147483647) (hj : -2147483648 ≤ j ∧ j ≤ 2147483647) {P : Option pv × pH → Prop} (hA : toM g i ∧ toM g j ∧ i ≠ j ∧ fF g 22 < 24 → ∀ g1 : pH, J_ kk_41.2.2.2.1 g g1 → fF g1 22 = fF g 22 + 1 → fA g1 206 = updI (fA g 206) (fF g 22).toNat i → fA g1 207 = updI (fA g 207) (fF g 22).toNat j → P (some (oI (fF g 22 + 1)), g1)) (hR : ¬ (toM g i ∧ toM g j ∧ i ≠ j ∧ fF g 22 < 24) → P (some (oI (-1)), g)) {lv : List (Nat × pv)} (l0 : px_lg lv 0 = some (pvR 196)) (l1 : px_lg lv 1 = some (oI i)) (l2 : px_lg lv 2 = some (oI j)) : t_X d 177 0 lv [] g P := by
  have hJ : J_ kk_41.2.2.2.1 g g := J_rf hG
  obtain ⟨w_a206, w_a207, w_22, -⟩ := Wclm
  refine t_0 qmcl9_0 rfl (ld_a l0) ?_
  refine t_0 qmcl9_1 rfl (ld_i l1) ?_
  refine t_3 qmcl9_2 rfl (ar := ([pvR 196, oI (i)], [])) (pcal_v1 rfl rfl el_196) ⟨by omega, Nat.le_of_ble_eq_true rfl, Nat.le_of_ble_eq_true rfl, rfl⟩ ?_
  refine it_run (by omega) (by omega) rfl rfl (fun m1 hm1 e1 c1 => ?_) (fun c1 => ?_)
  · show t_X d 177 5 lv [oI (1)] g P
    refine tz_eq qmcl9_5 (by decide) ⟨by omega, by omega⟩ (fun c2 => absurd c2 (by omega)) (fun c2 => ?_)
    show t_X d 177 8 lv [] g P
    refine t_0 qmcl9_8 rfl (ld_a l0) ?_
    refine t_0 qmcl9_9 rfl (ld_i l2) ?_
    refine t_3 qmcl9_10 rfl (ar := ([pvR 196, oI (j)], [])) (pcal_v1 rfl rfl el_196) ⟨by omega, Nat.le_of_ble_eq_true rfl, Nat.le_of_ble_eq_true rfl, rfl⟩ ?_
    refine it_run (by omega) (by omega) rfl rfl (fun m3 hm3 e3 c3 => ?_) (fun c3 => ?_)
    · show t_X d 177 13 lv [oI (1)] g P
      refine tz_eq qmcl9_13 (by decide) ⟨by omega, by omega⟩ (fun c4 => absurd c4 (by omega)) (fun c4 => ?_)
      show t_X d 177 16 lv [] g P
      refine t_0 qmcl9_16 rfl (ld_i l1) ?_
      refine t_0 qmcl9_17 rfl (ld_i l2) ?_
      refine tb_eq qmcl9_18 (by decide) ⟨by omega, by omega⟩ ⟨by omega, by omega⟩ (fun c5 => ?_) (fun c5 => ?_)
      · show t_X d 177 30 lv [] g P
        refine t_0 qmcl9_30 rfl rfl ?_
        refine t_5 qmcl9_31 rfl rfl ?_
        exact hR (fun z => by have z1 := z.2.2.1; have z2 := z.2.2.2; omega)
      · show t_X d 177 21 lv [] g P
        refine t_0 qmcl9_21 rfl (ld_a l0) ?_
        have r6 := gb_f hJ.1 (y := 22) rfl rfl gf_22
        refine t_0 qmcl9_22 rfl (pq_gf (y := 22) rfl) ?_
        refine t_0 qmcl9_25 rfl (pq_b (by decide)) ?_
        refine tb_ne qmcl9_27 (by decide) ⟨by omega, by omega⟩ ⟨by omega, by omega⟩ (fun c7 => ?_) (fun c7 => ?_)
        · show t_X d 177 32 lv [] g P
          refine t_0 qmcl9_32 rfl (ld_a l0) ?_
          refine t_0 qmcl9_33 rfl (ar_11 hJ.1) ?_
          refine t_0 qmcl9_36 rfl (ld_a l0) ?_
          have r8 := gb_f hJ.1 (y := 22) rfl rfl gf_22
          refine t_0 qmcl9_37 rfl (pq_gf (y := 22) rfl) ?_
          refine t_0 qmcl9_40 rfl (ld_i l1) ?_
          refine tw_i qmcl9_41 hJ el_206 rfl w_a206 ga_206 ⟨by omega, by omega⟩ (rg31 ⟨by omega, by omega⟩) (fun g9 hJ9 e9 => ?_)
          have u9_206 : fA g9 206 = updI (fA g 206) (fF g 22).toNat (i) := by rw [e9]; exact fA_pu2 ⟨by omega, by omega⟩
          have u9_207 : fA g9 207 = fA g 207 := by rw [e9]; exact fA_pn (by decide)
          have v9 : fF g9 22 = fF g 22 := by rw [e9]; rfl
          show t_X d 177 42 lv [] g9 P
          refine t_0 qmcl9_42 rfl (ld_a l0) ?_
          refine t_0 qmcl9_43 rfl (ar_12 hJ9.1) ?_
          refine t_0 qmcl9_46 rfl (ld_a l0) ?_
          have r10 := gb_f hJ9.1 (y := 22) rfl rfl gf_22
          refine t_0 qmcl9_47 rfl (pq_gf (y := 22) rfl) ?_
          refine t_0 qmcl9_50 rfl (ld_i l2) ?_
          refine tw_i qmcl9_51 hJ9 el_207 rfl w_a207 ga_207 ⟨by omega, by omega⟩ (rg31 ⟨by omega, by omega⟩) (fun g11 hJ11 e11 => ?_)
          have u11_207 : fA g11 207 = updI (fA g9 207) (fF g9 22).toNat (j) := by rw [e11]; exact fA_pu2 ⟨by omega, by omega⟩
          have u11_206 : fA g11 206 = fA g9 206 := by rw [e11]; exact fA_pn (by decide)
          have v11 : fF g11 22 = fF g9 22 := by rw [e11]; rfl
          show t_X d 177 52 lv [] g11 P
          refine t_0 qmcl9_52 rfl (ld_a l0) ?_
          refine t_0 qmcl9_53 rfl (ld_a l0) ?_
          have r12 := gb_f hJ11.1 (y := 22) rfl rfl gf_22
          refine t_0 qmcl9_54 rfl (pq_gf (y := 22) rfl) ?_
          refine t_0 qmcl9_57 rfl rfl ?_
          refine t_0 qmcl9_58 rfl pq_add ?_
          refine tw_c qmcl9_59 el_196 rfl hJ11 w_22 gf_22 (by decide) ⟨by omega, by omega⟩ (fun g13 hJ13 e13 => ?_)
          have v13 : fF g13 22 = (fF g11 22) + 1 := by rw [e13]; exact pc_at (by omega) (by omega)
          have u13_206 : fA g13 206 = fA g11 206 := by rw [e13]; rfl
          have u13_207 : fA g13 207 = fA g11 207 := by rw [e13]; rfl
          show t_X d 177 62 lv [] g13 P
          refine t_0 qmcl9_62 rfl (ld_a l0) ?_
          have r14 := gb_f hJ13.1 (y := 22) rfl rfl gf_22
          refine t_0 qmcl9_63 rfl (pq_gf (y := 22) rfl) ?_
          refine t_5 qmcl9_66 rfl rfl ?_
          rw [show fF g13 22 = fF g 22 + 1 by omega]
          refine hA ⟨⟨m1, hm1, e1, c1⟩, ⟨m3, hm3, e3, c3⟩, by omega, by omega⟩ g13 hJ13 (by omega) ?_ ?_
          · simp only [u13_206, u11_206, u9_206, v9, v11]
          · simp only [u13_207, u11_207, u9_207, v9, v11]
        · show t_X d 177 30 lv [] g P
          refine t_0 qmcl9_30 rfl rfl ?_
          refine t_5 qmcl9_31 rfl rfl ?_
          exact hR (fun z => by have z1 := z.2.2.1; have z2 := z.2.2.2; omega)
    · show t_X d 177 13 lv [oI (0)] g P
      refine tz_eq qmcl9_13 (by decide) ⟨by omega, by omega⟩ (fun c15 => ?_) (fun c15 => absurd c15 (by omega))
      show t_X d 177 30 lv [] g P
      refine t_0 qmcl9_30 rfl rfl ?_
      refine t_5 qmcl9_31 rfl rfl ?_
      exact hR (fun z => c3 z.2.1)
  · show t_X d 177 5 lv [oI (0)] g P
    refine tz_eq qmcl9_5 (by decide) ⟨by omega, by omega⟩ (fun c16 => ?_) (fun c16 => absurd c16 (by omega))
    show t_X d 177 30 lv [] g P
    refine t_0 qmcl9_30 rfl rfl ?_
    refine t_5 qmcl9_31 rfl rfl ?_
    exact hR (fun z => c1 z.1)
theorem Wlim : kk_47.2.2.2.1.testBit (cn 208) = true ∧ kk_47.2.2.2.1.testBit (cn 209) = true ∧ kk_47.2.2.2.1.testBit (cn 196 + 23) = true ∧ kk_47.2.2.2.1 &&& eDX = 0 := by decide +kernel
set_option maxHeartbeats 2000000 in
theorem mc_li {d : Nat} (hd : 2 ≤ d) {g : pH} (hG : g_I eG g) {i j : Int} (hi : -2147483648 ≤ i ∧ i ≤ 2147483647) (hj : -2147483648 ≤ j ∧ j ≤ 2147483647) {P : Option pv × pH → Prop} (hA : toM g i ∧ toM g j ∧ i ≠ j ∧ fF g 23 < 12 → ∀ g1 : pH, J_ kk_47.2.2.2.1 g g1 → fF g1 23 = fF g 23 + 1 → fA g1 208 = updI (fA g 208) (fF g 23).toNat i → fA g1 209 = updI (fA g 209) (fF g 23).toNat j → P (some (oI (fF g 23 + 1)), g1)) (hR : ¬ (toM g i ∧ toM g j ∧ i ≠ j ∧ fF g 23 < 12) → P (some (oI (-1)), g)) {lv : List (Nat × pv)} (l0 : px_lg lv 0 = some (pvR 196)) (l1 : px_lg lv 1 = some (oI i)) (l2 : px_lg lv 2 = some (oI j)) : t_X d 220 0 lv [] g P := by
  have hJ : J_ kk_47.2.2.2.1 g g := J_rf hG
  obtain ⟨w_a208, w_a209, w_23, -⟩ := Wlim
  refine t_0 qmli9_0 rfl (ld_a l0) ?_
  refine t_0 qmli9_1 rfl (ld_i l1) ?_
  refine t_3 qmli9_2 rfl (ar := ([pvR 196, oI (i)], [])) (pcal_v1 rfl rfl el_196) ⟨by omega, Nat.le_of_ble_eq_true rfl, Nat.le_of_ble_eq_true rfl, rfl⟩ ?_
  refine it_run (by omega) (by omega) rfl rfl (fun m1 hm1 e1 c1 => ?_) (fun c1 => ?_)
  · show t_X d 220 5 lv [oI (1)] g P
    refine tz_eq qmli9_5 (by decide) ⟨by omega, by omega⟩ (fun c2 => absurd c2 (by omega)) (fun c2 => ?_)
    show t_X d 220 8 lv [] g P
    refine t_0 qmli9_8 rfl (ld_a l0) ?_
    refine t_0 qmli9_9 rfl (ld_i l2) ?_
    refine t_3 qmli9_10 rfl (ar := ([pvR 196, oI (j)], [])) (pcal_v1 rfl rfl el_196) ⟨by omega, Nat.le_of_ble_eq_true rfl, Nat.le_of_ble_eq_true rfl, rfl⟩ ?_
    refine it_run (by omega) (by omega) rfl rfl (fun m3 hm3 e3 c3 => ?_) (fun c3 => ?_)
    · show t_X d 220 13 lv [oI (1)] g P
      refine tz_eq qmli9_13 (by decide) ⟨by omega, by omega⟩ (fun c4 => absurd c4 (by omega)) (fun c4 => ?_)
      show t_X d 220 16 lv [] g P
      refine t_0 qmli9_16 rfl (ld_i l1) ?_
      refine t_0 qmli9_17 rfl (ld_i l2) ?_
      refine tb_eq qmli9_18 (by decide) ⟨by omega, by omega⟩ ⟨by omega, by omega⟩ (fun c5 => ?_) (fun c5 => ?_)
      · show t_X d 220 30 lv [] g P
        refine t_0 qmli9_30 rfl rfl ?_
        refine t_5 qmli9_31 rfl rfl ?_
        exact hR (fun z => by have z1 := z.2.2.1; have z2 := z.2.2.2; omega)
      · show t_X d 220 21 lv [] g P
        refine t_0 qmli9_21 rfl (ld_a l0) ?_
        have r6 := gb_f hJ.1 (y := 23) rfl rfl gf_23
        refine t_0 qmli9_22 rfl (pq_gf (y := 23) rfl) ?_
        refine t_0 qmli9_25 rfl (pq_b (by decide)) ?_
        refine tb_ne qmli9_27 (by decide) ⟨by omega, by omega⟩ ⟨by omega, by omega⟩ (fun c7 => ?_) (fun c7 => ?_)
        · show t_X d 220 32 lv [] g P
          refine t_0 qmli9_32 rfl (ld_a l0) ?_
          refine t_0 qmli9_33 rfl (ar_13 hJ.1) ?_
          refine t_0 qmli9_36 rfl (ld_a l0) ?_
          have r8 := gb_f hJ.1 (y := 23) rfl rfl gf_23
          refine t_0 qmli9_37 rfl (pq_gf (y := 23) rfl) ?_
          refine t_0 qmli9_40 rfl (ld_i l1) ?_
          refine tw_i qmli9_41 hJ el_208 rfl w_a208 ga_208 ⟨by omega, by omega⟩ (rg31 ⟨by omega, by omega⟩) (fun g9 hJ9 e9 => ?_)
          have u9_208 : fA g9 208 = updI (fA g 208) (fF g 23).toNat (i) := by rw [e9]; exact fA_pu2 ⟨by omega, by omega⟩
          have u9_209 : fA g9 209 = fA g 209 := by rw [e9]; exact fA_pn (by decide)
          have v9 : fF g9 23 = fF g 23 := by rw [e9]; rfl
          show t_X d 220 42 lv [] g9 P
          refine t_0 qmli9_42 rfl (ld_a l0) ?_
          refine t_0 qmli9_43 rfl (ar_14 hJ9.1) ?_
          refine t_0 qmli9_46 rfl (ld_a l0) ?_
          have r10 := gb_f hJ9.1 (y := 23) rfl rfl gf_23
          refine t_0 qmli9_47 rfl (pq_gf (y := 23) rfl) ?_
          refine t_0 qmli9_50 rfl (ld_i l2) ?_
          refine tw_i qmli9_51 hJ9 el_209 rfl w_a209 ga_209 ⟨by omega, by omega⟩ (rg31 ⟨by omega, by omega⟩) (fun g11 hJ11 e11 => ?_)
          have u11_209 : fA g11 209 = updI (fA g9 209) (fF g9 23).toNat (j) := by rw [e11]; exact fA_pu2 ⟨by omega, by omega⟩
          have u11_208 : fA g11 208 = fA g9 208 := by rw [e11]; exact fA_pn (by decide)
          have v11 : fF g11 23 = fF g9 23 := by rw [e11]; rfl
          show t_X d 220 52 lv [] g11 P
          refine t_0 qmli9_52 rfl (ld_a l0) ?_
          refine t_0 qmli9_53 rfl (ld_a l0) ?_
          have r12 := gb_f hJ11.1 (y := 23) rfl rfl gf_23
          refine t_0 qmli9_54 rfl (pq_gf (y := 23) rfl) ?_
          refine t_0 qmli9_57 rfl rfl ?_
          refine t_0 qmli9_58 rfl pq_add ?_
          refine tw_c qmli9_59 el_196 rfl hJ11 w_23 gf_23 (by decide) ⟨by omega, by omega⟩ (fun g13 hJ13 e13 => ?_)
          have v13 : fF g13 23 = (fF g11 23) + 1 := by rw [e13]; exact pc_at (by omega) (by omega)
          have u13_208 : fA g13 208 = fA g11 208 := by rw [e13]; rfl
          have u13_209 : fA g13 209 = fA g11 209 := by rw [e13]; rfl
          show t_X d 220 62 lv [] g13 P
          refine t_0 qmli9_62 rfl (ld_a l0) ?_
          have r14 := gb_f hJ13.1 (y := 23) rfl rfl gf_23
          refine t_0 qmli9_63 rfl (pq_gf (y := 23) rfl) ?_
          refine t_5 qmli9_66 rfl rfl ?_
          rw [show fF g13 23 = fF g 23 + 1 by omega]
          refine hA ⟨⟨m1, hm1, e1, c1⟩, ⟨m3, hm3, e3, c3⟩, by omega, by omega⟩ g13 hJ13 (by omega) ?_ ?_
          · simp only [u13_208, u11_208, u9_208, v9, v11]
          · simp only [u13_209, u11_209, u9_209, v9, v11]
        · show t_X d 220 30 lv [] g P
          refine t_0 qmli9_30 rfl rfl ?_
          refine t_5 qmli9_31 rfl rfl ?_
          exact hR (fun z => by have z1 := z.2.2.1; have z2 := z.2.2.2; omega)
    · show t_X d 220 13 lv [oI (0)] g P
      refine tz_eq qmli9_13 (by decide) ⟨by omega, by omega⟩ (fun c15 => ?_) (fun c15 => absurd c15 (by omega))
      show t_X d 220 30 lv [] g P
      refine t_0 qmli9_30 rfl rfl ?_
      refine t_5 qmli9_31 rfl rfl ?_
      exact hR (fun z => c3 z.2.1)
  · show t_X d 220 5 lv [oI (0)] g P
    refine tz_eq qmli9_5 (by decide) ⟨by omega, by omega⟩ (fun c16 => ?_) (fun c16 => absurd c16 (by omega))
    show t_X d 220 30 lv [] g P
    refine t_0 qmli9_30 rfl rfl ?_
    refine t_5 qmli9_31 rfl rfl ?_
    exact hR (fun z => c1 z.1)
theorem dwm_0 : True := trivial
set_option maxHeartbeats 4000000 in
theorem gl_cl {d W : Nat} {w0 h0 : pH} {i : Int} (hi : 0 ≤ i ∧ i ≤ 31) (w_a206 : W.testBit (cn 206) = true) (w_a207 : W.testBit (cn 207) = true) (w_22 : W.testBit (cn 196 + 22) = true) {P : Option pv × pH → Prop} (hP : ∀ (g1 : pH) (lv : List (Nat × pv)), J_ W w0 g1 → fF g1 22 = ((dw i (fA h0 206) (fA h0 207) (fF h0 22).toNat).1 : Int) → fA g1 206 = (dw i (fA h0 206) (fA h0 207) (fF h0 22).toNat).2.1 → fA g1 207 = (dw i (fA h0 206) (fA h0 207) (fF h0 22).toNat).2.2 → px_lg lv 0 = some (pvR 196) → px_lg lv 1 = some (oI i) → t_X d 194 105 lv [] g1 P) : ∀ (n m : Nat) (lv : List (Nat × pv)) (g : pH), (fF h0 22).toNat - m ≤ n → m ≤ (fF h0 22).toNat → J_ W w0 g → fF g 22 = fF h0 22 → fA g 206 = (dw i (fA h0 206) (fA h0 207) m).2.1 → fA g 207 = (dw i (fA h0 206) (fA h0 207) m).2.2 → px_lg lv 0 = some (pvR 196) → px_lg lv 1 = some (oI i) → px_lg lv 2 = some (oI ((dw i (fA h0 206) (fA h0 207) m).1 : Int)) → px_lg lv 3 = some (oI (m : Int)) → t_X d 194 35 lv [] g P := by
  intro n
  induction n with
  | zero =>
    intro m lv g hn hm hJ hz hA hB l0 l1 l2 l3
    have hc := gb_f hJ.1 (y := 22) rfl rfl gf_22
    have hle := dw_le (i := i) (A := fA h0 206) (B := fA h0 207) m
    have he : m = (fF h0 22).toNat := by omega
    refine t_0 qgcl9_35 rfl (ld_i l3) ?_
    refine t_0 qgcl9_36 rfl (ld_a l0) ?_
    have r1 := gb_f hJ.1 (y := 22) rfl rfl gf_22
    refine t_0 qgcl9_37 rfl (pq_gf (y := 22) rfl) ?_
    refine tb_ge qgcl9_40 (by decide) ⟨by omega, by omega⟩ ⟨by omega, by omega⟩ (fun c2 => ?_) (fun c2 => absurd c2 (by omega))
    show t_X d 194 100 lv [] g P
    refine t_0 qgcl9_100 rfl (ld_a l0) ?_
    refine t_0 qgcl9_101 rfl (ld_i l2) ?_
    refine tw_c qgcl9_102 el_196 rfl hJ w_22 gf_22 (by decide) ⟨by omega, by omega⟩ (fun g3 hJ3 e3 => ?_)
    have v3 : fF g3 22 = ((dw i (fA h0 206) (fA h0 207) m).1 : Int) := by rw [e3]; exact pc_at (by omega) (by omega)
    have u3_206 : fA g3 206 = fA g 206 := by rw [e3]; rfl
    have u3_207 : fA g3 207 = fA g 207 := by rw [e3]; rfl
    show t_X d 194 105 lv [] g3 P
    refine hP _ lv hJ3 ?_ ?_ ?_ l0 l1
    · rw [v3, he]
    · simp only [u3_206]; rw [hA, he]
    · simp only [u3_207]; rw [hB, he]
  | succ n ih =>
    intro m lv g hn hm hJ hz hA hB l0 l1 l2 l3
    have hc := gb_f hJ.1 (y := 22) rfl rfl gf_22
    have hle := dw_le (i := i) (A := fA h0 206) (B := fA h0 207) m
    by_cases hlt : m < (fF h0 22).toNat
    · skip
      refine t_0 qgcl9_35 rfl (ld_i l3) ?_
      refine t_0 qgcl9_36 rfl (ld_a l0) ?_
      have r1 := gb_f hJ.1 (y := 22) rfl rfl gf_22
      refine t_0 qgcl9_37 rfl (pq_gf (y := 22) rfl) ?_
      refine tb_ge qgcl9_40 (by decide) ⟨by omega, by omega⟩ ⟨by omega, by omega⟩ (fun c2 => absurd c2 (by omega)) (fun c2 => ?_)
      show t_X d 194 43 lv [] g P
      refine t_0 qgcl9_43 rfl (ld_a l0) ?_
      refine t_0 qgcl9_44 rfl (ar_11 hJ.1) ?_
      refine t_0 qgcl9_47 rfl (ld_i l3) ?_
      refine t_0 qgcl9_48 rfl (pq_ia el_206 rfl ⟨by omega, by omega⟩) ?_
      show t_X d 194 49 lv [oI (fA g 206 m)] g P
      have r3 := gb_a hJ.1 el_206 (j := m) (by omega) ga_206
      refine t_0 qgcl9_49 rfl (ld_i l1) ?_
      refine tb_eq qgcl9_50 (by decide) ⟨by omega, by omega⟩ ⟨by omega, by omega⟩ (fun c4 => ?_) (fun c4 => ?_)
      · show t_X d 194 94 lv [] g P
        refine t_2 qgcl9_94 rfl (w := (px_s1 lv 3 (oI ((m : Int) + 1)), [])) (pq_inc l3 (by decide)) ?_
        replace l0 : px_lg (px_s1 lv 3 (oI ((m : Int) + 1))) 0 = some (pvR 196) := s1_ne (by decide) (fun _ => rfl) l0
        replace l1 : px_lg (px_s1 lv 3 (oI ((m : Int) + 1))) 1 = some (oI (i)) := s1_ne (by decide) (fun _ => rfl) l1
        replace l2 : px_lg (px_s1 lv 3 (oI ((m : Int) + 1))) 2 = some (oI (((dw i (fA h0 206) (fA h0 207) m).1 : Int))) := s1_ne (by decide) (fun _ => rfl) l2
        have l3 : px_lg (px_s1 lv 3 (oI ((m : Int) + 1))) 3 = some (oI ((m : Int) + 1)) := s1_eq
        generalize px_s1 lv 3 (oI ((m : Int) + 1)) = lv5 at l0 l1 l2 l3 ⊢
        show t_X d 194 97 lv5 [] g P
        refine t_1 qgcl9_97 rfl (pb_goto (pc := 97) (by decide)) ?_
        show t_X d 194 35 lv5 [] g P
        have hd := dw_f (i := i) (A := fA h0 206) (B := fA h0 207) (k := m) (by rw [← hA, ← hB]; omega)
        exact ih (m + 1) _ g (by omega) (by omega) hJ (by omega) (by rw [hd]; exact hA) (by rw [hd]; exact hB) l0 l1 (by rw [l2, hd]) l3
      · show t_X d 194 53 lv [] g P
        refine t_0 qgcl9_53 rfl (ld_a l0) ?_
        refine t_0 qgcl9_54 rfl (ar_12 hJ.1) ?_
        refine t_0 qgcl9_57 rfl (ld_i l3) ?_
        refine t_0 qgcl9_58 rfl (pq_ia el_207 rfl ⟨by omega, by omega⟩) ?_
        show t_X d 194 59 lv [oI (fA g 207 m)] g P
        have r6 := gb_a hJ.1 el_207 (j := m) (by omega) ga_207
        refine t_0 qgcl9_59 rfl (ld_i l1) ?_
        refine tb_ne qgcl9_60 (by decide) ⟨by omega, by omega⟩ ⟨by omega, by omega⟩ (fun c7 => ?_) (fun c7 => ?_)
        · show t_X d 194 66 lv [] g P
          refine t_0 qgcl9_66 rfl (ld_a l0) ?_
          refine t_0 qgcl9_67 rfl (ar_11 hJ.1) ?_
          refine t_0 qgcl9_70 rfl (ld_i l2) ?_
          refine t_0 qgcl9_71 rfl (ld_a l0) ?_
          refine t_0 qgcl9_72 rfl (ar_11 hJ.1) ?_
          refine t_0 qgcl9_75 rfl (ld_i l3) ?_
          refine t_0 qgcl9_76 rfl (pq_ia el_206 rfl ⟨by omega, by omega⟩) ?_
          show t_X d 194 77 lv [oI (fA g 206 m), oI (((dw i (fA h0 206) (fA h0 207) m).1 : Int)), pvR 206] g P
          have r8 := gb_a hJ.1 el_206 (j := m) (by omega) ga_206
          refine tw_i qgcl9_77 hJ el_206 rfl w_a206 ga_206 ⟨by omega, by omega⟩ (rg31 ⟨by omega, by omega⟩) (fun g9 hJ9 e9 => ?_)
          have u9_206 : fA g9 206 = updI (fA g 206) (((dw i (fA h0 206) (fA h0 207) m).1 : Int)).toNat (fA g 206 m) := by rw [e9]; exact fA_pu2 ⟨by omega, by omega⟩
          have u9_207 : fA g9 207 = fA g 207 := by rw [e9]; exact fA_pn (by decide)
          have v9 : fF g9 22 = fF g 22 := by rw [e9]; rfl
          show t_X d 194 78 lv [] g9 P
          refine t_0 qgcl9_78 rfl (ld_a l0) ?_
          refine t_0 qgcl9_79 rfl (ar_12 hJ9.1) ?_
          refine t_0 qgcl9_82 rfl (ld_i l2) ?_
          refine t_0 qgcl9_83 rfl (ld_a l0) ?_
          refine t_0 qgcl9_84 rfl (ar_12 hJ9.1) ?_
          refine t_0 qgcl9_87 rfl (ld_i l3) ?_
          refine t_0 qgcl9_88 rfl (pq_ia el_207 rfl ⟨by omega, by omega⟩) ?_
          show t_X d 194 89 lv [oI (fA g9 207 m), oI (((dw i (fA h0 206) (fA h0 207) m).1 : Int)), pvR 207] g9 P
          have r10 := gb_a hJ9.1 el_207 (j := m) (by omega) ga_207
          refine tw_i qgcl9_89 hJ9 el_207 rfl w_a207 ga_207 ⟨by omega, by omega⟩ (rg31 ⟨by omega, by omega⟩) (fun g11 hJ11 e11 => ?_)
          have u11_207 : fA g11 207 = updI (fA g9 207) (((dw i (fA h0 206) (fA h0 207) m).1 : Int)).toNat (fA g9 207 m) := by rw [e11]; exact fA_pu2 ⟨by omega, by omega⟩
          have u11_206 : fA g11 206 = fA g9 206 := by rw [e11]; exact fA_pn (by decide)
          have v11 : fF g11 22 = fF g9 22 := by rw [e11]; rfl
          show t_X d 194 90 lv [] g11 P
          refine t_0 qgcl9_90 rfl (ld_i l2) ?_
          refine t_0 qgcl9_91 rfl rfl ?_
          refine t_0 qgcl9_92 rfl pq_add ?_
          refine t_2 qgcl9_93 rfl (w := (px_s1 lv 2 (oI (((dw i (fA h0 206) (fA h0 207) m).1 : Int) + 1)), [])) rfl ?_
          replace l0 : px_lg (px_s1 lv 2 (oI (((dw i (fA h0 206) (fA h0 207) m).1 : Int) + 1))) 0 = some (pvR 196) := s1_ne (by decide) (fun _ => rfl) l0
          replace l1 : px_lg (px_s1 lv 2 (oI (((dw i (fA h0 206) (fA h0 207) m).1 : Int) + 1))) 1 = some (oI (i)) := s1_ne (by decide) (fun _ => rfl) l1
          replace l3 : px_lg (px_s1 lv 2 (oI (((dw i (fA h0 206) (fA h0 207) m).1 : Int) + 1))) 3 = some (oI ((m : Int))) := s1_ne (by decide) (fun _ => rfl) l3
          have l2 : px_lg (px_s1 lv 2 (oI (((dw i (fA h0 206) (fA h0 207) m).1 : Int) + 1))) 2 = some (oI (((dw i (fA h0 206) (fA h0 207) m).1 : Int) + 1)) := s1_eq
          generalize px_s1 lv 2 (oI (((dw i (fA h0 206) (fA h0 207) m).1 : Int) + 1)) = lv12 at l0 l1 l3 l2 ⊢
          show t_X d 194 94 lv12 [] g11 P
          refine t_2 qgcl9_94 rfl (w := (px_s1 lv12 3 (oI ((m : Int) + 1)), [])) (pq_inc l3 (by decide)) ?_
          replace l0 : px_lg (px_s1 lv12 3 (oI ((m : Int) + 1))) 0 = some (pvR 196) := s1_ne (by decide) (fun _ => rfl) l0
          replace l1 : px_lg (px_s1 lv12 3 (oI ((m : Int) + 1))) 1 = some (oI (i)) := s1_ne (by decide) (fun _ => rfl) l1
          replace l2 : px_lg (px_s1 lv12 3 (oI ((m : Int) + 1))) 2 = some (oI (((dw i (fA h0 206) (fA h0 207) m).1 : Int) + 1)) := s1_ne (by decide) (fun _ => rfl) l2
          have l3 : px_lg (px_s1 lv12 3 (oI ((m : Int) + 1))) 3 = some (oI ((m : Int) + 1)) := s1_eq
          generalize px_s1 lv12 3 (oI ((m : Int) + 1)) = lv13 at l0 l1 l2 l3 ⊢
          show t_X d 194 97 lv13 [] g11 P
          refine t_1 qgcl9_97 rfl (pb_goto (pc := 97) (by decide)) ?_
          show t_X d 194 35 lv13 [] g11 P
          have hd := dw_t (i := i) (A := fA h0 206) (B := fA h0 207) (k := m) (by rw [← hA]; omega) (by rw [← hB]; omega)
          refine ih (m + 1) _ g11 (by omega) (by omega) hJ11 (by omega) ?_ ?_ l0 l1 (by rw [l2, hd]; rfl) l3
          · simp only [u11_206, u9_206]; rw [hd, hA]; rfl
          · simp only [u11_207, u9_207]; rw [hd, hB]; rfl
        · show t_X d 194 63 lv [] g P
          refine t_1 qgcl9_63 rfl (pb_goto (pc := 63) (by decide)) ?_
          show t_X d 194 94 lv [] g P
          refine t_2 qgcl9_94 rfl (w := (px_s1 lv 3 (oI ((m : Int) + 1)), [])) (pq_inc l3 (by decide)) ?_
          replace l0 : px_lg (px_s1 lv 3 (oI ((m : Int) + 1))) 0 = some (pvR 196) := s1_ne (by decide) (fun _ => rfl) l0
          replace l1 : px_lg (px_s1 lv 3 (oI ((m : Int) + 1))) 1 = some (oI (i)) := s1_ne (by decide) (fun _ => rfl) l1
          replace l2 : px_lg (px_s1 lv 3 (oI ((m : Int) + 1))) 2 = some (oI (((dw i (fA h0 206) (fA h0 207) m).1 : Int))) := s1_ne (by decide) (fun _ => rfl) l2
          have l3 : px_lg (px_s1 lv 3 (oI ((m : Int) + 1))) 3 = some (oI ((m : Int) + 1)) := s1_eq
          generalize px_s1 lv 3 (oI ((m : Int) + 1)) = lv14 at l0 l1 l2 l3 ⊢
          show t_X d 194 97 lv14 [] g P
          refine t_1 qgcl9_97 rfl (pb_goto (pc := 97) (by decide)) ?_
          show t_X d 194 35 lv14 [] g P
          have hd := dw_f (i := i) (A := fA h0 206) (B := fA h0 207) (k := m) (by rw [← hA, ← hB]; omega)
          exact ih (m + 1) _ g (by omega) (by omega) hJ (by omega) (by rw [hd]; exact hA) (by rw [hd]; exact hB) l0 l1 (by rw [l2, hd]) l3
    · have he : m = (fF h0 22).toNat := by omega
      refine t_0 qgcl9_35 rfl (ld_i l3) ?_
      refine t_0 qgcl9_36 rfl (ld_a l0) ?_
      have r1 := gb_f hJ.1 (y := 22) rfl rfl gf_22
      refine t_0 qgcl9_37 rfl (pq_gf (y := 22) rfl) ?_
      refine tb_ge qgcl9_40 (by decide) ⟨by omega, by omega⟩ ⟨by omega, by omega⟩ (fun c2 => ?_) (fun c2 => absurd c2 (by omega))
      show t_X d 194 100 lv [] g P
      refine t_0 qgcl9_100 rfl (ld_a l0) ?_
      refine t_0 qgcl9_101 rfl (ld_i l2) ?_
      refine tw_c qgcl9_102 el_196 rfl hJ w_22 gf_22 (by decide) ⟨by omega, by omega⟩ (fun g3 hJ3 e3 => ?_)
      have v3 : fF g3 22 = ((dw i (fA h0 206) (fA h0 207) m).1 : Int) := by rw [e3]; exact pc_at (by omega) (by omega)
      have u3_206 : fA g3 206 = fA g 206 := by rw [e3]; rfl
      have u3_207 : fA g3 207 = fA g 207 := by rw [e3]; rfl
      show t_X d 194 105 lv [] g3 P
      refine hP _ lv hJ3 ?_ ?_ ?_ l0 l1
      · rw [v3, he]
      · simp only [u3_206]; rw [hA, he]
      · simp only [u3_207]; rw [hB, he]
set_option maxHeartbeats 4000000 in
theorem gl_li {d W : Nat} {w0 h0 : pH} {i : Int} (hi : 0 ≤ i ∧ i ≤ 31) (w_a208 : W.testBit (cn 208) = true) (w_a209 : W.testBit (cn 209) = true) (w_23 : W.testBit (cn 196 + 23) = true) {P : Option pv × pH → Prop} (hP : ∀ (g1 : pH) (lv : List (Nat × pv)), J_ W w0 g1 → fF g1 23 = ((dw i (fA h0 208) (fA h0 209) (fF h0 23).toNat).1 : Int) → fA g1 208 = (dw i (fA h0 208) (fA h0 209) (fF h0 23).toNat).2.1 → fA g1 209 = (dw i (fA h0 208) (fA h0 209) (fF h0 23).toNat).2.2 → px_lg lv 0 = some (pvR 196) → px_lg lv 1 = some (oI i) → t_X d 194 179 lv [] g1 P) : ∀ (n m : Nat) (lv : List (Nat × pv)) (g : pH), (fF h0 23).toNat - m ≤ n → m ≤ (fF h0 23).toNat → J_ W w0 g → fF g 23 = fF h0 23 → fA g 208 = (dw i (fA h0 208) (fA h0 209) m).2.1 → fA g 209 = (dw i (fA h0 208) (fA h0 209) m).2.2 → px_lg lv 0 = some (pvR 196) → px_lg lv 1 = some (oI i) → px_lg lv 2 = some (oI ((dw i (fA h0 208) (fA h0 209) m).1 : Int)) → px_lg lv 3 = some (oI (m : Int)) → t_X d 194 109 lv [] g P := by
  intro n
  induction n with
  | zero =>
    intro m lv g hn hm hJ hz hA hB l0 l1 l2 l3
    have hc := gb_f hJ.1 (y := 23) rfl rfl gf_23
    have hle := dw_le (i := i) (A := fA h0 208) (B := fA h0 209) m
    have he : m = (fF h0 23).toNat := by omega
    refine t_0 qgli9_109 rfl (ld_i l3) ?_
    refine t_0 qgli9_110 rfl (ld_a l0) ?_
    have r1 := gb_f hJ.1 (y := 23) rfl rfl gf_23
    refine t_0 qgli9_111 rfl (pq_gf (y := 23) rfl) ?_
    refine tb_ge qgli9_114 (by decide) ⟨by omega, by omega⟩ ⟨by omega, by omega⟩ (fun c2 => ?_) (fun c2 => absurd c2 (by omega))
    show t_X d 194 174 lv [] g P
    refine t_0 qgli9_174 rfl (ld_a l0) ?_
    refine t_0 qgli9_175 rfl (ld_i l2) ?_
    refine tw_c qgli9_176 el_196 rfl hJ w_23 gf_23 (by decide) ⟨by omega, by omega⟩ (fun g3 hJ3 e3 => ?_)
    have v3 : fF g3 23 = ((dw i (fA h0 208) (fA h0 209) m).1 : Int) := by rw [e3]; exact pc_at (by omega) (by omega)
    have u3_208 : fA g3 208 = fA g 208 := by rw [e3]; rfl
    have u3_209 : fA g3 209 = fA g 209 := by rw [e3]; rfl
    show t_X d 194 179 lv [] g3 P
    refine hP _ lv hJ3 ?_ ?_ ?_ l0 l1
    · rw [v3, he]
    · simp only [u3_208]; rw [hA, he]
    · simp only [u3_209]; rw [hB, he]
  | succ n ih =>
    intro m lv g hn hm hJ hz hA hB l0 l1 l2 l3
    have hc := gb_f hJ.1 (y := 23) rfl rfl gf_23
    have hle := dw_le (i := i) (A := fA h0 208) (B := fA h0 209) m
    by_cases hlt : m < (fF h0 23).toNat
    · skip
      refine t_0 qgli9_109 rfl (ld_i l3) ?_
      refine t_0 qgli9_110 rfl (ld_a l0) ?_
      have r1 := gb_f hJ.1 (y := 23) rfl rfl gf_23
      refine t_0 qgli9_111 rfl (pq_gf (y := 23) rfl) ?_
      refine tb_ge qgli9_114 (by decide) ⟨by omega, by omega⟩ ⟨by omega, by omega⟩ (fun c2 => absurd c2 (by omega)) (fun c2 => ?_)
      show t_X d 194 117 lv [] g P
      refine t_0 qgli9_117 rfl (ld_a l0) ?_
      refine t_0 qgli9_118 rfl (ar_13 hJ.1) ?_
      refine t_0 qgli9_121 rfl (ld_i l3) ?_
      refine t_0 qgli9_122 rfl (pq_ia el_208 rfl ⟨by omega, by omega⟩) ?_
      show t_X d 194 123 lv [oI (fA g 208 m)] g P
      have r3 := gb_a hJ.1 el_208 (j := m) (by omega) ga_208
      refine t_0 qgli9_123 rfl (ld_i l1) ?_
      refine tb_eq qgli9_124 (by decide) ⟨by omega, by omega⟩ ⟨by omega, by omega⟩ (fun c4 => ?_) (fun c4 => ?_)
      · show t_X d 194 168 lv [] g P
        refine t_2 qgli9_168 rfl (w := (px_s1 lv 3 (oI ((m : Int) + 1)), [])) (pq_inc l3 (by decide)) ?_
        replace l0 : px_lg (px_s1 lv 3 (oI ((m : Int) + 1))) 0 = some (pvR 196) := s1_ne (by decide) (fun _ => rfl) l0
        replace l1 : px_lg (px_s1 lv 3 (oI ((m : Int) + 1))) 1 = some (oI (i)) := s1_ne (by decide) (fun _ => rfl) l1
        replace l2 : px_lg (px_s1 lv 3 (oI ((m : Int) + 1))) 2 = some (oI (((dw i (fA h0 208) (fA h0 209) m).1 : Int))) := s1_ne (by decide) (fun _ => rfl) l2
        have l3 : px_lg (px_s1 lv 3 (oI ((m : Int) + 1))) 3 = some (oI ((m : Int) + 1)) := s1_eq
        generalize px_s1 lv 3 (oI ((m : Int) + 1)) = lv5 at l0 l1 l2 l3 ⊢
        show t_X d 194 171 lv5 [] g P
        refine t_1 qgli9_171 rfl (pb_goto (pc := 171) (by decide)) ?_
        show t_X d 194 109 lv5 [] g P
        have hd := dw_f (i := i) (A := fA h0 208) (B := fA h0 209) (k := m) (by rw [← hA, ← hB]; omega)
        exact ih (m + 1) _ g (by omega) (by omega) hJ (by omega) (by rw [hd]; exact hA) (by rw [hd]; exact hB) l0 l1 (by rw [l2, hd]) l3
      · show t_X d 194 127 lv [] g P
        refine t_0 qgli9_127 rfl (ld_a l0) ?_
        refine t_0 qgli9_128 rfl (ar_14 hJ.1) ?_
        refine t_0 qgli9_131 rfl (ld_i l3) ?_
        refine t_0 qgli9_132 rfl (pq_ia el_209 rfl ⟨by omega, by omega⟩) ?_
        show t_X d 194 133 lv [oI (fA g 209 m)] g P
        have r6 := gb_a hJ.1 el_209 (j := m) (by omega) ga_209
        refine t_0 qgli9_133 rfl (ld_i l1) ?_
        refine tb_ne qgli9_134 (by decide) ⟨by omega, by omega⟩ ⟨by omega, by omega⟩ (fun c7 => ?_) (fun c7 => ?_)
        · show t_X d 194 140 lv [] g P
          refine t_0 qgli9_140 rfl (ld_a l0) ?_
          refine t_0 qgli9_141 rfl (ar_13 hJ.1) ?_
          refine t_0 qgli9_144 rfl (ld_i l2) ?_
          refine t_0 qgli9_145 rfl (ld_a l0) ?_
          refine t_0 qgli9_146 rfl (ar_13 hJ.1) ?_
          refine t_0 qgli9_149 rfl (ld_i l3) ?_
          refine t_0 qgli9_150 rfl (pq_ia el_208 rfl ⟨by omega, by omega⟩) ?_
          show t_X d 194 151 lv [oI (fA g 208 m), oI (((dw i (fA h0 208) (fA h0 209) m).1 : Int)), pvR 208] g P
          have r8 := gb_a hJ.1 el_208 (j := m) (by omega) ga_208
          refine tw_i qgli9_151 hJ el_208 rfl w_a208 ga_208 ⟨by omega, by omega⟩ (rg31 ⟨by omega, by omega⟩) (fun g9 hJ9 e9 => ?_)
          have u9_208 : fA g9 208 = updI (fA g 208) (((dw i (fA h0 208) (fA h0 209) m).1 : Int)).toNat (fA g 208 m) := by rw [e9]; exact fA_pu2 ⟨by omega, by omega⟩
          have u9_209 : fA g9 209 = fA g 209 := by rw [e9]; exact fA_pn (by decide)
          have v9 : fF g9 23 = fF g 23 := by rw [e9]; rfl
          show t_X d 194 152 lv [] g9 P
          refine t_0 qgli9_152 rfl (ld_a l0) ?_
          refine t_0 qgli9_153 rfl (ar_14 hJ9.1) ?_
          refine t_0 qgli9_156 rfl (ld_i l2) ?_
          refine t_0 qgli9_157 rfl (ld_a l0) ?_
          refine t_0 qgli9_158 rfl (ar_14 hJ9.1) ?_
          refine t_0 qgli9_161 rfl (ld_i l3) ?_
          refine t_0 qgli9_162 rfl (pq_ia el_209 rfl ⟨by omega, by omega⟩) ?_
          show t_X d 194 163 lv [oI (fA g9 209 m), oI (((dw i (fA h0 208) (fA h0 209) m).1 : Int)), pvR 209] g9 P
          have r10 := gb_a hJ9.1 el_209 (j := m) (by omega) ga_209
          refine tw_i qgli9_163 hJ9 el_209 rfl w_a209 ga_209 ⟨by omega, by omega⟩ (rg31 ⟨by omega, by omega⟩) (fun g11 hJ11 e11 => ?_)
          have u11_209 : fA g11 209 = updI (fA g9 209) (((dw i (fA h0 208) (fA h0 209) m).1 : Int)).toNat (fA g9 209 m) := by rw [e11]; exact fA_pu2 ⟨by omega, by omega⟩
          have u11_208 : fA g11 208 = fA g9 208 := by rw [e11]; exact fA_pn (by decide)
          have v11 : fF g11 23 = fF g9 23 := by rw [e11]; rfl
          show t_X d 194 164 lv [] g11 P
          refine t_0 qgli9_164 rfl (ld_i l2) ?_
          refine t_0 qgli9_165 rfl rfl ?_
          refine t_0 qgli9_166 rfl pq_add ?_
          refine t_2 qgli9_167 rfl (w := (px_s1 lv 2 (oI (((dw i (fA h0 208) (fA h0 209) m).1 : Int) + 1)), [])) rfl ?_
          replace l0 : px_lg (px_s1 lv 2 (oI (((dw i (fA h0 208) (fA h0 209) m).1 : Int) + 1))) 0 = some (pvR 196) := s1_ne (by decide) (fun _ => rfl) l0
          replace l1 : px_lg (px_s1 lv 2 (oI (((dw i (fA h0 208) (fA h0 209) m).1 : Int) + 1))) 1 = some (oI (i)) := s1_ne (by decide) (fun _ => rfl) l1
          replace l3 : px_lg (px_s1 lv 2 (oI (((dw i (fA h0 208) (fA h0 209) m).1 : Int) + 1))) 3 = some (oI ((m : Int))) := s1_ne (by decide) (fun _ => rfl) l3
          have l2 : px_lg (px_s1 lv 2 (oI (((dw i (fA h0 208) (fA h0 209) m).1 : Int) + 1))) 2 = some (oI (((dw i (fA h0 208) (fA h0 209) m).1 : Int) + 1)) := s1_eq
          generalize px_s1 lv 2 (oI (((dw i (fA h0 208) (fA h0 209) m).1 : Int) + 1)) = lv12 at l0 l1 l3 l2 ⊢
          show t_X d 194 168 lv12 [] g11 P
          refine t_2 qgli9_168 rfl (w := (px_s1 lv12 3 (oI ((m : Int) + 1)), [])) (pq_inc l3 (by decide)) ?_
          replace l0 : px_lg (px_s1 lv12 3 (oI ((m : Int) + 1))) 0 = some (pvR 196) := s1_ne (by decide) (fun _ => rfl) l0
          replace l1 : px_lg (px_s1 lv12 3 (oI ((m : Int) + 1))) 1 = some (oI (i)) := s1_ne (by decide) (fun _ => rfl) l1
          replace l2 : px_lg (px_s1 lv12 3 (oI ((m : Int) + 1))) 2 = some (oI (((dw i (fA h0 208) (fA h0 209) m).1 : Int) + 1)) := s1_ne (by decide) (fun _ => rfl) l2
          have l3 : px_lg (px_s1 lv12 3 (oI ((m : Int) + 1))) 3 = some (oI ((m : Int) + 1)) := s1_eq
          generalize px_s1 lv12 3 (oI ((m : Int) + 1)) = lv13 at l0 l1 l2 l3 ⊢
          show t_X d 194 171 lv13 [] g11 P
          refine t_1 qgli9_171 rfl (pb_goto (pc := 171) (by decide)) ?_
          show t_X d 194 109 lv13 [] g11 P
          have hd := dw_t (i := i) (A := fA h0 208) (B := fA h0 209) (k := m) (by rw [← hA]; omega) (by rw [← hB]; omega)
          refine ih (m + 1) _ g11 (by omega) (by omega) hJ11 (by omega) ?_ ?_ l0 l1 (by rw [l2, hd]; rfl) l3
          · simp only [u11_208, u9_208]; rw [hd, hA]; rfl
          · simp only [u11_209, u9_209]; rw [hd, hB]; rfl
        · show t_X d 194 137 lv [] g P
          refine t_1 qgli9_137 rfl (pb_goto (pc := 137) (by decide)) ?_
          show t_X d 194 168 lv [] g P
          refine t_2 qgli9_168 rfl (w := (px_s1 lv 3 (oI ((m : Int) + 1)), [])) (pq_inc l3 (by decide)) ?_
          replace l0 : px_lg (px_s1 lv 3 (oI ((m : Int) + 1))) 0 = some (pvR 196) := s1_ne (by decide) (fun _ => rfl) l0
          replace l1 : px_lg (px_s1 lv 3 (oI ((m : Int) + 1))) 1 = some (oI (i)) := s1_ne (by decide) (fun _ => rfl) l1
          replace l2 : px_lg (px_s1 lv 3 (oI ((m : Int) + 1))) 2 = some (oI (((dw i (fA h0 208) (fA h0 209) m).1 : Int))) := s1_ne (by decide) (fun _ => rfl) l2
          have l3 : px_lg (px_s1 lv 3 (oI ((m : Int) + 1))) 3 = some (oI ((m : Int) + 1)) := s1_eq
          generalize px_s1 lv 3 (oI ((m : Int) + 1)) = lv14 at l0 l1 l2 l3 ⊢
          show t_X d 194 171 lv14 [] g P
          refine t_1 qgli9_171 rfl (pb_goto (pc := 171) (by decide)) ?_
          show t_X d 194 109 lv14 [] g P
          have hd := dw_f (i := i) (A := fA h0 208) (B := fA h0 209) (k := m) (by rw [← hA, ← hB]; omega)
          exact ih (m + 1) _ g (by omega) (by omega) hJ (by omega) (by rw [hd]; exact hA) (by rw [hd]; exact hB) l0 l1 (by rw [l2, hd]) l3
    · have he : m = (fF h0 23).toNat := by omega
      refine t_0 qgli9_109 rfl (ld_i l3) ?_
      refine t_0 qgli9_110 rfl (ld_a l0) ?_
      have r1 := gb_f hJ.1 (y := 23) rfl rfl gf_23
      refine t_0 qgli9_111 rfl (pq_gf (y := 23) rfl) ?_
      refine tb_ge qgli9_114 (by decide) ⟨by omega, by omega⟩ ⟨by omega, by omega⟩ (fun c2 => ?_) (fun c2 => absurd c2 (by omega))
      show t_X d 194 174 lv [] g P
      refine t_0 qgli9_174 rfl (ld_a l0) ?_
      refine t_0 qgli9_175 rfl (ld_i l2) ?_
      refine tw_c qgli9_176 el_196 rfl hJ w_23 gf_23 (by decide) ⟨by omega, by omega⟩ (fun g3 hJ3 e3 => ?_)
      have v3 : fF g3 23 = ((dw i (fA h0 208) (fA h0 209) m).1 : Int) := by rw [e3]; exact pc_at (by omega) (by omega)
      have u3_208 : fA g3 208 = fA g 208 := by rw [e3]; rfl
      have u3_209 : fA g3 209 = fA g 209 := by rw [e3]; rfl
      show t_X d 194 179 lv [] g3 P
      refine hP _ lv hJ3 ?_ ?_ ?_ l0 l1
      · rw [v3, he]
      · simp only [u3_208]; rw [hA, he]
      · simp only [u3_209]; rw [hB, he]
theorem gc_205 : eG (cn 205) = (-1, 3, []) := by decide +kernel
def Wgcl : Nat := 2 ^ (cn 196 + 22) + 2 ^ cn 206 + 2 ^ cn 207
def Wgli : Nat := 2 ^ (cn 196 + 23) + 2 ^ cn 208 + 2 ^ cn 209
theorem Wgcl_1 : Wgcl.testBit (cn 206) = true ∧ Wgcl.testBit (cn 207) = true ∧ Wgcl.testBit (cn 196 + 22) = true ∧ Wgcl &&& kk_9.2.2.2.1 = Wgcl ∧ Wgcl.testBit (cn 208) = false ∧ Wgcl.testBit (cn 209) = false ∧ Wgcl.testBit (cn 196 + 23) = false := by decide +kernel
theorem Wgli_1 : Wgli.testBit (cn 208) = true ∧ Wgli.testBit (cn 209) = true ∧ Wgli.testBit (cn 196 + 23) = true ∧ Wgli &&& kk_9.2.2.2.1 = Wgli ∧ Wgli.testBit (cn 206) = false ∧ Wgli.testBit (cn 207) = false ∧ Wgli.testBit (cn 196 + 22) = false := by decide +kernel
def dwQ (i : Int) (y A B : Nat) (g g1 : pH) : Prop := fF g1 y = ((dw i (fA g A) (fA g B) (fF g y).toNat).1 : Int) ∧ fA g1 A = (dw i (fA g A) (fA g B) (fF g y).toNat).2.1 ∧ fA g1 B = (dw i (fA g A) (fA g B) (fF g y).toNat).2.2
theorem dwQ_e {i : Int} {y A B : Nat} {g g0 g1 g2 : pH} (h : dwQ i y A B g0 g1) (h1 : fF g0 y = fF g y) (h2 : fA g0 A = fA g A) (h3 : fA g0 B = fA g B) (h4 : fF g2 y = fF g1 y) (h5 : fA g2 A = fA g1 A) (h6 : fA g2 B = fA g1 B) : dwQ i y A B g g2 := by
  unfold dwQ at h ⊢
  rw [h4, h5, h6, ← h1, ← h2, ← h3]
  exact h
set_option maxHeartbeats 4000000 in
theorem mg9_run {d : Nat} (hd : 4 ≤ d) {g : pH} (hG : g_I eG g) {i : Int} (hi : -2147483648 ≤ i ∧ i ≤ 2147483647) {P : Option pv × pH → Prop} (hA : toM g i → ∀ g1 : pH, J_ kk_9.2.2.2.1 g g1 → dwQ i 22 206 207 g g1 → dwQ i 23 208 209 g g1 → P (some (oI 1), g1)) (hR : ¬ toM g i → P (some (oI 0), g)) {lv : List (Nat × pv)} (l0 : px_lg lv 0 = some (pvR 196)) (l1 : px_lg lv 1 = some (oI i)) : t_X d 194 0 lv [] g P := by
  have hJ : J_ kk_9.2.2.2.1 g g := J_rf hG
  have W205 : kk_9.2.2.2.1.testBit (cn 205) = true := by decide +kernel
  refine t_0 qxm_0 rfl (ld_a l0) ?_
  refine t_0 qxm_1 rfl (ld_i l1) ?_
  refine t_3 qxm_2 rfl (ar := ([pvR 196, oI (i)], [])) (pcal_v1 rfl rfl el_196) ⟨by omega, Nat.le_of_ble_eq_true rfl, Nat.le_of_ble_eq_true rfl, rfl⟩ ?_
  refine it_run (by omega) (by omega) rfl rfl (fun m hm e1 c0 => ?_) (fun c0 => ?_)
  · subst e1
    show t_X d 194 5 lv [oI (1)] g P
    refine tz_ne qxm_5 (by decide) ⟨by omega, by omega⟩ (fun c1 => ?_) (fun c1 => absurd c1 (by omega))
    show t_X d 194 10 lv [] g P
    refine t_0 qxm_10 rfl (ld_a l0) ?_
    refine t_0 qxm_11 rfl (ld_a l0) ?_
    have r2 := fF_b g 0
    refine t_0 qxm_12 rfl (pq_gf (y := 0) rfl) ?_
    refine t_0 qxm_15 rfl rfl ?_
    refine t_0 qxm_16 rfl (ld_i l1) ?_
    refine t_0 qxm_17 rfl rfl ?_
    refine t_0 qxm_18 rfl rfl ?_
    refine t_0 qxm_19 rfl rfl ?_
    refine t_0 qxm_20 rfl rfl ?_
    refine tw_v qxm_21 el_196 rfl hJ Wmgn.1 gF_0 (fun g3 hJ3 e3 => ?_)
    have u3_206 : fA g3 206 = fA g 206 := by rw [e3]; rfl
    have u3_207 : fA g3 207 = fA g 207 := by rw [e3]; rfl
    have u3_208 : fA g3 208 = fA g 208 := by rw [e3]; rfl
    have u3_209 : fA g3 209 = fA g 209 := by rw [e3]; rfl
    have v3_22 : fF g3 22 = fF g 22 := by rw [e3]; exact congrArg Int32.toInt (pr_ne (by decide))
    have v3_23 : fF g3 23 = fF g 23 := by rw [e3]; exact congrArg Int32.toInt (pr_ne (by decide))
    show t_X d 194 24 lv [] g3 P
    refine t_0 qxm_24 rfl (ld_a l0) ?_
    refine t_0 qxm_25 rfl (ar_10 hJ3.1) ?_
    refine t_0 qxm_28 rfl (ld_i l1) ?_
    refine t_0 qxm_29 rfl rfl ?_
    refine tw_i qxm_30 hJ3 el_205 rfl W205 gc_205 ⟨by omega, by omega⟩ (by decide) (fun g4 hJ4 e4 => ?_)
    have u4_206 : fA g4 206 = fA g3 206 := by rw [e4]; exact fA_pn (by decide)
    have u4_207 : fA g4 207 = fA g3 207 := by rw [e4]; exact fA_pn (by decide)
    have u4_208 : fA g4 208 = fA g3 208 := by rw [e4]; exact fA_pn (by decide)
    have u4_209 : fA g4 209 = fA g3 209 := by rw [e4]; exact fA_pn (by decide)
    have v4_22 : fF g4 22 = fF g3 22 := by rw [e4]; rfl
    have v4_23 : fF g4 23 = fF g3 23 := by rw [e4]; rfl
    show t_X d 194 31 lv [] g4 P
    refine t_0 qxm_31 rfl rfl ?_
    refine t_2 qxm_32 rfl (w := (px_s1 lv 2 (oI (0)), [])) rfl ?_
    replace l0 : px_lg (px_s1 lv 2 (oI (0))) 0 = some (pvR 196) := s1_ne (by decide) (fun _ => rfl) l0
    replace l1 : px_lg (px_s1 lv 2 (oI (0))) 1 = some (oI ((m : Int))) := s1_ne (by decide) (fun _ => rfl) l1
    have l2 : px_lg (px_s1 lv 2 (oI (0))) 2 = some (oI (0)) := s1_eq
    generalize px_s1 lv 2 (oI (0)) = lv5 at l0 l1 l2 ⊢
    show t_X d 194 33 lv5 [] g4 P
    refine t_0 qxm_33 rfl rfl ?_
    refine t_2 qxm_34 rfl (w := (px_s1 lv5 3 (oI (0)), [])) rfl ?_
    replace l0 : px_lg (px_s1 lv5 3 (oI (0))) 0 = some (pvR 196) := s1_ne (by decide) (fun _ => rfl) l0
    replace l1 : px_lg (px_s1 lv5 3 (oI (0))) 1 = some (oI ((m : Int))) := s1_ne (by decide) (fun _ => rfl) l1
    replace l2 : px_lg (px_s1 lv5 3 (oI (0))) 2 = some (oI (0)) := s1_ne (by decide) (fun _ => rfl) l2
    have l3 : px_lg (px_s1 lv5 3 (oI (0))) 3 = some (oI (0)) := s1_eq
    generalize px_s1 lv5 3 (oI (0)) = lv6 at l0 l1 l2 l3 ⊢
    show t_X d 194 35 lv6 [] g4 P
    refine gl_cl (W := Wgcl) (w0 := g4) (h0 := g4) (by omega) Wgcl_1.1 Wgcl_1.2.1 Wgcl_1.2.2.1 (fun gA lvA JA zA aA bA k0 k1 => ?_) 24 0 _ _ (by have := gb_f hJ4.1 (y := 22) rfl rfl gf_22; omega) (by omega) (J_rf hJ4.1) rfl rfl rfl l0 l1 l2 l3
    have hJA := J_up Wgcl_1.2.2.2.1 hJ4 JA
    have D1 : dwQ (m : Int) 22 206 207 g4 gA := ⟨zA, aA, bA⟩
    clear l0 l1 l2 l3
    show t_X d 194 105 lvA [] gA P
    refine t_0 qxm_105 rfl rfl ?_
    refine t_2 qxm_106 rfl (w := (px_s1 lvA 2 (oI 0), [])) rfl ?_
    refine t_0 qxm_107 rfl rfl ?_
    refine t_2 qxm_108 rfl (w := (px_s1 (px_s1 lvA 2 (oI 0)) 3 (oI 0), [])) rfl ?_
    refine gl_li (W := Wgli) (w0 := gA) (h0 := gA) (by omega) Wgli_1.1 Wgli_1.2.1 Wgli_1.2.2.1 (fun gB lvB JB zB aB bB k2 k3 => ?_) 12 0 _ _ (by have := gb_f hJA.1 (y := 23) rfl rfl gf_23; omega) (by omega) (J_rf hJA.1) rfl rfl rfl (s1_ne (by decide) (fun _ => rfl) (s1_ne (by decide) (fun _ => rfl) k0)) (s1_ne (by decide) (fun _ => rfl) (s1_ne (by decide) (fun _ => rfl) k1)) (s1_ne (by decide) (fun _ => rfl) s1_eq) s1_eq
    have hJB := J_up Wgli_1.2.2.2.1 hJA JB
    have D2 : dwQ (m : Int) 23 208 209 gA gB := ⟨zB, aB, bB⟩
    refine t_0 qxm_179 rfl rfl ?_
    refine t_5 qxm_180 rfl rfl ?_
    refine hA ⟨m, hm, rfl, c0⟩ gB hJB ?_ ?_
    · exact dwQ_e D1 (by rw [v4_22, v3_22]) (by rw [u4_206, u3_206]) (by rw [u4_207, u3_207]) (fF_M JB.2 Wgli_1.2.2.2.2.2.2) (fA_M JB.2 Wgli_1.2.2.2.2.1) (fA_M JB.2 Wgli_1.2.2.2.2.2.1)
    · exact dwQ_e D2 (by rw [fF_M JA.2 Wgcl_1.2.2.2.2.2.2, v4_23, v3_23]) (by rw [fA_M JA.2 Wgcl_1.2.2.2.2.1, u4_208, u3_208]) (by rw [fA_M JA.2 Wgcl_1.2.2.2.2.2.1, u4_209, u3_209]) rfl rfl rfl
  · show t_X d 194 5 lv [oI (0)] g P
    refine tz_ne qxm_5 (by decide) ⟨by omega, by omega⟩ (fun c7 => absurd c7 (by omega)) (fun c7 => ?_)
    show t_X d 194 8 lv [] g P
    refine t_0 qxm_8 rfl rfl ?_
    refine t_5 qxm_9 rfl rfl ?_
    exact hR c0
set_option maxHeartbeats 2000000 in
theorem cx_loop {d K K2 N n : Nat} {W : Nat} {h0 w0 : pH} (hk : eL[K]? = some (1, N)) (hk2 : eL[K2]? = some (1, N)) (hne : K ≠ K2) (hb : Nat.ble N 10000 = true) (hb2 : Nat.beq K 1000 = false) (hn : n = N) (hg : eG (cn K) = (0, 31, [])) (hg2 : eG (cn K2) = (0, 31, [])) (hW : W.testBit (cn K2) = true) {P : Option pv × pH → Prop} (hP : ∀ g1 : pH, J_ W w0 g1 → (∀ j, j < N → fA g1 K2 j = fA h0 K j) → (∀ Q, Q ≠ K2 → fA g1 Q = fA h0 Q) → g1.1 = h0.1 → P (none, g1)) : ∀ (q m : Nat) (lv : List (Nat × pv)) (g : pH), N - m ≤ q → m ≤ N → J_ W w0 g → (∀ j, j < m → fA g K2 j = fA h0 K j) → (∀ Q, Q ≠ K2 → fA g Q = fA h0 Q) → g.1 = h0.1 → px_lg lv 0 = some (pvR K) → px_lg lv 1 = some (pvR K2) → px_lg lv 2 = some (oI (n : Int)) → px_lg lv 3 = some (oI (m : Int)) → t_X d 179 2 lv [] g P := by
  have hb1 := Nat.le_of_ble_eq_true hb
  intro q
  induction q with
  | zero =>
    intro m lv g hq hm hJ hA hO hF l0 l1 l2 l3
    refine t_0 qcp_2 rfl (ld_i l3) ?_
    refine t_0 qcp_3 rfl (ld_i l2) ?_
    refine tb_ge qcp_4 (by decide) ⟨by omega, by omega⟩ ⟨by omega, by omega⟩ (fun c1 => ?_) (fun c1 => absurd c1 (by omega))
    show t_X d 179 19 lv [] g P
    refine t_5 qcp_19 rfl rfl ?_
    exact hP _ hJ (fun j hj => hA j (by omega)) hO hF
  | succ q ih =>
    intro m lv g hq hm hJ hA hO hF l0 l1 l2 l3
    refine t_0 qcp_2 rfl (ld_i l3) ?_
    refine t_0 qcp_3 rfl (ld_i l2) ?_
    refine tb_ge qcp_4 (by decide) ⟨by omega, by omega⟩ ⟨by omega, by omega⟩ (fun c1 => ?_) (fun c1 => ?_)
    · show t_X d 179 19 lv [] g P
      refine t_5 qcp_19 rfl rfl ?_
      exact hP _ hJ (fun j hj => hA j (by omega)) hO hF
    · show t_X d 179 7 lv [] g P
      refine t_0 qcp_7 rfl (ld_a l1) ?_
      refine t_0 qcp_8 rfl (ld_i l3) ?_
      refine t_0 qcp_9 rfl (ld_a l0) ?_
      refine t_0 qcp_10 rfl (ld_i l3) ?_
      have hv := gb_a hJ.1 hk (j := m) (by omega) hg
      refine t_0 qcp_11 rfl (pq_ia hk hb ⟨by omega, by omega⟩) ?_
      show t_X d 179 12 lv [oI (fA g K m), oI ((m : Int)), pvR K2] g P
      refine tw_i qcp_12 hJ hk2 hb hW hg2 ⟨by omega, by omega⟩ (rg31 ⟨by omega, by omega⟩) (fun g3 hJ3 e3 => ?_)
      have u3 : fA g3 K2 = updI (fA g K2) (m : Int).toNat (fA g K m) := by rw [e3]; exact fA_pu2 ⟨by omega, by omega⟩
      show t_X d 179 13 lv [] g3 P
      refine t_2 qcp_13 rfl (w := (px_s1 lv 3 (oI ((m : Int) + 1)), [])) (pq_inc l3 (by decide)) ?_
      replace l0 : px_lg (px_s1 lv 3 (oI ((m : Int) + 1))) 0 = some (pvR K) := s1_ne (by decide) (fun _ => rfl) l0
      replace l1 : px_lg (px_s1 lv 3 (oI ((m : Int) + 1))) 1 = some (pvR K2) := s1_ne (by decide) (fun _ => rfl) l1
      replace l2 : px_lg (px_s1 lv 3 (oI ((m : Int) + 1))) 2 = some (oI (n : Int)) := s1_ne (by decide) (fun _ => rfl) l2
      have l3 : px_lg (px_s1 lv 3 (oI ((m : Int) + 1))) 3 = some (oI ((m : Int) + 1)) := s1_eq
      generalize px_s1 lv 3 (oI ((m : Int) + 1)) = lv4 at l0 l1 l2 l3 ⊢
      show t_X d 179 16 lv4 [] g3 P
      refine t_1 qcp_16 rfl (pb_goto (pc := 16) (by decide)) ?_
      show t_X d 179 2 lv4 [] g3 P
      refine ih (m + 1) lv4 g3 (by omega) (by omega) hJ3 (fun j hj => ?_) (fun Q hQ => ?_) (by rw [e3]; exact hF) l0 l1 l2 l3
      · rw [u3]
        show (if j = m then fA g K m else fA g K2 j) = _
        by_cases z : j = m
        · rw [if_pos z, z, hO K hne]
        · rw [if_neg z]
          exact hA j (by omega)
      · rw [e3, fA_pn hQ]
        exact hO Q hQ
theorem cx_run {d K K2 N : Nat} {h0 : pH} (hG : g_I eG h0) (hk : eL[K]? = some (1, N)) (hk2 : eL[K2]? = some (1, N)) (hne : K ≠ K2) (hb : Nat.ble N 10000 = true) (hb2 : Nat.beq K 1000 = false) (hg : eG (cn K) = (0, 31, [])) (hg2 : eG (cn K2) = (0, 31, [])) {P : Option pv × pH → Prop} (hP : ∀ g1 : pH, J_ (2 ^ cn K2) h0 g1 → (∀ j, j < N → fA g1 K2 j = fA h0 K j) → (∀ Q, Q ≠ K2 → fA g1 Q = fA h0 Q) → g1.1 = h0.1 → P (none, g1)) {lv : List (Nat × pv)} (l0 : px_lg lv 0 = some (pvR K)) (l1 : px_lg lv 1 = some (pvR K2)) (l2 : px_lg lv 2 = some (oI (N : Int))) : t_X d 179 0 lv [] h0 P := by
  refine t_0 qcp_0 rfl rfl ?_
  refine t_2 qcp_1 rfl (w := (px_s1 lv 3 (oI 0), [])) rfl ?_
  exact cx_loop hk hk2 hne hb hb2 rfl hg hg2 Nat.testBit_two_pow_self hP N 0 _ _ (by omega) (by omega) (J_rf hG) (fun j hj => absurd hj (by omega)) (fun _ _ => rfl) rfl (s1_ne (by decide) (fun _ => rfl) l0) (s1_ne (by decide) (fun _ => rfl) l1) (s1_ne (by decide) (fun _ => rfl) l2) s1_eq
