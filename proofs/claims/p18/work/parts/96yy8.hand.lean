/-! hand: both sides (printed by wip/e2/x22.py) -/
theorem vha_0 : xe_look (xc 121) 0 = some (.iload_n 1, 1, 0, 0, 0) := by decide +kernel
theorem vha_1 : xe_look (xc 121) 1 = some (.iconst 0, 1, 0, 0, 0) := by decide +kernel
theorem vha_2 : xe_look (xc 121) 2 = some (.iconst 1, 1, 0, 0, 0) := by decide +kernel
theorem vha_3 : xe_look (xc 121) 3 = some (.invokestatic 89, 3, 0, 124, 994) := by decide +kernel
theorem vha_6 : xe_look (xc 121) 6 = some (.ifCond .ne 7, 3, 0, 0, 0) := by decide +kernel
theorem vha_9 : xe_look (xc 121) 9 = some (.ldc2_w 253, 3, 0, 9223372036854775807, 1021) := by decide +kernel
theorem vha_12 : xe_look (xc 121) 12 = some (.lreturn, 1, 0, 0, 0) := by decide +kernel
theorem vha_13 : xe_look (xc 121) 13 = some (.lconst 0, 1, 0, 0, 0) := by decide +kernel
theorem vha_14 : xe_look (xc 121) 14 = some (.lstore_n 2, 1, 0, 0, 0) := by decide +kernel
theorem vha_15 : xe_look (xc 121) 15 = some (.lconst 1, 1, 0, 0, 0) := by decide +kernel
theorem vha_16 : xe_look (xc 121) 16 = some (.lstore 4, 2, 0, 0, 0) := by decide +kernel
theorem vha_18 : xe_look (xc 121) 18 = some (.iconst 0, 1, 0, 0, 0) := by decide +kernel
theorem vha_19 : xe_look (xc 121) 19 = some (.istore 6, 2, 0, 0, 0) := by decide +kernel
theorem vha_21 : xe_look (xc 121) 21 = some (.iconst 0, 1, 0, 0, 0) := by decide +kernel
theorem vha_22 : xe_look (xc 121) 22 = some (.istore 7, 2, 0, 0, 0) := by decide +kernel
theorem vha_24 : xe_look (xc 121) 24 = some (.iload 7, 2, 0, 0, 0) := by decide +kernel
theorem vha_26 : xe_look (xc 121) 26 = some (.bipush 32, 2, 0, 0, 0) := by decide +kernel
theorem vha_28 : xe_look (xc 121) 28 = some (.if_icmp .ge 100, 3, 0, 0, 0) := by decide +kernel
theorem vha_31 : xe_look (xc 121) 31 = some (.iload 6, 2, 0, 0, 0) := by decide +kernel
theorem vha_33 : xe_look (xc 121) 33 = some (.bipush 6, 2, 0, 0, 0) := by decide +kernel
theorem vha_35 : xe_look (xc 121) 35 = some (.if_icmp .ge 93, 3, 0, 0, 0) := by decide +kernel
theorem vha_38 : xe_look (xc 121) 38 = some (.aload_n 0, 1, 0, 0, 0) := by decide +kernel
theorem vha_39 : xe_look (xc 121) 39 = some (.getfield 16, 3, 11, 2, 983) := by decide +kernel
theorem vha_42 : xe_look (xc 121) 42 = some (.iload 7, 2, 0, 0, 0) := by decide +kernel
theorem vha_44 : xe_look (xc 121) 44 = some (.invokevirtual 107, 3, 0, 84, 984) := by decide +kernel
theorem vha_47 : xe_look (xc 121) 47 = some (.astore 8, 2, 0, 0, 0) := by decide +kernel
theorem vha_49 : xe_look (xc 121) 49 = some (.aload 8, 2, 0, 0, 0) := by decide +kernel
theorem vha_51 : xe_look (xc 121) 51 = some (.ifnull 71, 3, 0, 0, 0) := by decide +kernel
theorem vha_54 : xe_look (xc 121) 54 = some (.aload_n 0, 1, 0, 0, 0) := by decide +kernel
theorem vha_55 : xe_look (xc 121) 55 = some (.getfield 36, 3, 11, 8, 1003) := by decide +kernel
theorem vha_58 : xe_look (xc 121) 58 = some (.aload 8, 2, 0, 0, 0) := by decide +kernel
theorem vha_60 : xe_look (xc 121) 60 = some (.sipush 255, 3, 0, 0, 0) := by decide +kernel
theorem vha_63 : xe_look (xc 121) 63 = some (.invokevirtual 378, 3, 0, 23, 1022) := by decide +kernel
theorem vha_66 : xe_look (xc 121) 66 = some (.ifCond .le 56, 3, 0, 0, 0) := by decide +kernel
theorem vha_69 : xe_look (xc 121) 69 = some (.aload_n 0, 1, 0, 0, 0) := by decide +kernel
theorem vha_70 : xe_look (xc 121) 70 = some (.getfield 36, 3, 11, 8, 1003) := by decide +kernel
theorem vha_73 : xe_look (xc 121) 73 = some (.aload 8, 2, 0, 0, 0) := by decide +kernel
theorem vha_75 : xe_look (xc 121) 75 = some (.sipush 255, 3, 0, 0, 0) := by decide +kernel
theorem vha_78 : xe_look (xc 121) 78 = some (.invokevirtual 378, 3, 0, 23, 1022) := by decide +kernel
theorem vha_81 : xe_look (xc 121) 81 = some (.i2l, 1, 0, 0, 0) := by decide +kernel
theorem vha_82 : xe_look (xc 121) 82 = some (.lstore 9, 2, 0, 0, 0) := by decide +kernel
theorem vha_84 : xe_look (xc 121) 84 = some (.lload_n 2, 1, 0, 0, 0) := by decide +kernel
theorem vha_85 : xe_look (xc 121) 85 = some (.lload 9, 2, 0, 0, 0) := by decide +kernel
theorem vha_87 : xe_look (xc 121) 87 = some (.lmul, 1, 0, 0, 0) := by decide +kernel
theorem vha_88 : xe_look (xc 121) 88 = some (.aload_n 0, 1, 0, 0, 0) := by decide +kernel
theorem vha_89 : xe_look (xc 121) 89 = some (.getfield 36, 3, 11, 8, 1003) := by decide +kernel
theorem vha_92 : xe_look (xc 121) 92 = some (.aload 8, 2, 0, 0, 0) := by decide +kernel
theorem vha_94 : xe_look (xc 121) 94 = some (.sipush 255, 3, 0, 0, 0) := by decide +kernel
theorem vha_97 : xe_look (xc 121) 97 = some (.aload 8, 2, 0, 0, 0) := by decide +kernel
theorem vha_99 : xe_look (xc 121) 99 = some (.getfield 183, 3, 7, 8, 1023) := by decide +kernel
theorem vha_102 : xe_look (xc 121) 102 = some (.ixor, 1, 0, 0, 0) := by decide +kernel
theorem vha_103 : xe_look (xc 121) 103 = some (.invokevirtual 378, 3, 0, 23, 1022) := by decide +kernel
theorem vha_106 : xe_look (xc 121) 106 = some (.i2l, 1, 0, 0, 0) := by decide +kernel
theorem vha_107 : xe_look (xc 121) 107 = some (.lload 4, 2, 0, 0, 0) := by decide +kernel
theorem vha_109 : xe_look (xc 121) 109 = some (.lmul, 1, 0, 0, 0) := by decide +kernel
theorem vha_110 : xe_look (xc 121) 110 = some (.ladd, 1, 0, 0, 0) := by decide +kernel
theorem vha_111 : xe_look (xc 121) 111 = some (.lstore_n 2, 1, 0, 0, 0) := by decide +kernel
theorem vha_112 : xe_look (xc 121) 112 = some (.lload 4, 2, 0, 0, 0) := by decide +kernel
theorem vha_114 : xe_look (xc 121) 114 = some (.lload 9, 2, 0, 0, 0) := by decide +kernel
theorem vha_116 : xe_look (xc 121) 116 = some (.lmul, 1, 0, 0, 0) := by decide +kernel
theorem vha_117 : xe_look (xc 121) 117 = some (.lstore 4, 2, 0, 0, 0) := by decide +kernel
theorem vha_119 : xe_look (xc 121) 119 = some (.iinc 6 1, 3, 0, 0, 0) := by decide +kernel
theorem vha_122 : xe_look (xc 121) 122 = some (.iinc 7 1, 3, 0, 0, 0) := by decide +kernel
theorem vha_125 : xe_look (xc 121) 125 = some (.goto (-101), 3, 0, 0, 0) := by decide +kernel
theorem vha_128 : xe_look (xc 121) 128 = some (.lload_n 2, 1, 0, 0, 0) := by decide +kernel
theorem vha_129 : xe_look (xc 121) 129 = some (.lload 4, 2, 0, 0, 0) := by decide +kernel
theorem vha_131 : xe_look (xc 121) 131 = some (.iload_n 1, 1, 0, 0, 0) := by decide +kernel
theorem vha_132 : xe_look (xc 121) 132 = some (.ifCond .ne 7, 3, 0, 0, 0) := by decide +kernel
theorem vha_135 : xe_look (xc 121) 135 = some (.iconst 1, 1, 0, 0, 0) := by decide +kernel
theorem vha_136 : xe_look (xc 121) 136 = some (.goto 4, 3, 0, 0, 0) := by decide +kernel
theorem vha_139 : xe_look (xc 121) 139 = some (.iconst 0, 1, 0, 0, 0) := by decide +kernel
theorem vha_140 : xe_look (xc 121) 140 = some (.invokestatic 249, 3, 0, 138, 1024) := by decide +kernel
theorem vha_143 : xe_look (xc 121) 143 = some (.lreturn, 1, 0, 0, 0) := by decide +kernel
theorem vhb_0 : xe_look (xc 195) 0 = some (.iload_n 1, 1, 0, 0, 0) := by decide +kernel
theorem vhb_1 : xe_look (xc 195) 1 = some (.iconst 0, 1, 0, 0, 0) := by decide +kernel
theorem vhb_2 : xe_look (xc 195) 2 = some (.iconst 1, 1, 0, 0, 0) := by decide +kernel
theorem vhb_3 : xe_look (xc 195) 3 = some (.invokestatic 201, 3, 0, 199, 1131) := by decide +kernel
theorem vhb_6 : xe_look (xc 195) 6 = some (.ifCond .ne 7, 3, 0, 0, 0) := by decide +kernel
theorem vhb_9 : xe_look (xc 195) 9 = some (.ldc2_w 447, 3, 0, 9223372036854775807, 1185) := by decide +kernel
theorem vhb_12 : xe_look (xc 195) 12 = some (.lreturn, 1, 0, 0, 0) := by decide +kernel
theorem vhb_13 : xe_look (xc 195) 13 = some (.lconst 0, 1, 0, 0, 0) := by decide +kernel
theorem vhb_14 : xe_look (xc 195) 14 = some (.lstore_n 2, 1, 0, 0, 0) := by decide +kernel
theorem vhb_15 : xe_look (xc 195) 15 = some (.lconst 1, 1, 0, 0, 0) := by decide +kernel
theorem vhb_16 : xe_look (xc 195) 16 = some (.lstore 4, 2, 0, 0, 0) := by decide +kernel
theorem vhb_18 : xe_look (xc 195) 18 = some (.iconst 0, 1, 0, 0, 0) := by decide +kernel
theorem vhb_19 : xe_look (xc 195) 19 = some (.istore 6, 2, 0, 0, 0) := by decide +kernel
theorem vhb_21 : xe_look (xc 195) 21 = some (.iconst 0, 1, 0, 0, 0) := by decide +kernel
theorem vhb_22 : xe_look (xc 195) 22 = some (.istore 7, 2, 0, 0, 0) := by decide +kernel
theorem vhb_24 : xe_look (xc 195) 24 = some (.iload 7, 2, 0, 0, 0) := by decide +kernel
theorem vhb_26 : xe_look (xc 195) 26 = some (.bipush 32, 2, 0, 0, 0) := by decide +kernel
theorem vhb_28 : xe_look (xc 195) 28 = some (.if_icmp .ge 139, 3, 0, 0, 0) := by decide +kernel
theorem vhb_31 : xe_look (xc 195) 31 = some (.iload 6, 2, 0, 0, 0) := by decide +kernel
theorem vhb_33 : xe_look (xc 195) 33 = some (.bipush 6, 2, 0, 0, 0) := by decide +kernel
theorem vhb_35 : xe_look (xc 195) 35 = some (.if_icmp .ge 132, 3, 0, 0, 0) := by decide +kernel
theorem vhb_38 : xe_look (xc 195) 38 = some (.aload_n 0, 1, 0, 0, 0) := by decide +kernel
theorem vhb_39 : xe_look (xc 195) 39 = some (.iload 7, 2, 0, 0, 0) := by decide +kernel
theorem vhb_41 : xe_look (xc 195) 41 = some (.invokevirtual 205, 3, 0, 205, 1130) := by decide +kernel
theorem vhb_44 : xe_look (xc 195) 44 = some (.ifCond .eq 12, 3, 0, 0, 0) := by decide +kernel
theorem vhb_47 : xe_look (xc 195) 47 = some (.aload_n 0, 1, 0, 0, 0) := by decide +kernel
theorem vhb_48 : xe_look (xc 195) 48 = some (.iload 7, 2, 0, 0, 0) := by decide +kernel
theorem vhb_50 : xe_look (xc 195) 50 = some (.invokevirtual 434, 3, 0, 214, 1186) := by decide +kernel
theorem vhb_53 : xe_look (xc 195) 53 = some (.goto 4, 3, 0, 0, 0) := by decide +kernel
theorem vhb_56 : xe_look (xc 195) 56 = some (.iconst 0, 1, 0, 0, 0) := by decide +kernel
theorem vhb_57 : xe_look (xc 195) 57 = some (.istore 8, 2, 0, 0, 0) := by decide +kernel
theorem vhb_59 : xe_look (xc 195) 59 = some (.iload 8, 2, 0, 0, 0) := by decide +kernel
theorem vhb_61 : xe_look (xc 195) 61 = some (.ifCond .ne 6, 3, 0, 0, 0) := by decide +kernel
theorem vhb_64 : xe_look (xc 195) 64 = some (.goto 97, 3, 0, 0, 0) := by decide +kernel
theorem vhb_67 : xe_look (xc 195) 67 = some (.iload 6, 2, 0, 0, 0) := by decide +kernel
theorem vhb_69 : xe_look (xc 195) 69 = some (.iconst 1, 1, 0, 0, 0) := by decide +kernel
theorem vhb_70 : xe_look (xc 195) 70 = some (.iadd, 1, 0, 0, 0) := by decide +kernel
theorem vhb_71 : xe_look (xc 195) 71 = some (.istore 6, 2, 0, 0, 0) := by decide +kernel
theorem vhb_73 : xe_look (xc 195) 73 = some (.iconst 0, 1, 0, 0, 0) := by decide +kernel
theorem vhb_74 : xe_look (xc 195) 74 = some (.istore 9, 2, 0, 0, 0) := by decide +kernel
theorem vhb_76 : xe_look (xc 195) 76 = some (.iconst 0, 1, 0, 0, 0) := by decide +kernel
theorem vhb_77 : xe_look (xc 195) 77 = some (.istore 10, 2, 0, 0, 0) := by decide +kernel
theorem vhb_79 : xe_look (xc 195) 79 = some (.iload 10, 2, 0, 0, 0) := by decide +kernel
theorem vhb_81 : xe_look (xc 195) 81 = some (.bipush 8, 2, 0, 0, 0) := by decide +kernel
theorem vhb_83 : xe_look (xc 195) 83 = some (.if_icmp .ge 37, 3, 0, 0, 0) := by decide +kernel
theorem vhb_86 : xe_look (xc 195) 86 = some (.iload 9, 2, 0, 0, 0) := by decide +kernel
theorem vhb_88 : xe_look (xc 195) 88 = some (.aload_n 0, 1, 0, 0, 0) := by decide +kernel
theorem vhb_89 : xe_look (xc 195) 89 = some (.iload 7, 2, 0, 0, 0) := by decide +kernel
theorem vhb_91 : xe_look (xc 195) 91 = some (.iload 10, 2, 0, 0, 0) := by decide +kernel
theorem vhb_93 : xe_look (xc 195) 93 = some (.iconst 0, 1, 0, 0, 0) := by decide +kernel
theorem vhb_94 : xe_look (xc 195) 94 = some (.invokevirtual 230, 3, 0, 167, 1115) := by decide +kernel
theorem vhb_97 : xe_look (xc 195) 97 = some (.ifCond .eq 7, 3, 0, 0, 0) := by decide +kernel
theorem vhb_100 : xe_look (xc 195) 100 = some (.iconst 0, 1, 0, 0, 0) := by decide +kernel
theorem vhb_101 : xe_look (xc 195) 101 = some (.goto 10, 3, 0, 0, 0) := by decide +kernel
theorem vhb_104 : xe_look (xc 195) 104 = some (.aload_n 0, 1, 0, 0, 0) := by decide +kernel
theorem vhb_105 : xe_look (xc 195) 105 = some (.getfield 107, 3, 12, 55, 1187) := by decide +kernel
theorem vhb_108 : xe_look (xc 195) 108 = some (.iload 10, 2, 0, 0, 0) := by decide +kernel
theorem vhb_110 : xe_look (xc 195) 110 = some (.iaload, 1, 0, 0, 0) := by decide +kernel
theorem vhb_111 : xe_look (xc 195) 111 = some (.iadd, 1, 0, 0, 0) := by decide +kernel
theorem vhb_112 : xe_look (xc 195) 112 = some (.istore 9, 2, 0, 0, 0) := by decide +kernel
theorem vhb_114 : xe_look (xc 195) 114 = some (.iinc 10 1, 3, 0, 0, 0) := by decide +kernel
theorem vhb_117 : xe_look (xc 195) 117 = some (.goto (-38), 3, 0, 0, 0) := by decide +kernel
theorem vhb_120 : xe_look (xc 195) 120 = some (.lload_n 2, 1, 0, 0, 0) := by decide +kernel
theorem vhb_121 : xe_look (xc 195) 121 = some (.iload 8, 2, 0, 0, 0) := by decide +kernel
theorem vhb_123 : xe_look (xc 195) 123 = some (.i2l, 1, 0, 0, 0) := by decide +kernel
theorem vhb_124 : xe_look (xc 195) 124 = some (.lmul, 1, 0, 0, 0) := by decide +kernel
theorem vhb_125 : xe_look (xc 195) 125 = some (.lload 4, 2, 0, 0, 0) := by decide +kernel
theorem vhb_127 : xe_look (xc 195) 127 = some (.iload 9, 2, 0, 0, 0) := by decide +kernel
theorem vhb_129 : xe_look (xc 195) 129 = some (.i2l, 1, 0, 0, 0) := by decide +kernel
theorem vhb_130 : xe_look (xc 195) 130 = some (.lmul, 1, 0, 0, 0) := by decide +kernel
theorem vhb_131 : xe_look (xc 195) 131 = some (.ladd, 1, 0, 0, 0) := by decide +kernel
theorem vhb_132 : xe_look (xc 195) 132 = some (.lstore 10, 2, 0, 0, 0) := by decide +kernel
theorem vhb_134 : xe_look (xc 195) 134 = some (.lload 4, 2, 0, 0, 0) := by decide +kernel
theorem vhb_136 : xe_look (xc 195) 136 = some (.iload 8, 2, 0, 0, 0) := by decide +kernel
theorem vhb_138 : xe_look (xc 195) 138 = some (.i2l, 1, 0, 0, 0) := by decide +kernel
theorem vhb_139 : xe_look (xc 195) 139 = some (.lmul, 1, 0, 0, 0) := by decide +kernel
theorem vhb_140 : xe_look (xc 195) 140 = some (.lstore 12, 2, 0, 0, 0) := by decide +kernel
theorem vhb_142 : xe_look (xc 195) 142 = some (.lload 10, 2, 0, 0, 0) := by decide +kernel
theorem vhb_144 : xe_look (xc 195) 144 = some (.lload 12, 2, 0, 0, 0) := by decide +kernel
theorem vhb_146 : xe_look (xc 195) 146 = some (.iconst 0, 1, 0, 0, 0) := by decide +kernel
theorem vhb_147 : xe_look (xc 195) 147 = some (.invokestatic 440, 3, 0, 262, 1188) := by decide +kernel
theorem vhb_150 : xe_look (xc 195) 150 = some (.lstore_n 2, 1, 0, 0, 0) := by decide +kernel
theorem vhb_151 : xe_look (xc 195) 151 = some (.lload 10, 2, 0, 0, 0) := by decide +kernel
theorem vhb_153 : xe_look (xc 195) 153 = some (.lload 12, 2, 0, 0, 0) := by decide +kernel
theorem vhb_155 : xe_look (xc 195) 155 = some (.iconst 1, 1, 0, 0, 0) := by decide +kernel
theorem vhb_156 : xe_look (xc 195) 156 = some (.invokestatic 440, 3, 0, 262, 1188) := by decide +kernel
theorem vhb_159 : xe_look (xc 195) 159 = some (.lstore 4, 2, 0, 0, 0) := by decide +kernel
theorem vhb_161 : xe_look (xc 195) 161 = some (.iinc 7 1, 3, 0, 0, 0) := by decide +kernel
theorem vhb_164 : xe_look (xc 195) 164 = some (.goto (-140), 3, 0, 0, 0) := by decide +kernel
theorem vhb_167 : xe_look (xc 195) 167 = some (.iload_n 1, 1, 0, 0, 0) := by decide +kernel
theorem vhb_168 : xe_look (xc 195) 168 = some (.ifCond .ne 7, 3, 0, 0, 0) := by decide +kernel
theorem vhb_171 : xe_look (xc 195) 171 = some (.lload_n 2, 1, 0, 0, 0) := by decide +kernel
theorem vhb_172 : xe_look (xc 195) 172 = some (.goto 5, 3, 0, 0, 0) := by decide +kernel
theorem vhb_175 : xe_look (xc 195) 175 = some (.lload 4, 2, 0, 0, 0) := by decide +kernel
theorem vhb_177 : xe_look (xc 195) 177 = some (.lreturn, 1, 0, 0, 0) := by decide +kernel
/-- adding up the hand: above, below, how many -/
def hT (t r : Nat → Nat) (b : Nat → Bool) : Nat → Nat × Nat × Nat
  | 0 => (0, 1, 0)
  | i + 1 => if (hT t r b i).2.2 < 6 ∧ b i = true ∧ 0 < t i then ((hT t r b i).1 * t i + (hT t r b i).2.1 * r i, (hT t r b i).2.1 * t i, (hT t r b i).2.2 + 1) else hT t r b i
theorem hT_y {t r : Nat → Nat} {b : Nat → Bool} {i A B N : Nat} (e : hT t r b i = (A, B, N)) (h : N < 6 ∧ b i = true ∧ 0 < t i) : hT t r b (i + 1) = (A * t i + B * r i, B * t i, N + 1) := by
  unfold hT
  rw [e]
  exact if_pos h
theorem hT_n {t r : Nat → Nat} {b : Nat → Bool} {i A B N : Nat} (e : hT t r b i = (A, B, N)) (h : ¬ (N < 6 ∧ b i = true ∧ 0 < t i)) : hT t r b (i + 1) = (A, B, N) := by
  unfold hT
  rw [e]
  exact if_neg h
theorem hT_b {t r : Nat → Nat} {b : Nat → Bool} (ht : ∀ i, r i ≤ t i ∧ t i ≤ 792) : ∀ (i A B N : Nat), hT t r b i = (A, B, N) → N ≤ 6 ∧ 0 < B ∧ B ≤ 792 ^ N ∧ A ≤ N * B := by
  intro i
  induction i with
  | zero =>
    intro A B N e
    have e : ((0, 1, 0) : Nat × Nat × Nat) = (A, B, N) := e
    cases e
    exact ⟨by omega, by omega, by decide, by omega⟩
  | succ i ih =>
    intro A B N e
    obtain ⟨A1, B1, N1, e1⟩ : ∃ A1 B1 N1, hT t r b i = (A1, B1, N1) := ⟨_, _, _, rfl⟩
    obtain ⟨h1, h2, h3, h4⟩ := ih A1 B1 N1 e1
    by_cases q : N1 < 6 ∧ b i = true ∧ 0 < t i
    · rw [hT_y e1 q] at e
      cases e
      obtain ⟨k1, k2⟩ := ht i
      refine ⟨by omega, Nat.mul_pos h2 q.2.2, ?_, ?_⟩
      · rw [Nat.pow_succ]
        exact Nat.mul_le_mul h3 k2
      · have a := Nat.mul_le_mul_right (t i) h4
        have c := Nat.mul_le_mul_left B1 k1
        rw [Nat.add_mul, Nat.one_mul, ← Nat.mul_assoc]
        omega
    · rw [hT_n e1 q] at e
      cases e
      exact ⟨h1, h2, h3, h4⟩
theorem hT_6 {t r : Nat → Nat} {b : Nat → Bool} {i A B N : Nat} (e : hT t r b i = (A, B, N)) (h : 6 ≤ N) : ∀ j, hT t r b (i + j) = (A, B, N) := by
  intro j
  induction j with
  | zero => exact e
  | succ j ih => exact hT_n ih (fun z => by omega)
theorem hT_c {A B N : Nat} (h1 : N ≤ 6) (h2 : B ≤ 792 ^ N) (h3 : A ≤ N * B) : B ≤ 246811136490504192 * 2 ∧ A ≤ 9000000000000000000 := by
  have e : 792 ^ N ≤ 792 ^ 6 := Nat.pow_le_pow_right (by decide) h1
  have e6 : 792 ^ 6 ≤ 246811136490504192 * 2 := by decide
  have a := Nat.mul_le_mul_right B h1
  omega

section LO
variable {d x y : Nat} {lv : List (Nat × pv)} {h : pH} {r : List pv}
theorem pq_lm {a b : Nat} : px_push eL d none .lmul x y lv (.inr (.inl (Int64.ofInt ((b : Nat) : Int))) :: .inr (.inl (Int64.ofInt ((a : Nat) : Int))) :: r) h = some (.inr (.inl (Int64.ofInt ((a * b : Nat) : Int))) :: r) := by
  show some ((.inr (.inl (Int64.ofInt ((a : Nat) : Int) * Int64.ofInt ((b : Nat) : Int))) : pv) :: r) = _
  rw [← Int64.ofInt_mul, ← Int.natCast_mul]
theorem pq_la9 {a b : Nat} : px_push eL d none .ladd x y lv (.inr (.inl (Int64.ofInt ((b : Nat) : Int))) :: .inr (.inl (Int64.ofInt ((a : Nat) : Int))) :: r) h = some (.inr (.inl (Int64.ofInt ((a + b : Nat) : Int))) :: r) := by
  show some ((.inr (.inl (Int64.ofInt ((a : Nat) : Int) + Int64.ofInt ((b : Nat) : Int))) : pv) :: r) = _
  rw [← Int64.ofInt_add, ← Int.natCast_add]
theorem pq_xo {a : Int} (ha : 0 ≤ a ∧ a < 256) : px_push eL d none .ixor x y lv (oI a :: oI 255 :: r) h = some (oI (255 - a) :: r) := by
  have := xo_255 a.toNat (by omega)
  rw [Int.toNat_of_nonneg ha.1] at this
  show some ((.inl (Int32.ofInt 255 ^^^ Int32.ofInt a) : pv) :: r) = _
  rw [this]
end LO
theorem cW_r {K : Nat} (hK : lK K) : ((cW K).testBit (cn 3) = false ∧ (cW K).testBit (cn 77) = false) ∧ ∀ m, m < 32 → (cW K).testBit (cn (4 + 2 * m) + 2) = false ∧ (cW K).testBit (cn (4 + 2 * m) + 8) = false := by rcases hK with rfl | rfl <;> decide +kernel
/-- the answer of hand -/
def hR (A B : Nat) (what : Int) : Int := if what = 0 then ((rdA A B : Nat) : Int) else ((rdB A B : Nat) : Int)
theorem gS_a {a b : Nat} (hb : b ≤ 9223372036854775807) : ((a : Nat) : Int) / ((gS 100 a b : Nat) : Int) = ((rdA a b : Nat) : Int) ∧ ((b : Nat) : Int) / ((gS 100 a b : Nat) : Int) = ((rdB a b : Nat) : Int) := by
  rw [gS_g 100 a b (gD_l hb)]
  exact ⟨rfl, rfl⟩
theorem oS_T {a : Nat → Int} {t : Nat} {bb : Nat → Bool} (ha : ∀ w, 0 ≤ a w ∧ a w ≤ 99) (e : t = (oS bb a 8).toNat) : oS bb a 8 = ((t : Nat) : Int) ∧ t ≤ 792 := by
  have := oS_b (b := bb) (by decide) ha 8
  omega
theorem oS_l {a : Nat → Int} {bb : Nat → Bool} (ha : ∀ w, 0 ≤ a w) : ∀ k, oS bb a k ≤ oS (fun _ => true) a k := by
  intro k
  induction k with
  | zero => exact Int.le_refl _
  | succ k ih =>
    unfold oS
    have := ha k
    rw [if_pos rfl]
    split
    · omega
    · omega
theorem hW_0 : hW9.testBit (cn 196 + 0) = false := by decide +kernel
theorem rd_l {A B : Nat} : rdA A B ≤ A ∧ rdB A B ≤ B := ⟨Nat.div_le_self _ _, Nat.div_le_self _ _⟩
theorem cW_m {K : Nat} (hK : lK K) : ((cW K).testBit (cn 196 + 0) = false ∧ (cW K).testBit (cn 196 + 49) = false ∧ (cW K).testBit (cn 196 + 35) = false) ∧ [199, 200, 201, 202, 210, 222, 223, 224, 225, 226].all (fun k => !(cW K).testBit (cn k)) = true := by rcases hK with rfl | rfl <;> decide +kernel
theorem ygeo_0 : eL[0]? = some (0, 11) := by decide +kernel
theorem ygeo_164 : eL[164]? = some (0, 2) := by decide +kernel
theorem ygeo_196 : eL[196]? = some (0, 12) := by decide +kernel
theorem ygeo_2 : eL[2]? = some (0, 8) := by decide +kernel
theorem yggu_229 : eG (cn 229) = (0, 99, []) := by decide +kernel
theorem ygch_0_2 : (eG (cn 0 + 2)).2.2 = [3] := by decide +kernel
theorem ygcq_0_2 {d i : Nat} {lv : List (Nat × pv)} {r : List pv} {g : pH} (hG : g_I eG g) : px_push eL d none (.getfield i) 11 2 lv (pvR 0 :: r) g = some (pvR 2 :: r) := pget ygeo_0 (gI_o (r := 2) hG ygeo_0 (Nat.le_of_ble_eq_true rfl) (y := 2) rfl ygch_0_2)
theorem ygch_0_8 : (eG (cn 0 + 8)).2.2 = [165] := by decide +kernel
theorem ygcq_0_8 {d i : Nat} {lv : List (Nat × pv)} {r : List pv} {g : pH} (hG : g_I eG g) : px_push eL d none (.getfield i) 11 8 lv (pvR 0 :: r) g = some (pvR 164 :: r) := pget ygeo_0 (gI_o (r := 164) hG ygeo_0 (Nat.le_of_ble_eq_true rfl) (y := 8) rfl ygch_0_8)
theorem ygch_196_55 : (eG (cn 196 + 55)).2.2 = [230] := by decide +kernel
theorem ygcq_196_55 {d i : Nat} {lv : List (Nat × pv)} {r : List pv} {g : pH} (hG : g_I eG g) : px_push eL d none (.getfield i) 12 55 lv (pvR 196 :: r) g = some (pvR 229 :: r) := pget ygeo_196 (gI_r (r := 229) hG ygeo_196 (Nat.le_of_ble_eq_true rfl) (y := 55) rfl ygch_196_55)
theorem ygez_229 : eL[229]? = some (1, 8) := by decide +kernel
set_option maxHeartbeats 1000000 in
theorem vha_loop {K : Nat} (hK : lK K) {k1 c : Int} {o v le st co en : tC} {d : Nat} (hd : 7 ≤ d) {g0 : pH} (hSr : rS g0) (r0 : g0.2.2.1 164 0 = some K) (hL : rLc g0 K k1 c o v le st co en) (hal : ∀ m, m < 32 → cF g0 (4 + 2 * m) 2 = 1 → cF g0 (4 + 2 * m) 8 = alB (fA g0 (5 + 2 * m)) 8) {a : Nat → Nat → Int} {t r : Nat → Nat} {b : Nat → Bool} (ea : ∀ m, a m = (fun w : Nat => aV o v (qF m (cF g0 (4 + 2 * m) 3) (cF g0 (4 + 2 * m) 4) (cF g0 (4 + 2 * m) 6) (cF g0 (4 + 2 * m) 5) w) le st co en c 119 99)) (et : ∀ m, t m = (oS (fun _ => true) (a m) 8).toNat) (er : ∀ m, r m = (oS (fun w => !alN (fA g0 (5 + 2 * m)) w) (a m) 8).toNat) (eb : ∀ m, b m = decide (cF g0 (4 + 2 * m) 2 = 1)) {what : Int} {P : Option pv × pH → Prop} (hP : ∀ g1 : pH, J_ (cW K) g0 g1 → ∀ (A B N : Nat) (lv : List (Nat × pv)), hT t r b 32 = (A, B, N) → px_lg lv 1 = some (oI what) → px_lg lv 2 = some (.inr (.inl (Int64.ofInt ((A : Nat) : Int)))) → px_lg lv 4 = some (.inr (.inl (Int64.ofInt ((B : Nat) : Int)))) → t_X d 121 128 lv [] g1 P) : ∀ (n k A B N : Nat) (g : pH) (lv : List (Nat × pv)), 32 - k ≤ n → k ≤ 32 → J_ (cW K) g0 g → hT t r b k = (A, B, N) → px_lg lv 0 = some (pvR 0) → px_lg lv 1 = some (oI what) → px_lg lv 2 = some (.inr (.inl (Int64.ofInt ((A : Nat) : Int)))) → px_lg lv 4 = some (.inr (.inl (Int64.ofInt ((B : Nat) : Int)))) → px_lg lv 6 = some (oI ((N : Nat) : Int)) → px_lg lv 7 = some (oI (k : Int)) → t_X d 121 24 lv [] g P := by
  have ha : ∀ m w, 0 ≤ a m w ∧ a m w ≤ 99 := fun m w => by rw [ea]; exact aV_b (by decide)
  intro n
  induction n with
  | zero =>
    intro k A B N g lv hr hk2 hJ he l0 l1 l2 l4 l6 l7
    refine t_0 vha_24 rfl (ld_i l7) ?_
    refine t_0 vha_26 rfl (pq_b (by decide)) ?_
    refine tb_ge vha_28 (by decide) ⟨by omega, by omega⟩ ⟨by omega, by omega⟩ (fun c1 => ?_) (fun c1 => absurd c1 (by omega))
    show t_X d 121 128 lv [] g P
    obtain rfl : k = 32 := by omega
    exact hP g hJ A B N _ he l1 l2 l4
  | succ n ih =>
    intro k A B N g lv hr hk2 hJ he l0 l1 l2 l4 l6 l7
    by_cases hk : k < 32
    · have tb := (oS_T (ha k) (et k)).2
      have rb := (oS_T (ha k) (er k)).2
      have ab := alB_b (pic := fA g0 (5 + 2 * k)) 8
      have ab : 0 ≤ alB (fA g0 (5 + 2 * k)) 8 ∧ alB (fA g0 (5 + 2 * k)) 8 < 256 := ab
      have hN := (hT_b (fun i => ⟨by rw [et, er]; have := oS_l (bb := fun w => !alN (fA g0 (5 + 2 * i)) w) (fun w => (ha i w).1) 8; omega, (oS_T (ha i) (et i)).2⟩) k A B N he).1
      by_cases h6 : N < 6
      · skip
        refine t_0 vha_24 rfl (ld_i l7) ?_
        refine t_0 vha_26 rfl (pq_b (by decide)) ?_
        refine tb_ge vha_28 (by decide) ⟨by omega, by omega⟩ ⟨by omega, by omega⟩ (fun c1 => absurd c1 (by omega)) (fun c1 => ?_)
        show t_X d 121 31 lv [] g P
        refine t_0 vha_31 rfl (ld_i l6) ?_
        refine t_0 vha_33 rfl (pq_b (by decide)) ?_
        refine tb_ge vha_35 (by decide) ⟨by omega, by omega⟩ ⟨by omega, by omega⟩ (fun c2 => absurd c2 (by omega)) (fun c2 => ?_)
        show t_X d 121 38 lv [] g P
        refine t_0 vha_38 rfl (ld_a l0) ?_
        refine t_0 vha_39 rfl (ygcq_0_2 hJ.1) ?_
        show t_X d 121 42 lv [pvR 2] g P
        refine t_0 vha_42 rfl (ld_i l7) ?_
        refine t_3 vha_44 rfl (ar := ([pvR 2, oI ((k : Int))], [])) (pcal_w (as := [oI ((k : Int))]) rfl rfl rfl ygeo_2) ⟨by omega, Nat.le_of_ble_eq_true rfl, Nat.le_of_ble_eq_true rfl, rfl⟩ ?_
        refine td_run (by omega) hJ.1 (rS_M hJ.2 (cW_r hK).1 hSr) (by omega) (fun m hm e1 c1 => ?_) (fun c1 => ?_) rfl rfl
        · obtain rfl : k = m := by omega
          have c0 : cF g0 (4 + 2 * k) 2 = 1 := by rw [← cF_M hJ.2 ((cW_r hK).2 k hk).1]; exact c1
          show t_X d 121 47 lv [pvR (4 + 2 * k)] g P
          refine t_2 vha_47 rfl (w := (px_s1 lv 8 (pvR (4 + 2 * k)), [])) rfl ?_
          replace l0 : px_lg (px_s1 lv 8 (pvR (4 + 2 * k))) 0 = some (pvR 0) := s1_ne (by decide) (fun _ => rfl) l0
          replace l1 : px_lg (px_s1 lv 8 (pvR (4 + 2 * k))) 1 = some (oI (what)) := s1_ne (by decide) (fun _ => rfl) l1
          replace l2 : px_lg (px_s1 lv 8 (pvR (4 + 2 * k))) 2 = some (.inr (.inl (Int64.ofInt ((A : Nat) : Int)))) := s1_ne (by decide) (fun z => absurd z (by decide)) l2
          replace l4 : px_lg (px_s1 lv 8 (pvR (4 + 2 * k))) 4 = some (.inr (.inl (Int64.ofInt ((B : Nat) : Int)))) := s1_ne (by decide) (fun z => absurd z (by decide)) l4
          replace l6 : px_lg (px_s1 lv 8 (pvR (4 + 2 * k))) 6 = some (oI (((N : Nat) : Int))) := s1_ne (by decide) (fun _ => rfl) l6
          replace l7 : px_lg (px_s1 lv 8 (pvR (4 + 2 * k))) 7 = some (oI ((k : Int))) := s1_ne (by decide) (fun _ => rfl) l7
          have l8 : px_lg (px_s1 lv 8 (pvR (4 + 2 * k))) 8 = some (pvR (4 + 2 * k)) := s1_eq
          generalize px_s1 lv 8 (pvR (4 + 2 * k)) = lv3 at l0 l1 l2 l4 l6 l7 l8 ⊢
          show t_X d 121 49 lv3 [] g P
          refine t_0 vha_49 rfl (ld_a l8) ?_
          refine t_1 vha_51 rfl (pn_nf (pc := 51) ) ?_
          show t_X d 121 54 lv3 [] g P
          refine t_0 vha_54 rfl (ld_a l0) ?_
          refine t_0 vha_55 rfl (ygcq_0_8 hJ.1) ?_
          show t_X d 121 58 lv3 [pvR 164] g P
          refine t_0 vha_58 rfl (ld_a l8) ?_
          refine t_0 vha_60 rfl (pq_s (by decide)) ?_
          refine t_3 vha_63 rfl (ar := ([pvR 164, pvR (4 + 2 * k), oI 255], [])) (pcal_w (as := [oI 255, pvR (4 + 2 * k)]) rfl rfl rfl ygeo_164) ⟨by omega, Nat.le_of_ble_eq_true rfl, Nat.le_of_ble_eq_true rfl, rfl⟩ ?_
          refine voo_run hK hk (by omega) (sdC_f hJ.2 ((cW_n hK).1 k hk) ⟨rfl, rfl, rfl, rfl⟩) (((hJ.2.1 164 0 (cW_n hK).2.2.1).2.2).trans r0) (rLc_f hJ.2 (cW_n hK).2.1 hL) (bb := fun _ => true) (fun w hw => (bt_all w hw).trans rfl) (ea k) (fun ga4 J2 => ?_) hJ.1 rfl rfl rfl
          have hJ2 := J_up (Nat.and_self _) hJ J2
          clear hJ
          have hJ := hJ2
          clear hJ2 J2
          rw [(oS_T (ha k) (et k)).1]
          show t_X d 121 66 lv3 [oI (((t k : Nat) : Int))] ga4 P
          refine tz_le vha_66 (by decide) ⟨by omega, by omega⟩ (fun c5 => ?_) (fun c5 => ?_)
          · show t_X d 121 122 lv3 [] ga4 P
            refine t_2 vha_122 rfl (w := (px_s1 lv3 7 (oI ((k : Int) + 1)), [])) (pq_inc l7 (by decide)) ?_
            replace l0 : px_lg (px_s1 lv3 7 (oI ((k : Int) + 1))) 0 = some (pvR 0) := s1_ne (by decide) (fun _ => rfl) l0
            replace l1 : px_lg (px_s1 lv3 7 (oI ((k : Int) + 1))) 1 = some (oI (what)) := s1_ne (by decide) (fun _ => rfl) l1
            replace l2 : px_lg (px_s1 lv3 7 (oI ((k : Int) + 1))) 2 = some (.inr (.inl (Int64.ofInt ((A : Nat) : Int)))) := s1_ne (by decide) (fun z => absurd z (by decide)) l2
            replace l4 : px_lg (px_s1 lv3 7 (oI ((k : Int) + 1))) 4 = some (.inr (.inl (Int64.ofInt ((B : Nat) : Int)))) := s1_ne (by decide) (fun z => absurd z (by decide)) l4
            replace l6 : px_lg (px_s1 lv3 7 (oI ((k : Int) + 1))) 6 = some (oI (((N : Nat) : Int))) := s1_ne (by decide) (fun _ => rfl) l6
            replace l8 : px_lg (px_s1 lv3 7 (oI ((k : Int) + 1))) 8 = some (pvR (4 + 2 * k)) := s1_ne (by decide) (fun _ => rfl) l8
            have l7 : px_lg (px_s1 lv3 7 (oI ((k : Int) + 1))) 7 = some (oI ((k : Int) + 1)) := s1_eq
            generalize px_s1 lv3 7 (oI ((k : Int) + 1)) = lv6 at l0 l1 l2 l4 l6 l8 l7 ⊢
            show t_X d 121 125 lv6 [] ga4 P
            refine t_1 vha_125 rfl (pb_goto (pc := 125) (by decide)) ?_
            show t_X d 121 24 lv6 [] ga4 P
            exact ih (k + 1) _ _ _ ga4 _ (by omega) (by omega) hJ (hT_n he (fun z => by omega)) l0 l1 l2 l4 l6 l7
          · show t_X d 121 69 lv3 [] ga4 P
            refine t_0 vha_69 rfl (ld_a l0) ?_
            refine t_0 vha_70 rfl (ygcq_0_8 hJ.1) ?_
            show t_X d 121 73 lv3 [pvR 164] ga4 P
            refine t_0 vha_73 rfl (ld_a l8) ?_
            refine t_0 vha_75 rfl (pq_s (by decide)) ?_
            refine t_3 vha_78 rfl (ar := ([pvR 164, pvR (4 + 2 * k), oI 255], [])) (pcal_w (as := [oI 255, pvR (4 + 2 * k)]) rfl rfl rfl ygeo_164) ⟨by omega, Nat.le_of_ble_eq_true rfl, Nat.le_of_ble_eq_true rfl, rfl⟩ ?_
            refine voo_run hK hk (by omega) (sdC_f hJ.2 ((cW_n hK).1 k hk) ⟨rfl, rfl, rfl, rfl⟩) (((hJ.2.1 164 0 (cW_n hK).2.2.1).2.2).trans r0) (rLc_f hJ.2 (cW_n hK).2.1 hL) (bb := fun _ => true) (fun w hw => (bt_all w hw).trans rfl) (ea k) (fun ga7 J2 => ?_) hJ.1 rfl rfl rfl
            have hJ2 := J_up (Nat.and_self _) hJ J2
            clear hJ
            have hJ := hJ2
            clear hJ2 J2
            rw [(oS_T (ha k) (et k)).1]
            show t_X d 121 81 lv3 [oI (((t k : Nat) : Int))] ga7 P
            refine t_0 vha_81 rfl (pq_il ⟨by omega, by omega⟩) ?_
            refine t_2 vha_82 rfl (w := (px_s2 lv3 9 (.inr (.inl (Int64.ofInt ((t k : Nat) : Int)))), [])) rfl ?_
            replace l0 : px_lg (px_s2 lv3 9 (.inr (.inl (Int64.ofInt ((t k : Nat) : Int))))) 0 = some (pvR 0) := s2_ne (by decide) (fun _ => rfl) l0
            replace l1 : px_lg (px_s2 lv3 9 (.inr (.inl (Int64.ofInt ((t k : Nat) : Int))))) 1 = some (oI (what)) := s2_ne (by decide) (fun _ => rfl) l1
            replace l2 : px_lg (px_s2 lv3 9 (.inr (.inl (Int64.ofInt ((t k : Nat) : Int))))) 2 = some (.inr (.inl (Int64.ofInt ((A : Nat) : Int)))) := s2_ne (by decide) (fun z => absurd z (by decide)) l2
            replace l4 : px_lg (px_s2 lv3 9 (.inr (.inl (Int64.ofInt ((t k : Nat) : Int))))) 4 = some (.inr (.inl (Int64.ofInt ((B : Nat) : Int)))) := s2_ne (by decide) (fun z => absurd z (by decide)) l4
            replace l6 : px_lg (px_s2 lv3 9 (.inr (.inl (Int64.ofInt ((t k : Nat) : Int))))) 6 = some (oI (((N : Nat) : Int))) := s2_ne (by decide) (fun _ => rfl) l6
            replace l7 : px_lg (px_s2 lv3 9 (.inr (.inl (Int64.ofInt ((t k : Nat) : Int))))) 7 = some (oI ((k : Int))) := s2_ne (by decide) (fun _ => rfl) l7
            replace l8 : px_lg (px_s2 lv3 9 (.inr (.inl (Int64.ofInt ((t k : Nat) : Int))))) 8 = some (pvR (4 + 2 * k)) := s2_ne (by decide) (fun _ => rfl) l8
            have l9 : px_lg (px_s2 lv3 9 (.inr (.inl (Int64.ofInt ((t k : Nat) : Int))))) 9 = some (.inr (.inl (Int64.ofInt ((t k : Nat) : Int)))) := s2_eq
            generalize px_s2 lv3 9 (.inr (.inl (Int64.ofInt ((t k : Nat) : Int)))) = lv8 at l0 l1 l2 l4 l6 l7 l8 l9 ⊢
            show t_X d 121 84 lv8 [] ga7 P
            refine t_0 vha_84 rfl (ld_l l2) ?_
            refine t_0 vha_85 rfl (ld_l l9) ?_
            refine t_0 vha_87 rfl pq_lm ?_
            refine t_0 vha_88 rfl (ld_a l0) ?_
            refine t_0 vha_89 rfl (ygcq_0_8 hJ.1) ?_
            show t_X d 121 92 lv8 [pvR 164, .inr (.inl (Int64.ofInt ((A * t k : Nat) : Int)))] ga7 P
            refine t_0 vha_92 rfl (ld_a l8) ?_
            refine t_0 vha_94 rfl (pq_s (by decide)) ?_
            refine t_0 vha_97 rfl (ld_a l8) ?_
            refine t_0 vha_99 rfl (pq_cv (el_s4 hk) rfl ((cF_M hJ.2 ((cW_r hK).2 k hk).2).trans (hal k hk c0) : cF ga7 (4 + 2 * k) 8 = alB (fA g0 (5 + 2 * k)) 8)) ?_
            show t_X d 121 102 lv8 [oI (alB (fA g0 (5 + 2 * k)) 8), oI 255, pvR (4 + 2 * k), pvR 164, .inr (.inl (Int64.ofInt ((A * t k : Nat) : Int)))] ga7 P
            refine t_0 vha_102 rfl (pq_xo ⟨by omega, by omega⟩) ?_
            refine t_3 vha_103 rfl (ar := ([pvR 164, pvR (4 + 2 * k), oI (255 - alB (fA g0 (5 + 2 * k)) 8)], [.inr (.inl (Int64.ofInt ((A * t k : Nat) : Int)))])) (pcal_w (as := [oI (255 - alB (fA g0 (5 + 2 * k)) 8), pvR (4 + 2 * k)]) rfl rfl rfl ygeo_164) ⟨by omega, Nat.le_of_ble_eq_true rfl, Nat.le_of_ble_eq_true rfl, rfl⟩ ?_
            refine voo_run hK hk (by omega) (sdC_f hJ.2 ((cW_n hK).1 k hk) ⟨rfl, rfl, rfl, rfl⟩) (((hJ.2.1 164 0 (cW_n hK).2.2.1).2.2).trans r0) (rLc_f hJ.2 (cW_n hK).2.1 hL) (bb := fun w => !alN (fA g0 (5 + 2 * k)) w) bt_al (ea k) (fun ga9 J2 => ?_) hJ.1 rfl rfl rfl
            have hJ2 := J_up (Nat.and_self _) hJ J2
            clear hJ
            have hJ := hJ2
            clear hJ2 J2
            rw [(oS_T (ha k) (er k)).1]
            show t_X d 121 106 lv8 [oI (((r k : Nat) : Int)), .inr (.inl (Int64.ofInt ((A * t k : Nat) : Int)))] ga9 P
            refine t_0 vha_106 rfl (pq_il ⟨by omega, by omega⟩) ?_
            refine t_0 vha_107 rfl (ld_l l4) ?_
            refine t_0 vha_109 rfl pq_lm ?_
            refine t_0 vha_110 rfl pq_la9 ?_
            refine t_2 vha_111 rfl (w := (px_s2 lv8 2 (.inr (.inl (Int64.ofInt ((A * t k + r k * B : Nat) : Int)))), [])) rfl ?_
            replace l0 : px_lg (px_s2 lv8 2 (.inr (.inl (Int64.ofInt ((A * t k + r k * B : Nat) : Int))))) 0 = some (pvR 0) := s2_ne (by decide) (fun _ => rfl) l0
            replace l1 : px_lg (px_s2 lv8 2 (.inr (.inl (Int64.ofInt ((A * t k + r k * B : Nat) : Int))))) 1 = some (oI (what)) := s2_ne (by decide) (fun _ => rfl) l1
            replace l4 : px_lg (px_s2 lv8 2 (.inr (.inl (Int64.ofInt ((A * t k + r k * B : Nat) : Int))))) 4 = some (.inr (.inl (Int64.ofInt ((B : Nat) : Int)))) := s2_ne (by decide) (fun z => absurd z (by decide)) l4
            replace l6 : px_lg (px_s2 lv8 2 (.inr (.inl (Int64.ofInt ((A * t k + r k * B : Nat) : Int))))) 6 = some (oI (((N : Nat) : Int))) := s2_ne (by decide) (fun _ => rfl) l6
            replace l7 : px_lg (px_s2 lv8 2 (.inr (.inl (Int64.ofInt ((A * t k + r k * B : Nat) : Int))))) 7 = some (oI ((k : Int))) := s2_ne (by decide) (fun _ => rfl) l7
            replace l8 : px_lg (px_s2 lv8 2 (.inr (.inl (Int64.ofInt ((A * t k + r k * B : Nat) : Int))))) 8 = some (pvR (4 + 2 * k)) := s2_ne (by decide) (fun _ => rfl) l8
            replace l9 : px_lg (px_s2 lv8 2 (.inr (.inl (Int64.ofInt ((A * t k + r k * B : Nat) : Int))))) 9 = some (.inr (.inl (Int64.ofInt ((t k : Nat) : Int)))) := s2_ne (by decide) (fun z => absurd z (by decide)) l9
            have l2 : px_lg (px_s2 lv8 2 (.inr (.inl (Int64.ofInt ((A * t k + r k * B : Nat) : Int))))) 2 = some (.inr (.inl (Int64.ofInt ((A * t k + r k * B : Nat) : Int)))) := s2_eq
            generalize px_s2 lv8 2 (.inr (.inl (Int64.ofInt ((A * t k + r k * B : Nat) : Int)))) = lv10 at l0 l1 l4 l6 l7 l8 l9 l2 ⊢
            show t_X d 121 112 lv10 [] ga9 P
            refine t_0 vha_112 rfl (ld_l l4) ?_
            refine t_0 vha_114 rfl (ld_l l9) ?_
            refine t_0 vha_116 rfl pq_lm ?_
            refine t_2 vha_117 rfl (w := (px_s2 lv10 4 (.inr (.inl (Int64.ofInt ((B * t k : Nat) : Int)))), [])) rfl ?_
            replace l0 : px_lg (px_s2 lv10 4 (.inr (.inl (Int64.ofInt ((B * t k : Nat) : Int))))) 0 = some (pvR 0) := s2_ne (by decide) (fun _ => rfl) l0
            replace l1 : px_lg (px_s2 lv10 4 (.inr (.inl (Int64.ofInt ((B * t k : Nat) : Int))))) 1 = some (oI (what)) := s2_ne (by decide) (fun _ => rfl) l1
            replace l6 : px_lg (px_s2 lv10 4 (.inr (.inl (Int64.ofInt ((B * t k : Nat) : Int))))) 6 = some (oI (((N : Nat) : Int))) := s2_ne (by decide) (fun _ => rfl) l6
            replace l7 : px_lg (px_s2 lv10 4 (.inr (.inl (Int64.ofInt ((B * t k : Nat) : Int))))) 7 = some (oI ((k : Int))) := s2_ne (by decide) (fun _ => rfl) l7
            replace l8 : px_lg (px_s2 lv10 4 (.inr (.inl (Int64.ofInt ((B * t k : Nat) : Int))))) 8 = some (pvR (4 + 2 * k)) := s2_ne (by decide) (fun _ => rfl) l8
            replace l9 : px_lg (px_s2 lv10 4 (.inr (.inl (Int64.ofInt ((B * t k : Nat) : Int))))) 9 = some (.inr (.inl (Int64.ofInt ((t k : Nat) : Int)))) := s2_ne (by decide) (fun z => absurd z (by decide)) l9
            replace l2 : px_lg (px_s2 lv10 4 (.inr (.inl (Int64.ofInt ((B * t k : Nat) : Int))))) 2 = some (.inr (.inl (Int64.ofInt ((A * t k + r k * B : Nat) : Int)))) := s2_ne (by decide) (fun z => absurd z (by decide)) l2
            have l4 : px_lg (px_s2 lv10 4 (.inr (.inl (Int64.ofInt ((B * t k : Nat) : Int))))) 4 = some (.inr (.inl (Int64.ofInt ((B * t k : Nat) : Int)))) := s2_eq
            generalize px_s2 lv10 4 (.inr (.inl (Int64.ofInt ((B * t k : Nat) : Int)))) = lv11 at l0 l1 l6 l7 l8 l9 l2 l4 ⊢
            show t_X d 121 119 lv11 [] ga9 P
            refine t_2 vha_119 rfl (w := (px_s1 lv11 6 (oI (((N : Nat) : Int) + 1)), [])) (pq_inc l6 (by decide)) ?_
            replace l0 : px_lg (px_s1 lv11 6 (oI (((N : Nat) : Int) + 1))) 0 = some (pvR 0) := s1_ne (by decide) (fun _ => rfl) l0
            replace l1 : px_lg (px_s1 lv11 6 (oI (((N : Nat) : Int) + 1))) 1 = some (oI (what)) := s1_ne (by decide) (fun _ => rfl) l1
            replace l7 : px_lg (px_s1 lv11 6 (oI (((N : Nat) : Int) + 1))) 7 = some (oI ((k : Int))) := s1_ne (by decide) (fun _ => rfl) l7
            replace l8 : px_lg (px_s1 lv11 6 (oI (((N : Nat) : Int) + 1))) 8 = some (pvR (4 + 2 * k)) := s1_ne (by decide) (fun _ => rfl) l8
            replace l9 : px_lg (px_s1 lv11 6 (oI (((N : Nat) : Int) + 1))) 9 = some (.inr (.inl (Int64.ofInt ((t k : Nat) : Int)))) := s1_ne (by decide) (fun z => absurd z (by decide)) l9
            replace l2 : px_lg (px_s1 lv11 6 (oI (((N : Nat) : Int) + 1))) 2 = some (.inr (.inl (Int64.ofInt ((A * t k + r k * B : Nat) : Int)))) := s1_ne (by decide) (fun z => absurd z (by decide)) l2
            replace l4 : px_lg (px_s1 lv11 6 (oI (((N : Nat) : Int) + 1))) 4 = some (.inr (.inl (Int64.ofInt ((B * t k : Nat) : Int)))) := s1_ne (by decide) (fun z => absurd z (by decide)) l4
            have l6 : px_lg (px_s1 lv11 6 (oI (((N : Nat) : Int) + 1))) 6 = some (oI (((N : Nat) : Int) + 1)) := s1_eq
            generalize px_s1 lv11 6 (oI (((N : Nat) : Int) + 1)) = lv12 at l0 l1 l7 l8 l9 l2 l4 l6 ⊢
            show t_X d 121 122 lv12 [] ga9 P
            refine t_2 vha_122 rfl (w := (px_s1 lv12 7 (oI ((k : Int) + 1)), [])) (pq_inc l7 (by decide)) ?_
            replace l0 : px_lg (px_s1 lv12 7 (oI ((k : Int) + 1))) 0 = some (pvR 0) := s1_ne (by decide) (fun _ => rfl) l0
            replace l1 : px_lg (px_s1 lv12 7 (oI ((k : Int) + 1))) 1 = some (oI (what)) := s1_ne (by decide) (fun _ => rfl) l1
            replace l8 : px_lg (px_s1 lv12 7 (oI ((k : Int) + 1))) 8 = some (pvR (4 + 2 * k)) := s1_ne (by decide) (fun _ => rfl) l8
            replace l9 : px_lg (px_s1 lv12 7 (oI ((k : Int) + 1))) 9 = some (.inr (.inl (Int64.ofInt ((t k : Nat) : Int)))) := s1_ne (by decide) (fun z => absurd z (by decide)) l9
            replace l2 : px_lg (px_s1 lv12 7 (oI ((k : Int) + 1))) 2 = some (.inr (.inl (Int64.ofInt ((A * t k + r k * B : Nat) : Int)))) := s1_ne (by decide) (fun z => absurd z (by decide)) l2
            replace l4 : px_lg (px_s1 lv12 7 (oI ((k : Int) + 1))) 4 = some (.inr (.inl (Int64.ofInt ((B * t k : Nat) : Int)))) := s1_ne (by decide) (fun z => absurd z (by decide)) l4
            replace l6 : px_lg (px_s1 lv12 7 (oI ((k : Int) + 1))) 6 = some (oI (((N : Nat) : Int) + 1)) := s1_ne (by decide) (fun _ => rfl) l6
            have l7 : px_lg (px_s1 lv12 7 (oI ((k : Int) + 1))) 7 = some (oI ((k : Int) + 1)) := s1_eq
            generalize px_s1 lv12 7 (oI ((k : Int) + 1)) = lv13 at l0 l1 l8 l9 l2 l4 l6 l7 ⊢
            show t_X d 121 125 lv13 [] ga9 P
            refine t_1 vha_125 rfl (pb_goto (pc := 125) (by decide)) ?_
            show t_X d 121 24 lv13 [] ga9 P
            exact ih (k + 1) _ _ _ ga9 _ (by omega) (by omega) hJ (hT_y he ⟨by omega, by rw [eb]; exact decide_eq_true c0, by omega⟩) l0 l1 (by rw [Nat.mul_comm B (r k)]; exact l2) l4 l6 l7
        · show t_X d 121 47 lv [.inr (.inr none)] g P
          refine t_2 vha_47 rfl (w := (px_s1 lv 8 (.inr (.inr none)), [])) rfl ?_
          replace l0 : px_lg (px_s1 lv 8 (.inr (.inr none))) 0 = some (pvR 0) := s1_ne (by decide) (fun _ => rfl) l0
          replace l1 : px_lg (px_s1 lv 8 (.inr (.inr none))) 1 = some (oI (what)) := s1_ne (by decide) (fun _ => rfl) l1
          replace l2 : px_lg (px_s1 lv 8 (.inr (.inr none))) 2 = some (.inr (.inl (Int64.ofInt ((A : Nat) : Int)))) := s1_ne (by decide) (fun z => absurd z (by decide)) l2
          replace l4 : px_lg (px_s1 lv 8 (.inr (.inr none))) 4 = some (.inr (.inl (Int64.ofInt ((B : Nat) : Int)))) := s1_ne (by decide) (fun z => absurd z (by decide)) l4
          replace l6 : px_lg (px_s1 lv 8 (.inr (.inr none))) 6 = some (oI (((N : Nat) : Int))) := s1_ne (by decide) (fun _ => rfl) l6
          replace l7 : px_lg (px_s1 lv 8 (.inr (.inr none))) 7 = some (oI ((k : Int))) := s1_ne (by decide) (fun _ => rfl) l7
          have l8 : px_lg (px_s1 lv 8 (.inr (.inr none))) 8 = some (.inr (.inr none)) := s1_eq
          generalize px_s1 lv 8 (.inr (.inr none)) = lv14 at l0 l1 l2 l4 l6 l7 l8 ⊢
          show t_X d 121 49 lv14 [] g P
          refine t_0 vha_49 rfl (ld_a l8) ?_
          refine t_1 vha_51 rfl (pn_nt (pc := 51) (by decide)) ?_
          show t_X d 121 122 lv14 [] g P
          refine t_2 vha_122 rfl (w := (px_s1 lv14 7 (oI ((k : Int) + 1)), [])) (pq_inc l7 (by decide)) ?_
          replace l0 : px_lg (px_s1 lv14 7 (oI ((k : Int) + 1))) 0 = some (pvR 0) := s1_ne (by decide) (fun _ => rfl) l0
          replace l1 : px_lg (px_s1 lv14 7 (oI ((k : Int) + 1))) 1 = some (oI (what)) := s1_ne (by decide) (fun _ => rfl) l1
          replace l2 : px_lg (px_s1 lv14 7 (oI ((k : Int) + 1))) 2 = some (.inr (.inl (Int64.ofInt ((A : Nat) : Int)))) := s1_ne (by decide) (fun z => absurd z (by decide)) l2
          replace l4 : px_lg (px_s1 lv14 7 (oI ((k : Int) + 1))) 4 = some (.inr (.inl (Int64.ofInt ((B : Nat) : Int)))) := s1_ne (by decide) (fun z => absurd z (by decide)) l4
          replace l6 : px_lg (px_s1 lv14 7 (oI ((k : Int) + 1))) 6 = some (oI (((N : Nat) : Int))) := s1_ne (by decide) (fun _ => rfl) l6
          replace l8 : px_lg (px_s1 lv14 7 (oI ((k : Int) + 1))) 8 = some (.inr (.inr none)) := s1_ne (by decide) (fun _ => rfl) l8
          have l7 : px_lg (px_s1 lv14 7 (oI ((k : Int) + 1))) 7 = some (oI ((k : Int) + 1)) := s1_eq
          generalize px_s1 lv14 7 (oI ((k : Int) + 1)) = lv15 at l0 l1 l2 l4 l6 l8 l7 ⊢
          show t_X d 121 125 lv15 [] g P
          refine t_1 vha_125 rfl (pb_goto (pc := 125) (by decide)) ?_
          show t_X d 121 24 lv15 [] g P
          exact ih (k + 1) _ _ _ g _ (by omega) (by omega) hJ (hT_n he (fun z => c1 ⟨k, hk, rfl, by rw [cF_M hJ.2 ((cW_r hK).2 k hk).1]; have z1 := z.2.1; rw [eb] at z1; exact of_decide_eq_true z1⟩)) l0 l1 l2 l4 l6 l7
      · skip
        refine t_0 vha_24 rfl (ld_i l7) ?_
        refine t_0 vha_26 rfl (pq_b (by decide)) ?_
        refine tb_ge vha_28 (by decide) ⟨by omega, by omega⟩ ⟨by omega, by omega⟩ (fun c1 => absurd c1 (by omega)) (fun c1 => ?_)
        show t_X d 121 31 lv [] g P
        refine t_0 vha_31 rfl (ld_i l6) ?_
        refine t_0 vha_33 rfl (pq_b (by decide)) ?_
        refine tb_ge vha_35 (by decide) ⟨by omega, by omega⟩ ⟨by omega, by omega⟩ (fun c2 => ?_) (fun c2 => absurd c2 (by omega))
        show t_X d 121 128 lv [] g P
        exact hP g hJ A B N _ (by have z := hT_6 he (by omega) (32 - k); rw [show k + (32 - k) = 32 by omega] at z; exact z) l1 l2 l4
    · skip
      refine t_0 vha_24 rfl (ld_i l7) ?_
      refine t_0 vha_26 rfl (pq_b (by decide)) ?_
      refine tb_ge vha_28 (by decide) ⟨by omega, by omega⟩ ⟨by omega, by omega⟩ (fun c1 => ?_) (fun c1 => absurd c1 (by omega))
      show t_X d 121 128 lv [] g P
      obtain rfl : k = 32 := by omega
      exact hP g hJ A B N _ he l1 l2 l4
theorem vha_e0 {A B : Nat} (hB : 0 < B) (h1 : A ≤ 9000000000000000000) (h2 : B ≤ 9000000000000000000) {d : Nat} (hd : 3 ≤ d) {g : pH} {P : Option pv × pH → Prop} (hP : P (some (.inr (.inl (Int64.ofInt ((rdA A B : Nat) : Int)))), g)) {lv : List (Nat × pv)} (l1 : px_lg lv 1 = some (oI 0)) (l2 : px_lg lv 2 = some (.inr (.inl (Int64.ofInt ((A : Nat) : Int))))) (l4 : px_lg lv 4 = some (.inr (.inl (Int64.ofInt ((B : Nat) : Int))))) : t_X d 121 128 lv [] g P := by
  refine t_0 vha_128 rfl (ld_l l2) ?_
  refine t_0 vha_129 rfl (ld_l l4) ?_
  refine t_0 vha_131 rfl (ld_i l1) ?_
  refine tz_ne vha_132 (by decide) ⟨by omega, by omega⟩ (fun c1 => absurd c1 (by omega)) (fun c1 => ?_)
  show t_X d 121 135 lv [.inr (.inl (Int64.ofInt ((B : Nat) : Int))), .inr (.inl (Int64.ofInt ((A : Nat) : Int)))] g P
  refine t_0 vha_135 rfl rfl ?_
  refine t_1 vha_136 rfl (pb_goto (pc := 136) (by decide)) ?_
  show t_X d 121 140 lv [oI 1, .inr (.inl (Int64.ofInt ((B : Nat) : Int))), .inr (.inl (Int64.ofInt ((A : Nat) : Int)))] g P
  refine t_3 vha_140 rfl (ar := ([.inr (.inl (Int64.ofInt ((A : Nat) : Int))), .inr (.inl (Int64.ofInt ((B : Nat) : Int))), oI 1], [])) (pcal_s ⟨Or.inl rfl, rfl, Nat.le_of_ble_eq_true rfl⟩) ⟨by omega, Nat.le_of_ble_eq_true rfl, Nat.le_of_ble_eq_true rfl, rfl⟩ ?_
  refine vpo_r1 (by omega) (by omega) (by omega) (gD_l (by omega)) (Or.inr hB) ?_ rfl rfl rfl
  rw [(gS_a (by omega)).1]
  show t_X d 121 143 lv [.inr (.inl (Int64.ofInt ((rdA A B : Nat) : Int)))] g P
  refine t_5 vha_143 rfl rfl ?_
  exact hP
theorem vha_e1 {A B : Nat} (hB : 0 < B) (h1 : A ≤ 9000000000000000000) (h2 : B ≤ 9000000000000000000) {d : Nat} (hd : 3 ≤ d) {g : pH} {P : Option pv × pH → Prop} (hP : P (some (.inr (.inl (Int64.ofInt ((rdB A B : Nat) : Int)))), g)) {lv : List (Nat × pv)} (l1 : px_lg lv 1 = some (oI 1)) (l2 : px_lg lv 2 = some (.inr (.inl (Int64.ofInt ((A : Nat) : Int))))) (l4 : px_lg lv 4 = some (.inr (.inl (Int64.ofInt ((B : Nat) : Int))))) : t_X d 121 128 lv [] g P := by
  refine t_0 vha_128 rfl (ld_l l2) ?_
  refine t_0 vha_129 rfl (ld_l l4) ?_
  refine t_0 vha_131 rfl (ld_i l1) ?_
  refine tz_ne vha_132 (by decide) ⟨by omega, by omega⟩ (fun c1 => ?_) (fun c1 => absurd c1 (by omega))
  show t_X d 121 139 lv [.inr (.inl (Int64.ofInt ((B : Nat) : Int))), .inr (.inl (Int64.ofInt ((A : Nat) : Int)))] g P
  refine t_0 vha_139 rfl rfl ?_
  refine t_3 vha_140 rfl (ar := ([.inr (.inl (Int64.ofInt ((A : Nat) : Int))), .inr (.inl (Int64.ofInt ((B : Nat) : Int))), oI 0], [])) (pcal_s ⟨Or.inl rfl, rfl, Nat.le_of_ble_eq_true rfl⟩) ⟨by omega, Nat.le_of_ble_eq_true rfl, Nat.le_of_ble_eq_true rfl, rfl⟩ ?_
  refine vpo_r0 (by omega) (by omega) (by omega) (gD_l (by omega)) (Or.inr hB) ?_ rfl rfl rfl
  rw [(gS_a (by omega)).2]
  show t_X d 121 143 lv [.inr (.inl (Int64.ofInt ((rdB A B : Nat) : Int)))] g P
  refine t_5 vha_143 rfl rfl ?_
  exact hP
theorem vlg_loop {m : Nat} (hm : m < 32) {ki ma ta wo : Int} {k1 c : Int} {o v le st co en : tC} {g0 : pH} (hs : sdM g0 m ki ma ta wo) (hL : rLm g0 k1 c o v le st co en) {a : Nat → Int} (ea : a = (fun w : Nat => aV o v (qF m ki ma ta wo w) le st co en c 119 99)) {d : Nat} (hd : 6 ≤ d) {P : Option pv × pH → Prop} (hP : ∀ g1 : pH, J_ hW9 g0 g1 → (∀ j, j < 8 → fA g1 229 j = a j) → P (some (oI (oS (fun _ => true) a 8)), g1)) : ∀ (r k : Nat) (g : pH) (lv : List (Nat × pv)), 8 - k ≤ r → k ≤ 8 → J_ hW9 g0 g → (∀ j, j < k → fA g 229 j = a j) → px_lg lv 0 = some (pvR 196) → px_lg lv 1 = some (oI (m : Int)) → px_lg lv 2 = some (oI (oS (fun _ => true) a k)) → px_lg lv 3 = some (oI (k : Int)) → t_X d 214 4 lv [] g P := by
  have ha : ∀ k, 0 ≤ a k ∧ a k ≤ 99 := fun k => by rw [ea]; exact aV_b (by decide)
  intro r
  induction r with
  | zero =>
    intro k g lv hr hk2 hJ hH l0 l1 l2 l3
    refine t_0 vlh_4 rfl (ld_i l3) ?_
    refine t_0 vlh_5 rfl (pq_b (by decide)) ?_
    refine tb_ge vlh_7 (by decide) ⟨by omega, by omega⟩ ⟨by omega, by omega⟩ (fun c1 => ?_) (fun c1 => absurd c1 (by omega))
    show t_X d 214 41 lv [] g P
    refine t_0 vlh_41 rfl (ld_i l2) ?_
    refine t_5 vlh_42 rfl rfl ?_
    obtain rfl : k = 8 := by omega
    exact hP g hJ (fun j hj => hH j (by omega))
  | succ r ih =>
    intro k g lv hr hk2 hJ hH l0 l1 l2 l3
    by_cases hk : k < 8
    · skip
      refine t_0 vlh_4 rfl (ld_i l3) ?_
      refine t_0 vlh_5 rfl (pq_b (by decide)) ?_
      refine tb_ge vlh_7 (by decide) ⟨by omega, by omega⟩ ⟨by omega, by omega⟩ (fun c1 => absurd c1 (by omega)) (fun c1 => ?_)
      show t_X d 214 10 lv [] g P
      refine t_0 vlh_10 rfl (ld_a l0) ?_
      refine t_0 vlh_11 rfl (ygcq_196_55 hJ.1) ?_
      show t_X d 214 14 lv [pvR 229] g P
      refine t_0 vlh_14 rfl (ld_i l3) ?_
      refine t_0 vlh_15 rfl (ld_a l0) ?_
      refine t_0 vlh_16 rfl (ld_i l1) ?_
      refine t_0 vlh_17 rfl (ld_i l3) ?_
      refine t_0 vlh_18 rfl (pq_b (by decide)) ?_
      refine t_0 vlh_20 rfl (pq_b (by decide)) ?_
      refine t_3 vlh_22 rfl (ar := ([pvR 196, oI ((m : Int)), oI ((k : Int)), oI 119, oI 99], [oI ((k : Int)), pvR 229])) (pcal_w (as := [oI 99, oI 119, oI ((k : Int)), oI ((m : Int))]) rfl rfl rfl ygeo_196) ⟨by omega, Nat.le_of_ble_eq_true rfl, Nat.le_of_ble_eq_true rfl, rfl⟩ ?_
      refine vqa_run hm hk (by omega) hJ.1 (sdM_f hJ.2 hW_n.2.2.2.2.1.1 hW_n.2.2.2.2.1.2.1 hW_n.2.2.2.2.1.2.2.1 hW_n.2.2.2.2.1.2.2.2.1 hW_n.2.2.2.2.2 hs) (rLm_f hJ.2 hW_n.2.2.2.1 hL) (by decide) (by decide) (fun g2 J2 => ?_) rfl rfl rfl rfl rfl
      rw [show aV o v (qF m ki ma ta wo k) le st co en c 119 99 = a k from by rw [ea]]
      have hJ2 := J_up hW_n.1.1 hJ J2
      have ak := ha k
      show t_X d 214 25 lv [oI (a k), oI ((k : Int)), pvR 229] g2 P
      refine tw_a vlh_25 hJ2 ygez_229 rfl hW_n.2.1 yggu_229 (by decide) ⟨by omega, by omega⟩ ⟨by omega, by omega⟩ (fun g3 hJ3 f1 f2 f3 f4 => ?_)
      show t_X d 214 26 lv [] g3 P
      refine t_0 vlh_26 rfl (ld_i l2) ?_
      refine t_0 vlh_27 rfl (ld_a l0) ?_
      refine t_0 vlh_28 rfl (ygcq_196_55 hJ3.1) ?_
      show t_X d 214 31 lv [pvR 229, oI (oS (fun _ => true) a k)] g3 P
      refine t_0 vlh_31 rfl (ld_i l3) ?_
      refine t_0 vlh_32 rfl (pq_iw ygez_229 rfl ⟨by omega, by omega⟩ f2) ?_
      show t_X d 214 33 lv [oI (a k), oI (oS (fun _ => true) a k)] g3 P
      refine t_0 vlh_33 rfl pq_add ?_
      refine t_2 vlh_34 rfl (w := (px_s1 lv 2 (oI ((oS (fun _ => true) a k) + (a k))), [])) rfl ?_
      replace l0 : px_lg (px_s1 lv 2 (oI ((oS (fun _ => true) a k) + (a k)))) 0 = some (pvR 196) := s1_ne (by decide) (fun _ => rfl) l0
      replace l1 : px_lg (px_s1 lv 2 (oI ((oS (fun _ => true) a k) + (a k)))) 1 = some (oI ((m : Int))) := s1_ne (by decide) (fun _ => rfl) l1
      replace l3 : px_lg (px_s1 lv 2 (oI ((oS (fun _ => true) a k) + (a k)))) 3 = some (oI ((k : Int))) := s1_ne (by decide) (fun _ => rfl) l3
      have l2 : px_lg (px_s1 lv 2 (oI ((oS (fun _ => true) a k) + (a k)))) 2 = some (oI ((oS (fun _ => true) a k) + (a k))) := s1_eq
      generalize px_s1 lv 2 (oI ((oS (fun _ => true) a k) + (a k))) = lv2 at l0 l1 l3 l2 ⊢
      show t_X d 214 35 lv2 [] g3 P
      refine t_2 vlh_35 rfl (w := (px_s1 lv2 3 (oI ((k : Int) + 1)), [])) (pq_inc l3 (by decide)) ?_
      replace l0 : px_lg (px_s1 lv2 3 (oI ((k : Int) + 1))) 0 = some (pvR 196) := s1_ne (by decide) (fun _ => rfl) l0
      replace l1 : px_lg (px_s1 lv2 3 (oI ((k : Int) + 1))) 1 = some (oI ((m : Int))) := s1_ne (by decide) (fun _ => rfl) l1
      replace l2 : px_lg (px_s1 lv2 3 (oI ((k : Int) + 1))) 2 = some (oI ((oS (fun _ => true) a k) + (a k))) := s1_ne (by decide) (fun _ => rfl) l2
      have l3 : px_lg (px_s1 lv2 3 (oI ((k : Int) + 1))) 3 = some (oI ((k : Int) + 1)) := s1_eq
      generalize px_s1 lv2 3 (oI ((k : Int) + 1)) = lv3 at l0 l1 l2 l3 ⊢
      show t_X d 214 38 lv3 [] g3 P
      refine t_1 vlh_38 rfl (pb_goto (pc := 38) (by decide)) ?_
      show t_X d 214 4 lv3 [] g3 P
      refine ih (k + 1) g3 _ (by omega) (by omega) hJ3 (fun j hj => ?_) l0 l1 (by rw [oS_y (b := fun _ => true) rfl]; exact l2) l3
      rcases Nat.lt_or_ge j k with z | z
      · exact (f3 j (by show j ≠ ((k : Int)).toNat; omega)).trans ((congrFun (fA_M J2.2 hW_n.2.2.1) j).trans (hH j z))
      · rw [show j = k by omega]; exact f2
    · skip
      refine t_0 vlh_4 rfl (ld_i l3) ?_
      refine t_0 vlh_5 rfl (pq_b (by decide)) ?_
      refine tb_ge vlh_7 (by decide) ⟨by omega, by omega⟩ ⟨by omega, by omega⟩ (fun c1 => ?_) (fun c1 => absurd c1 (by omega))
      show t_X d 214 41 lv [] g P
      refine t_0 vlh_41 rfl (ld_i l2) ?_
      refine t_5 vlh_42 rfl rfl ?_
      obtain rfl : k = 8 := by omega
      exact hP g hJ (fun j hj => hH j (by omega))
theorem vlg_run {m : Nat} (hm : m < 32) {ki ma ta wo : Int} {k1 c : Int} {o v le st co en : tC} {g0 : pH} (hs : sdM g0 m ki ma ta wo) (hL : rLm g0 k1 c o v le st co en) {a : Nat → Int} (ea : a = (fun w : Nat => aV o v (qF m ki ma ta wo w) le st co en c 119 99)) {d : Nat} (hd : 6 ≤ d) {P : Option pv × pH → Prop} (hP : ∀ g1 : pH, J_ hW9 g0 g1 → (∀ j, j < 8 → fA g1 229 j = a j) → P (some (oI (oS (fun _ => true) a 8)), g1)) (hG : g_I eG g0) {lv : List (Nat × pv)} (l0 : px_lg lv 0 = some (pvR 196)) (l1 : px_lg lv 1 = some (oI (m : Int))) : t_X d 214 0 lv [] g0 P := by
  refine t_0 vlh_0 rfl rfl ?_
  refine t_2 vlh_1 rfl (w := (px_s1 lv 2 (oI 0), [])) rfl ?_
  replace l0 : px_lg (px_s1 lv 2 (oI 0)) 0 = some (pvR 196) := s1_ne (by decide) (fun _ => rfl) l0
  replace l1 : px_lg (px_s1 lv 2 (oI 0)) 1 = some (oI ((m : Int))) := s1_ne (by decide) (fun _ => rfl) l1
  have l2 : px_lg (px_s1 lv 2 (oI 0)) 2 = some (oI 0) := s1_eq
  generalize px_s1 lv 2 (oI 0) = lv1 at l0 l1 l2 ⊢
  show t_X d 214 2 lv1 [] g0 P
  refine t_0 vlh_2 rfl rfl ?_
  refine t_2 vlh_3 rfl (w := (px_s1 lv1 3 (oI 0), [])) rfl ?_
  replace l0 : px_lg (px_s1 lv1 3 (oI 0)) 0 = some (pvR 196) := s1_ne (by decide) (fun _ => rfl) l0
  replace l1 : px_lg (px_s1 lv1 3 (oI 0)) 1 = some (oI ((m : Int))) := s1_ne (by decide) (fun _ => rfl) l1
  replace l2 : px_lg (px_s1 lv1 3 (oI 0)) 2 = some (oI 0) := s1_ne (by decide) (fun _ => rfl) l2
  have l3 : px_lg (px_s1 lv1 3 (oI 0)) 3 = some (oI 0) := s1_eq
  generalize px_s1 lv1 3 (oI 0) = lv2 at l0 l1 l2 l3 ⊢
  show t_X d 214 4 lv2 [] g0 P
  exact vlg_loop hm hs hL ea hd hP 8 0 g0 _ (by omega) (by omega) (J_rf hG) (fun j hj => absurd hj (Nat.not_lt_zero j)) l0 l1 l2 l3
theorem vhb_in {k : Nat} (hk : k < 32) {d : Nat} (hd : 2 ≤ d) {g : pH} (hG : g_I eG g) {pic : tC} (hp : ∀ j : Nat, j < 25 → pic j = fA g 210 (25 * k + j)) (hpb : ∀ j, -2147483648 ≤ pic j ∧ pic j ≤ 2147483647) {a : Nat → Nat → Int} (hH : ∀ w, w < 8 → fA g 229 w = a k w) {bb : Nat → Bool} (ebb : bb = fun w => !alN pic w) {what hn tt : Int} {A B : Nat} {P : Option pv × pH → Prop} (hP : ∀ lv : List (Nat × pv), px_lg lv 0 = some (pvR 196) → px_lg lv 1 = some (oI what) → px_lg lv 2 = some (.inr (.inl (Int64.ofInt ((A : Nat) : Int)))) → px_lg lv 4 = some (.inr (.inl (Int64.ofInt ((B : Nat) : Int)))) → px_lg lv 6 = some (oI hn) → px_lg lv 7 = some (oI (k : Int)) → px_lg lv 8 = some (oI tt) → px_lg lv 9 = some (oI (oS bb (a k) 8)) → t_X d 195 120 lv [] g P) : ∀ (r w : Nat) (lv : List (Nat × pv)), 8 - w ≤ r → w ≤ 8 → px_lg lv 0 = some (pvR 196) → px_lg lv 1 = some (oI what) → px_lg lv 2 = some (.inr (.inl (Int64.ofInt ((A : Nat) : Int)))) → px_lg lv 4 = some (.inr (.inl (Int64.ofInt ((B : Nat) : Int)))) → px_lg lv 6 = some (oI hn) → px_lg lv 7 = some (oI (k : Int)) → px_lg lv 8 = some (oI tt) → px_lg lv 9 = some (oI (oS bb (a k) w)) → px_lg lv 10 = some (oI (w : Int)) → t_X d 195 79 lv [] g P := by
  intro r
  induction r with
  | zero =>
    intro w lv hr hw2 l0 l1 l2 l4 l6 l7 l8 l9 l10
    refine t_0 vhb_79 rfl (ld_i l10) ?_
    refine t_0 vhb_81 rfl (pq_b (by decide)) ?_
    refine tb_ge vhb_83 (by decide) ⟨by omega, by omega⟩ ⟨by omega, by omega⟩ (fun c1 => ?_) (fun c1 => absurd c1 (by omega))
    show t_X d 195 120 lv [] g P
    obtain rfl : w = 8 := by omega
    exact hP _ l0 l1 l2 l4 l6 l7 l8 l9
  | succ r ih =>
    intro w lv hr hw2 l0 l1 l2 l4 l6 l7 l8 l9 l10
    by_cases hw : w < 8
    · skip
      refine t_0 vhb_79 rfl (ld_i l10) ?_
      refine t_0 vhb_81 rfl (pq_b (by decide)) ?_
      refine tb_ge vhb_83 (by decide) ⟨by omega, by omega⟩ ⟨by omega, by omega⟩ (fun c1 => absurd c1 (by omega)) (fun c1 => ?_)
      show t_X d 195 86 lv [] g P
      refine t_0 vhb_86 rfl (ld_i l9) ?_
      refine t_0 vhb_88 rfl (ld_a l0) ?_
      refine t_0 vhb_89 rfl (ld_i l7) ?_
      refine t_0 vhb_91 rfl (ld_i l10) ?_
      refine t_0 vhb_93 rfl rfl ?_
      refine t_3 vhb_94 rfl (ar := ([pvR 196, oI ((k : Int)), oI ((w : Int)), oI 0], [oI (oS bb (a k) w)])) (pcal_w (as := [oI 0, oI ((w : Int)), oI ((k : Int))]) rfl rfl rfl ygeo_196) ⟨by omega, Nat.le_of_ble_eq_true rfl, Nat.le_of_ble_eq_true rfl, rfl⟩ ?_
      refine vaa_run hk hw (by omega) hG hp hpb (fun q0 => ?_) (fun q0 => ?_) rfl rfl rfl rfl
      · show t_X d 195 97 lv [oI 1, oI (oS bb (a k) w)] g P
        refine tz_eq vhb_97 (by decide) ⟨by omega, by omega⟩ (fun c2 => absurd c2 (by omega)) (fun c2 => ?_)
        show t_X d 195 100 lv [oI (oS bb (a k) w)] g P
        refine t_0 vhb_100 rfl rfl ?_
        refine t_1 vhb_101 rfl (pb_goto (pc := 101) (by decide)) ?_
        show t_X d 195 111 lv [oI 0, oI (oS bb (a k) w)] g P
        refine t_0 vhb_111 rfl pq_add ?_
        refine t_2 vhb_112 rfl (w := (px_s1 lv 9 (oI ((oS bb (a k) w) + 0)), [])) rfl ?_
        replace l0 : px_lg (px_s1 lv 9 (oI ((oS bb (a k) w) + 0))) 0 = some (pvR 196) := s1_ne (by decide) (fun _ => rfl) l0
        replace l7 : px_lg (px_s1 lv 9 (oI ((oS bb (a k) w) + 0))) 7 = some (oI ((k : Int))) := s1_ne (by decide) (fun _ => rfl) l7
        replace l10 : px_lg (px_s1 lv 9 (oI ((oS bb (a k) w) + 0))) 10 = some (oI ((w : Int))) := s1_ne (by decide) (fun _ => rfl) l10
        replace l1 : px_lg (px_s1 lv 9 (oI ((oS bb (a k) w) + 0))) 1 = some (oI (what)) := s1_ne (by decide) (fun _ => rfl) l1
        replace l2 : px_lg (px_s1 lv 9 (oI ((oS bb (a k) w) + 0))) 2 = some (.inr (.inl (Int64.ofInt ((A : Nat) : Int)))) := s1_ne (by decide) (fun z => absurd z (by decide)) l2
        replace l4 : px_lg (px_s1 lv 9 (oI ((oS bb (a k) w) + 0))) 4 = some (.inr (.inl (Int64.ofInt ((B : Nat) : Int)))) := s1_ne (by decide) (fun z => absurd z (by decide)) l4
        replace l6 : px_lg (px_s1 lv 9 (oI ((oS bb (a k) w) + 0))) 6 = some (oI (hn)) := s1_ne (by decide) (fun _ => rfl) l6
        replace l8 : px_lg (px_s1 lv 9 (oI ((oS bb (a k) w) + 0))) 8 = some (oI (tt)) := s1_ne (by decide) (fun _ => rfl) l8
        have l9 : px_lg (px_s1 lv 9 (oI ((oS bb (a k) w) + 0))) 9 = some (oI ((oS bb (a k) w) + 0)) := s1_eq
        generalize px_s1 lv 9 (oI ((oS bb (a k) w) + 0)) = lv3 at l0 l7 l10 l1 l2 l4 l6 l8 l9 ⊢
        show t_X d 195 114 lv3 [] g P
        refine t_2 vhb_114 rfl (w := (px_s1 lv3 10 (oI ((w : Int) + 1)), [])) (pq_inc l10 (by decide)) ?_
        replace l0 : px_lg (px_s1 lv3 10 (oI ((w : Int) + 1))) 0 = some (pvR 196) := s1_ne (by decide) (fun _ => rfl) l0
        replace l7 : px_lg (px_s1 lv3 10 (oI ((w : Int) + 1))) 7 = some (oI ((k : Int))) := s1_ne (by decide) (fun _ => rfl) l7
        replace l1 : px_lg (px_s1 lv3 10 (oI ((w : Int) + 1))) 1 = some (oI (what)) := s1_ne (by decide) (fun _ => rfl) l1
        replace l2 : px_lg (px_s1 lv3 10 (oI ((w : Int) + 1))) 2 = some (.inr (.inl (Int64.ofInt ((A : Nat) : Int)))) := s1_ne (by decide) (fun z => absurd z (by decide)) l2
        replace l4 : px_lg (px_s1 lv3 10 (oI ((w : Int) + 1))) 4 = some (.inr (.inl (Int64.ofInt ((B : Nat) : Int)))) := s1_ne (by decide) (fun z => absurd z (by decide)) l4
        replace l6 : px_lg (px_s1 lv3 10 (oI ((w : Int) + 1))) 6 = some (oI (hn)) := s1_ne (by decide) (fun _ => rfl) l6
        replace l8 : px_lg (px_s1 lv3 10 (oI ((w : Int) + 1))) 8 = some (oI (tt)) := s1_ne (by decide) (fun _ => rfl) l8
        replace l9 : px_lg (px_s1 lv3 10 (oI ((w : Int) + 1))) 9 = some (oI ((oS bb (a k) w) + 0)) := s1_ne (by decide) (fun _ => rfl) l9
        have l10 : px_lg (px_s1 lv3 10 (oI ((w : Int) + 1))) 10 = some (oI ((w : Int) + 1)) := s1_eq
        generalize px_s1 lv3 10 (oI ((w : Int) + 1)) = lv4 at l0 l7 l1 l2 l4 l6 l8 l9 l10 ⊢
        show t_X d 195 117 lv4 [] g P
        refine t_1 vhb_117 rfl (pb_goto (pc := 117) (by decide)) ?_
        show t_X d 195 79 lv4 [] g P
        have qb : bb w = false := by rw [ebb]; show (!alN pic w) = _; rw [q0]; rfl
        exact ih (w + 1) _ (by omega) (by omega) l0 l1 l2 l4 l6 l7 l8 (by rw [oS_f qb]; rw [show oS bb (a k) w + 0 = oS bb (a k) w by omega] at l9; exact l9) l10
      · show t_X d 195 97 lv [oI 0, oI (oS bb (a k) w)] g P
        refine tz_eq vhb_97 (by decide) ⟨by omega, by omega⟩ (fun c5 => ?_) (fun c5 => absurd c5 (by omega))
        show t_X d 195 104 lv [oI (oS bb (a k) w)] g P
        refine t_0 vhb_104 rfl (ld_a l0) ?_
        refine t_0 vhb_105 rfl (ygcq_196_55 hG) ?_
        show t_X d 195 108 lv [pvR 229, oI (oS bb (a k) w)] g P
        refine t_0 vhb_108 rfl (ld_i l10) ?_
        refine t_0 vhb_110 rfl (pq_iw ygez_229 rfl ⟨by omega, by omega⟩ (hH w hw)) ?_
        show t_X d 195 111 lv [oI (a k w), oI (oS bb (a k) w)] g P
        refine t_0 vhb_111 rfl pq_add ?_
        refine t_2 vhb_112 rfl (w := (px_s1 lv 9 (oI ((oS bb (a k) w) + (a k w))), [])) rfl ?_
        replace l0 : px_lg (px_s1 lv 9 (oI ((oS bb (a k) w) + (a k w)))) 0 = some (pvR 196) := s1_ne (by decide) (fun _ => rfl) l0
        replace l7 : px_lg (px_s1 lv 9 (oI ((oS bb (a k) w) + (a k w)))) 7 = some (oI ((k : Int))) := s1_ne (by decide) (fun _ => rfl) l7
        replace l10 : px_lg (px_s1 lv 9 (oI ((oS bb (a k) w) + (a k w)))) 10 = some (oI ((w : Int))) := s1_ne (by decide) (fun _ => rfl) l10
        replace l1 : px_lg (px_s1 lv 9 (oI ((oS bb (a k) w) + (a k w)))) 1 = some (oI (what)) := s1_ne (by decide) (fun _ => rfl) l1
        replace l2 : px_lg (px_s1 lv 9 (oI ((oS bb (a k) w) + (a k w)))) 2 = some (.inr (.inl (Int64.ofInt ((A : Nat) : Int)))) := s1_ne (by decide) (fun z => absurd z (by decide)) l2
        replace l4 : px_lg (px_s1 lv 9 (oI ((oS bb (a k) w) + (a k w)))) 4 = some (.inr (.inl (Int64.ofInt ((B : Nat) : Int)))) := s1_ne (by decide) (fun z => absurd z (by decide)) l4
        replace l6 : px_lg (px_s1 lv 9 (oI ((oS bb (a k) w) + (a k w)))) 6 = some (oI (hn)) := s1_ne (by decide) (fun _ => rfl) l6
        replace l8 : px_lg (px_s1 lv 9 (oI ((oS bb (a k) w) + (a k w)))) 8 = some (oI (tt)) := s1_ne (by decide) (fun _ => rfl) l8
        have l9 : px_lg (px_s1 lv 9 (oI ((oS bb (a k) w) + (a k w)))) 9 = some (oI ((oS bb (a k) w) + (a k w))) := s1_eq
        generalize px_s1 lv 9 (oI ((oS bb (a k) w) + (a k w))) = lv6 at l0 l7 l10 l1 l2 l4 l6 l8 l9 ⊢
        show t_X d 195 114 lv6 [] g P
        refine t_2 vhb_114 rfl (w := (px_s1 lv6 10 (oI ((w : Int) + 1)), [])) (pq_inc l10 (by decide)) ?_
        replace l0 : px_lg (px_s1 lv6 10 (oI ((w : Int) + 1))) 0 = some (pvR 196) := s1_ne (by decide) (fun _ => rfl) l0
        replace l7 : px_lg (px_s1 lv6 10 (oI ((w : Int) + 1))) 7 = some (oI ((k : Int))) := s1_ne (by decide) (fun _ => rfl) l7
        replace l1 : px_lg (px_s1 lv6 10 (oI ((w : Int) + 1))) 1 = some (oI (what)) := s1_ne (by decide) (fun _ => rfl) l1
        replace l2 : px_lg (px_s1 lv6 10 (oI ((w : Int) + 1))) 2 = some (.inr (.inl (Int64.ofInt ((A : Nat) : Int)))) := s1_ne (by decide) (fun z => absurd z (by decide)) l2
        replace l4 : px_lg (px_s1 lv6 10 (oI ((w : Int) + 1))) 4 = some (.inr (.inl (Int64.ofInt ((B : Nat) : Int)))) := s1_ne (by decide) (fun z => absurd z (by decide)) l4
        replace l6 : px_lg (px_s1 lv6 10 (oI ((w : Int) + 1))) 6 = some (oI (hn)) := s1_ne (by decide) (fun _ => rfl) l6
        replace l8 : px_lg (px_s1 lv6 10 (oI ((w : Int) + 1))) 8 = some (oI (tt)) := s1_ne (by decide) (fun _ => rfl) l8
        replace l9 : px_lg (px_s1 lv6 10 (oI ((w : Int) + 1))) 9 = some (oI ((oS bb (a k) w) + (a k w))) := s1_ne (by decide) (fun _ => rfl) l9
        have l10 : px_lg (px_s1 lv6 10 (oI ((w : Int) + 1))) 10 = some (oI ((w : Int) + 1)) := s1_eq
        generalize px_s1 lv6 10 (oI ((w : Int) + 1)) = lv7 at l0 l7 l1 l2 l4 l6 l8 l9 l10 ⊢
        show t_X d 195 117 lv7 [] g P
        refine t_1 vhb_117 rfl (pb_goto (pc := 117) (by decide)) ?_
        show t_X d 195 79 lv7 [] g P
        have qb : bb w = true := by rw [ebb]; show (!alN pic w) = _; rw [q0]; rfl
        exact ih (w + 1) _ (by omega) (by omega) l0 l1 l2 l4 l6 l7 l8 (by rw [oS_y qb]; exact l9) l10
    · skip
      refine t_0 vhb_79 rfl (ld_i l10) ?_
      refine t_0 vhb_81 rfl (pq_b (by decide)) ?_
      refine tb_ge vhb_83 (by decide) ⟨by omega, by omega⟩ ⟨by omega, by omega⟩ (fun c1 => ?_) (fun c1 => absurd c1 (by omega))
      show t_X d 195 120 lv [] g P
      obtain rfl : w = 8 := by omega
      exact hP _ l0 l1 l2 l4 l6 l7 l8 l9
set_option maxHeartbeats 1000000 in
theorem vhb_loop {k1 c : Int} {o v le st co en : tC} {d : Nat} (hd : 8 ≤ d) {g0 : pH} (hL : rLm g0 k1 c o v le st co en) {ki ma ta wo : Nat → Int} (hsd : ∀ m, m < 32 → sdM g0 m (ki m) (ma m) (ta m) (wo m)) {pic : Nat → tC} (hp : ∀ m, m < 32 → ∀ j : Nat, j < 25 → pic m j = fA g0 210 (25 * m + j)) (hpb : ∀ m j, -2147483648 ≤ pic m j ∧ pic m j ≤ 2147483647) {a : Nat → Nat → Int} {t r : Nat → Nat} {b : Nat → Bool} (ea : ∀ m, a m = (fun w : Nat => aV o v (qF m (ki m) (ma m) (ta m) (wo m) w) le st co en c 119 99)) (et : ∀ m, t m = (oS (fun _ => true) (a m) 8).toNat) (er : ∀ m, r m = (oS (fun w => !alN (pic m) w) (a m) 8).toNat) (eb : ∀ m, m < 32 → (b m = true ↔ bM g0 m)) {what : Int} {P : Option pv × pH → Prop} (hP : ∀ (g1 : pH) (A B N : Nat) (lv : List (Nat × pv)), hT t r b 32 = (A, B, N) → px_lg lv 1 = some (oI what) → px_lg lv 2 = some (.inr (.inl (Int64.ofInt ((rdA A B : Nat) : Int)))) → px_lg lv 4 = some (.inr (.inl (Int64.ofInt ((rdB A B : Nat) : Int)))) → t_X d 195 167 lv [] g1 P) : ∀ (n k A B N : Nat) (g : pH) (lv : List (Nat × pv)), 32 - k ≤ n → k ≤ 32 → J_ hW9 g0 g → hT t r b k = (A, B, N) → px_lg lv 0 = some (pvR 196) → px_lg lv 1 = some (oI what) → px_lg lv 2 = some (.inr (.inl (Int64.ofInt ((rdA A B : Nat) : Int)))) → px_lg lv 4 = some (.inr (.inl (Int64.ofInt ((rdB A B : Nat) : Int)))) → px_lg lv 6 = some (oI ((N : Nat) : Int)) → px_lg lv 7 = some (oI (k : Int)) → t_X d 195 24 lv [] g P := by
  have ha : ∀ m w, 0 ≤ a m w ∧ a m w ≤ 99 := fun m w => by rw [ea]; exact aV_b (by decide)
  have hrt : ∀ i, r i ≤ t i ∧ t i ≤ 792 := fun i => ⟨by rw [et, er]; have := oS_l (bb := fun w => !alN (pic i) w) (fun w => (ha i w).1) 8; omega, (oS_T (ha i) (et i)).2⟩
  intro n
  induction n with
  | zero =>
    intro k A B N g lv hr hk2 hJ he l0 l1 l2 l4 l6 l7
    refine t_0 vhb_24 rfl (ld_i l7) ?_
    refine t_0 vhb_26 rfl (pq_b (by decide)) ?_
    refine tb_ge vhb_28 (by decide) ⟨by omega, by omega⟩ ⟨by omega, by omega⟩ (fun c1 => ?_) (fun c1 => absurd c1 (by omega))
    show t_X d 195 167 lv [] g P
    obtain rfl : k = 32 := by omega
    exact hP g A B N _ he l1 l2 l4
  | succ n ih =>
    intro k A B N g lv hr hk2 hJ he l0 l1 l2 l4 l6 l7
    by_cases hk : k < 32
    · have tb := (oS_T (ha k) (et k)).2
      have rb := (oS_T (ha k) (er k)).2
      have hB1 := hT_b hrt k A B N he
      have hB0 := hB1.2.1
      by_cases h6 : N < 6
      · skip
        refine t_0 vhb_24 rfl (ld_i l7) ?_
        refine t_0 vhb_26 rfl (pq_b (by decide)) ?_
        refine tb_ge vhb_28 (by decide) ⟨by omega, by omega⟩ ⟨by omega, by omega⟩ (fun c1 => absurd c1 (by omega)) (fun c1 => ?_)
        show t_X d 195 31 lv [] g P
        refine t_0 vhb_31 rfl (ld_i l6) ?_
        refine t_0 vhb_33 rfl (pq_b (by decide)) ?_
        refine tb_ge vhb_35 (by decide) ⟨by omega, by omega⟩ ⟨by omega, by omega⟩ (fun c2 => absurd c2 (by omega)) (fun c2 => ?_)
        show t_X d 195 38 lv [] g P
        refine t_0 vhb_38 rfl (ld_a l0) ?_
        refine t_0 vhb_39 rfl (ld_i l7) ?_
        refine t_3 vhb_41 rfl (ar := ([pvR 196, oI ((k : Int))], [])) (pcal_w (as := [oI ((k : Int))]) rfl rfl rfl ygeo_196) ⟨by omega, Nat.le_of_ble_eq_true rfl, Nat.le_of_ble_eq_true rfl, rfl⟩ ?_
        refine it_run (by omega) (by omega) rfl rfl (fun m hm e1 c1 => ?_) (fun c1 => ?_)
        · obtain rfl : k = m := by omega
          have hbk : b k = true := (eb k hk).mpr (by unfold bM at c1 ⊢; rw [← (hJ.2.1 196 0 hW_0).1]; exact c1)
          show t_X d 195 44 lv [oI 1] g P
          refine tz_eq vhb_44 (by decide) ⟨by omega, by omega⟩ (fun c3 => absurd c3 (by omega)) (fun c3 => ?_)
          show t_X d 195 47 lv [] g P
          refine t_0 vhb_47 rfl (ld_a l0) ?_
          refine t_0 vhb_48 rfl (ld_i l7) ?_
          refine t_3 vhb_50 rfl (ar := ([pvR 196, oI ((k : Int))], [])) (pcal_w (as := [oI ((k : Int))]) rfl rfl rfl ygeo_196) ⟨by omega, Nat.le_of_ble_eq_true rfl, Nat.le_of_ble_eq_true rfl, rfl⟩ ?_
          refine vlg_run hk (sdM_f hJ.2 hW_n.2.2.2.2.1.1 hW_n.2.2.2.2.1.2.1 hW_n.2.2.2.2.1.2.2.1 hW_n.2.2.2.2.1.2.2.2.1 hW_n.2.2.2.2.2 (hsd k hk)) (rLm_f hJ.2 hW_n.2.2.2.1 hL) (ea k) (by omega) (fun gb4 J2 hH => ?_) hJ.1 rfl rfl
          have hJ2 := J_up hW_n.1.2 hJ J2
          clear hJ
          have hJ := hJ2
          clear hJ2 J2
          rw [(oS_T (ha k) (et k)).1]
          show t_X d 195 53 lv [oI (((t k : Nat) : Int))] gb4 P
          refine t_1 vhb_53 rfl (pb_goto (pc := 53) (by decide)) ?_
          show t_X d 195 57 lv [oI (((t k : Nat) : Int))] gb4 P
          refine t_2 vhb_57 rfl (w := (px_s1 lv 8 (oI (((t k : Nat) : Int))), [])) rfl ?_
          replace l0 : px_lg (px_s1 lv 8 (oI (((t k : Nat) : Int)))) 0 = some (pvR 196) := s1_ne (by decide) (fun _ => rfl) l0
          replace l1 : px_lg (px_s1 lv 8 (oI (((t k : Nat) : Int)))) 1 = some (oI (what)) := s1_ne (by decide) (fun _ => rfl) l1
          replace l2 : px_lg (px_s1 lv 8 (oI (((t k : Nat) : Int)))) 2 = some (.inr (.inl (Int64.ofInt ((rdA A B : Nat) : Int)))) := s1_ne (by decide) (fun z => absurd z (by decide)) l2
          replace l4 : px_lg (px_s1 lv 8 (oI (((t k : Nat) : Int)))) 4 = some (.inr (.inl (Int64.ofInt ((rdB A B : Nat) : Int)))) := s1_ne (by decide) (fun z => absurd z (by decide)) l4
          replace l6 : px_lg (px_s1 lv 8 (oI (((t k : Nat) : Int)))) 6 = some (oI (((N : Nat) : Int))) := s1_ne (by decide) (fun _ => rfl) l6
          replace l7 : px_lg (px_s1 lv 8 (oI (((t k : Nat) : Int)))) 7 = some (oI ((k : Int))) := s1_ne (by decide) (fun _ => rfl) l7
          have l8 : px_lg (px_s1 lv 8 (oI (((t k : Nat) : Int)))) 8 = some (oI (((t k : Nat) : Int))) := s1_eq
          generalize px_s1 lv 8 (oI (((t k : Nat) : Int))) = lv5 at l0 l1 l2 l4 l6 l7 l8 ⊢
          show t_X d 195 59 lv5 [] gb4 P
          refine t_0 vhb_59 rfl (ld_i l8) ?_
          refine tz_ne vhb_61 (by decide) ⟨by omega, by omega⟩ (fun c6 => ?_) (fun c6 => ?_)
          · show t_X d 195 67 lv5 [] gb4 P
            refine t_0 vhb_67 rfl (ld_i l6) ?_
            refine t_0 vhb_69 rfl rfl ?_
            refine t_0 vhb_70 rfl pq_add ?_
            refine t_2 vhb_71 rfl (w := (px_s1 lv5 6 (oI (((N : Nat) : Int) + 1)), [])) rfl ?_
            replace l0 : px_lg (px_s1 lv5 6 (oI (((N : Nat) : Int) + 1))) 0 = some (pvR 196) := s1_ne (by decide) (fun _ => rfl) l0
            replace l1 : px_lg (px_s1 lv5 6 (oI (((N : Nat) : Int) + 1))) 1 = some (oI (what)) := s1_ne (by decide) (fun _ => rfl) l1
            replace l2 : px_lg (px_s1 lv5 6 (oI (((N : Nat) : Int) + 1))) 2 = some (.inr (.inl (Int64.ofInt ((rdA A B : Nat) : Int)))) := s1_ne (by decide) (fun z => absurd z (by decide)) l2
            replace l4 : px_lg (px_s1 lv5 6 (oI (((N : Nat) : Int) + 1))) 4 = some (.inr (.inl (Int64.ofInt ((rdB A B : Nat) : Int)))) := s1_ne (by decide) (fun z => absurd z (by decide)) l4
            replace l7 : px_lg (px_s1 lv5 6 (oI (((N : Nat) : Int) + 1))) 7 = some (oI ((k : Int))) := s1_ne (by decide) (fun _ => rfl) l7
            replace l8 : px_lg (px_s1 lv5 6 (oI (((N : Nat) : Int) + 1))) 8 = some (oI (((t k : Nat) : Int))) := s1_ne (by decide) (fun _ => rfl) l8
            have l6 : px_lg (px_s1 lv5 6 (oI (((N : Nat) : Int) + 1))) 6 = some (oI (((N : Nat) : Int) + 1)) := s1_eq
            generalize px_s1 lv5 6 (oI (((N : Nat) : Int) + 1)) = lv7 at l0 l1 l2 l4 l7 l8 l6 ⊢
            show t_X d 195 73 lv7 [] gb4 P
            refine t_0 vhb_73 rfl rfl ?_
            refine t_2 vhb_74 rfl (w := (px_s1 lv7 9 (oI 0), [])) rfl ?_
            replace l0 : px_lg (px_s1 lv7 9 (oI 0)) 0 = some (pvR 196) := s1_ne (by decide) (fun _ => rfl) l0
            replace l1 : px_lg (px_s1 lv7 9 (oI 0)) 1 = some (oI (what)) := s1_ne (by decide) (fun _ => rfl) l1
            replace l2 : px_lg (px_s1 lv7 9 (oI 0)) 2 = some (.inr (.inl (Int64.ofInt ((rdA A B : Nat) : Int)))) := s1_ne (by decide) (fun z => absurd z (by decide)) l2
            replace l4 : px_lg (px_s1 lv7 9 (oI 0)) 4 = some (.inr (.inl (Int64.ofInt ((rdB A B : Nat) : Int)))) := s1_ne (by decide) (fun z => absurd z (by decide)) l4
            replace l7 : px_lg (px_s1 lv7 9 (oI 0)) 7 = some (oI ((k : Int))) := s1_ne (by decide) (fun _ => rfl) l7
            replace l8 : px_lg (px_s1 lv7 9 (oI 0)) 8 = some (oI (((t k : Nat) : Int))) := s1_ne (by decide) (fun _ => rfl) l8
            replace l6 : px_lg (px_s1 lv7 9 (oI 0)) 6 = some (oI (((N : Nat) : Int) + 1)) := s1_ne (by decide) (fun _ => rfl) l6
            have l9 : px_lg (px_s1 lv7 9 (oI 0)) 9 = some (oI 0) := s1_eq
            generalize px_s1 lv7 9 (oI 0) = lv8 at l0 l1 l2 l4 l7 l8 l6 l9 ⊢
            show t_X d 195 76 lv8 [] gb4 P
            refine t_0 vhb_76 rfl rfl ?_
            refine t_2 vhb_77 rfl (w := (px_s1 lv8 10 (oI 0), [])) rfl ?_
            replace l0 : px_lg (px_s1 lv8 10 (oI 0)) 0 = some (pvR 196) := s1_ne (by decide) (fun _ => rfl) l0
            replace l1 : px_lg (px_s1 lv8 10 (oI 0)) 1 = some (oI (what)) := s1_ne (by decide) (fun _ => rfl) l1
            replace l2 : px_lg (px_s1 lv8 10 (oI 0)) 2 = some (.inr (.inl (Int64.ofInt ((rdA A B : Nat) : Int)))) := s1_ne (by decide) (fun z => absurd z (by decide)) l2
            replace l4 : px_lg (px_s1 lv8 10 (oI 0)) 4 = some (.inr (.inl (Int64.ofInt ((rdB A B : Nat) : Int)))) := s1_ne (by decide) (fun z => absurd z (by decide)) l4
            replace l7 : px_lg (px_s1 lv8 10 (oI 0)) 7 = some (oI ((k : Int))) := s1_ne (by decide) (fun _ => rfl) l7
            replace l8 : px_lg (px_s1 lv8 10 (oI 0)) 8 = some (oI (((t k : Nat) : Int))) := s1_ne (by decide) (fun _ => rfl) l8
            replace l6 : px_lg (px_s1 lv8 10 (oI 0)) 6 = some (oI (((N : Nat) : Int) + 1)) := s1_ne (by decide) (fun _ => rfl) l6
            replace l9 : px_lg (px_s1 lv8 10 (oI 0)) 9 = some (oI 0) := s1_ne (by decide) (fun _ => rfl) l9
            have l10 : px_lg (px_s1 lv8 10 (oI 0)) 10 = some (oI 0) := s1_eq
            generalize px_s1 lv8 10 (oI 0) = lv9 at l0 l1 l2 l4 l7 l8 l6 l9 l10 ⊢
            show t_X d 195 79 lv9 [] gb4 P
            have hTn := hT_y he ⟨h6, hbk, by omega⟩
            have hb2 := hT_b hrt _ _ _ _ hTn
            have hc2 := hT_c hb2.1 hb2.2.2.1 hb2.2.2.2
            have hl := rd_l (A := A) (B := B)
            have n1 := Nat.mul_le_mul_right (t k) hl.1
            have n2 := Nat.mul_le_mul_right (r k) hl.2
            have n3 := Nat.mul_le_mul_right (t k) hl.2
            have hden : 0 < rdB A B * t k := Nat.mul_pos (Nat.pos_of_ne_zero (fun z => by have := (rd_m (a := A) hB0).2.1; rw [z, Nat.mul_zero] at this; omega)) (by omega)
            refine vhb_in hk (by omega) hJ.1 (pic := pic k) (fun j hj => by rw [fA_M hJ.2 hW_n.2.2.2.2.1.2.2.2.2.1]; exact hp k hk j hj) (hpb k) hH rfl (fun lv l0 l1 l2 l4 l6 l7 l8 l9 => ?_) 8 0 _ (by omega) (by omega) l0 l1 l2 l4 l6 l7 l8 l9 l10
            rw [(oS_T (ha k) (er k)).1] at l9
            show t_X d 195 120 lv [] gb4 P
            refine t_0 vhb_120 rfl (ld_l l2) ?_
            refine t_0 vhb_121 rfl (ld_i l8) ?_
            refine t_0 vhb_123 rfl (pq_il ⟨by omega, by omega⟩) ?_
            refine t_0 vhb_124 rfl pq_lm ?_
            refine t_0 vhb_125 rfl (ld_l l4) ?_
            refine t_0 vhb_127 rfl (ld_i l9) ?_
            refine t_0 vhb_129 rfl (pq_il ⟨by omega, by omega⟩) ?_
            refine t_0 vhb_130 rfl pq_lm ?_
            refine t_0 vhb_131 rfl pq_la9 ?_
            refine t_2 vhb_132 rfl (w := (px_s2 lv 10 (.inr (.inl (Int64.ofInt ((rdA A B * t k + rdB A B * r k : Nat) : Int)))), [])) rfl ?_
            replace l0 : px_lg (px_s2 lv 10 (.inr (.inl (Int64.ofInt ((rdA A B * t k + rdB A B * r k : Nat) : Int))))) 0 = some (pvR 196) := s2_ne (by decide) (fun _ => rfl) l0
            replace l1 : px_lg (px_s2 lv 10 (.inr (.inl (Int64.ofInt ((rdA A B * t k + rdB A B * r k : Nat) : Int))))) 1 = some (oI (what)) := s2_ne (by decide) (fun _ => rfl) l1
            replace l2 : px_lg (px_s2 lv 10 (.inr (.inl (Int64.ofInt ((rdA A B * t k + rdB A B * r k : Nat) : Int))))) 2 = some (.inr (.inl (Int64.ofInt ((rdA A B : Nat) : Int)))) := s2_ne (by decide) (fun z => absurd z (by decide)) l2
            replace l4 : px_lg (px_s2 lv 10 (.inr (.inl (Int64.ofInt ((rdA A B * t k + rdB A B * r k : Nat) : Int))))) 4 = some (.inr (.inl (Int64.ofInt ((rdB A B : Nat) : Int)))) := s2_ne (by decide) (fun z => absurd z (by decide)) l4
            replace l6 : px_lg (px_s2 lv 10 (.inr (.inl (Int64.ofInt ((rdA A B * t k + rdB A B * r k : Nat) : Int))))) 6 = some (oI (((N : Nat) : Int) + 1)) := s2_ne (by decide) (fun _ => rfl) l6
            replace l7 : px_lg (px_s2 lv 10 (.inr (.inl (Int64.ofInt ((rdA A B * t k + rdB A B * r k : Nat) : Int))))) 7 = some (oI ((k : Int))) := s2_ne (by decide) (fun _ => rfl) l7
            replace l8 : px_lg (px_s2 lv 10 (.inr (.inl (Int64.ofInt ((rdA A B * t k + rdB A B * r k : Nat) : Int))))) 8 = some (oI (((t k : Nat) : Int))) := s2_ne (by decide) (fun _ => rfl) l8
            replace l9 : px_lg (px_s2 lv 10 (.inr (.inl (Int64.ofInt ((rdA A B * t k + rdB A B * r k : Nat) : Int))))) 9 = some (oI (((r k : Nat) : Int))) := s2_ne (by decide) (fun _ => rfl) l9
            have l10 : px_lg (px_s2 lv 10 (.inr (.inl (Int64.ofInt ((rdA A B * t k + rdB A B * r k : Nat) : Int))))) 10 = some (.inr (.inl (Int64.ofInt ((rdA A B * t k + rdB A B * r k : Nat) : Int)))) := s2_eq
            generalize px_s2 lv 10 (.inr (.inl (Int64.ofInt ((rdA A B * t k + rdB A B * r k : Nat) : Int)))) = lv501 at l0 l1 l2 l4 l6 l7 l8 l9 l10 ⊢
            show t_X d 195 134 lv501 [] gb4 P
            refine t_0 vhb_134 rfl (ld_l l4) ?_
            refine t_0 vhb_136 rfl (ld_i l8) ?_
            refine t_0 vhb_138 rfl (pq_il ⟨by omega, by omega⟩) ?_
            refine t_0 vhb_139 rfl pq_lm ?_
            refine t_2 vhb_140 rfl (w := (px_s2 lv501 12 (.inr (.inl (Int64.ofInt ((rdB A B * t k : Nat) : Int)))), [])) rfl ?_
            replace l0 : px_lg (px_s2 lv501 12 (.inr (.inl (Int64.ofInt ((rdB A B * t k : Nat) : Int))))) 0 = some (pvR 196) := s2_ne (by decide) (fun _ => rfl) l0
            replace l1 : px_lg (px_s2 lv501 12 (.inr (.inl (Int64.ofInt ((rdB A B * t k : Nat) : Int))))) 1 = some (oI (what)) := s2_ne (by decide) (fun _ => rfl) l1
            replace l2 : px_lg (px_s2 lv501 12 (.inr (.inl (Int64.ofInt ((rdB A B * t k : Nat) : Int))))) 2 = some (.inr (.inl (Int64.ofInt ((rdA A B : Nat) : Int)))) := s2_ne (by decide) (fun z => absurd z (by decide)) l2
            replace l4 : px_lg (px_s2 lv501 12 (.inr (.inl (Int64.ofInt ((rdB A B * t k : Nat) : Int))))) 4 = some (.inr (.inl (Int64.ofInt ((rdB A B : Nat) : Int)))) := s2_ne (by decide) (fun z => absurd z (by decide)) l4
            replace l6 : px_lg (px_s2 lv501 12 (.inr (.inl (Int64.ofInt ((rdB A B * t k : Nat) : Int))))) 6 = some (oI (((N : Nat) : Int) + 1)) := s2_ne (by decide) (fun _ => rfl) l6
            replace l7 : px_lg (px_s2 lv501 12 (.inr (.inl (Int64.ofInt ((rdB A B * t k : Nat) : Int))))) 7 = some (oI ((k : Int))) := s2_ne (by decide) (fun _ => rfl) l7
            replace l8 : px_lg (px_s2 lv501 12 (.inr (.inl (Int64.ofInt ((rdB A B * t k : Nat) : Int))))) 8 = some (oI (((t k : Nat) : Int))) := s2_ne (by decide) (fun _ => rfl) l8
            replace l9 : px_lg (px_s2 lv501 12 (.inr (.inl (Int64.ofInt ((rdB A B * t k : Nat) : Int))))) 9 = some (oI (((r k : Nat) : Int))) := s2_ne (by decide) (fun _ => rfl) l9
            replace l10 : px_lg (px_s2 lv501 12 (.inr (.inl (Int64.ofInt ((rdB A B * t k : Nat) : Int))))) 10 = some (.inr (.inl (Int64.ofInt ((rdA A B * t k + rdB A B * r k : Nat) : Int)))) := s2_ne (by decide) (fun z => absurd z (by decide)) l10
            have l12 : px_lg (px_s2 lv501 12 (.inr (.inl (Int64.ofInt ((rdB A B * t k : Nat) : Int))))) 12 = some (.inr (.inl (Int64.ofInt ((rdB A B * t k : Nat) : Int)))) := s2_eq
            generalize px_s2 lv501 12 (.inr (.inl (Int64.ofInt ((rdB A B * t k : Nat) : Int)))) = lv502 at l0 l1 l2 l4 l6 l7 l8 l9 l10 l12 ⊢
            show t_X d 195 142 lv502 [] gb4 P
            refine t_0 vhb_142 rfl (ld_l l10) ?_
            refine t_0 vhb_144 rfl (ld_l l12) ?_
            refine t_0 vhb_146 rfl rfl ?_
            refine t_3 vhb_147 rfl (ar := ([.inr (.inl (Int64.ofInt ((rdA A B * t k + rdB A B * r k : Nat) : Int))), .inr (.inl (Int64.ofInt ((rdB A B * t k : Nat) : Int))), oI 0], [])) (pcal_s ⟨Or.inl rfl, rfl, Nat.le_of_ble_eq_true rfl⟩) ⟨by omega, Nat.le_of_ble_eq_true rfl, Nat.le_of_ble_eq_true rfl, rfl⟩ ?_
            refine vth_r0 (by omega) (by omega) (by omega) (gD_l (by omega)) (Or.inr hden) ?_ rfl rfl rfl
            rw [(gS_a (by omega)).1]
            show t_X d 195 150 lv502 [.inr (.inl (Int64.ofInt ((rdA (rdA A B * t k + rdB A B * r k) (rdB A B * t k) : Nat) : Int)))] gb4 P
            refine t_2 vhb_150 rfl (w := (px_s2 lv502 2 (.inr (.inl (Int64.ofInt ((rdA (rdA A B * t k + rdB A B * r k) (rdB A B * t k) : Nat) : Int)))), [])) rfl ?_
            replace l0 : px_lg (px_s2 lv502 2 (.inr (.inl (Int64.ofInt ((rdA (rdA A B * t k + rdB A B * r k) (rdB A B * t k) : Nat) : Int))))) 0 = some (pvR 196) := s2_ne (by decide) (fun _ => rfl) l0
            replace l1 : px_lg (px_s2 lv502 2 (.inr (.inl (Int64.ofInt ((rdA (rdA A B * t k + rdB A B * r k) (rdB A B * t k) : Nat) : Int))))) 1 = some (oI (what)) := s2_ne (by decide) (fun _ => rfl) l1
            replace l4 : px_lg (px_s2 lv502 2 (.inr (.inl (Int64.ofInt ((rdA (rdA A B * t k + rdB A B * r k) (rdB A B * t k) : Nat) : Int))))) 4 = some (.inr (.inl (Int64.ofInt ((rdB A B : Nat) : Int)))) := s2_ne (by decide) (fun z => absurd z (by decide)) l4
            replace l6 : px_lg (px_s2 lv502 2 (.inr (.inl (Int64.ofInt ((rdA (rdA A B * t k + rdB A B * r k) (rdB A B * t k) : Nat) : Int))))) 6 = some (oI (((N : Nat) : Int) + 1)) := s2_ne (by decide) (fun _ => rfl) l6
            replace l7 : px_lg (px_s2 lv502 2 (.inr (.inl (Int64.ofInt ((rdA (rdA A B * t k + rdB A B * r k) (rdB A B * t k) : Nat) : Int))))) 7 = some (oI ((k : Int))) := s2_ne (by decide) (fun _ => rfl) l7
            replace l8 : px_lg (px_s2 lv502 2 (.inr (.inl (Int64.ofInt ((rdA (rdA A B * t k + rdB A B * r k) (rdB A B * t k) : Nat) : Int))))) 8 = some (oI (((t k : Nat) : Int))) := s2_ne (by decide) (fun _ => rfl) l8
            replace l9 : px_lg (px_s2 lv502 2 (.inr (.inl (Int64.ofInt ((rdA (rdA A B * t k + rdB A B * r k) (rdB A B * t k) : Nat) : Int))))) 9 = some (oI (((r k : Nat) : Int))) := s2_ne (by decide) (fun _ => rfl) l9
            replace l10 : px_lg (px_s2 lv502 2 (.inr (.inl (Int64.ofInt ((rdA (rdA A B * t k + rdB A B * r k) (rdB A B * t k) : Nat) : Int))))) 10 = some (.inr (.inl (Int64.ofInt ((rdA A B * t k + rdB A B * r k : Nat) : Int)))) := s2_ne (by decide) (fun z => absurd z (by decide)) l10
            replace l12 : px_lg (px_s2 lv502 2 (.inr (.inl (Int64.ofInt ((rdA (rdA A B * t k + rdB A B * r k) (rdB A B * t k) : Nat) : Int))))) 12 = some (.inr (.inl (Int64.ofInt ((rdB A B * t k : Nat) : Int)))) := s2_ne (by decide) (fun z => absurd z (by decide)) l12
            have l2 : px_lg (px_s2 lv502 2 (.inr (.inl (Int64.ofInt ((rdA (rdA A B * t k + rdB A B * r k) (rdB A B * t k) : Nat) : Int))))) 2 = some (.inr (.inl (Int64.ofInt ((rdA (rdA A B * t k + rdB A B * r k) (rdB A B * t k) : Nat) : Int)))) := s2_eq
            generalize px_s2 lv502 2 (.inr (.inl (Int64.ofInt ((rdA (rdA A B * t k + rdB A B * r k) (rdB A B * t k) : Nat) : Int)))) = lv503 at l0 l1 l4 l6 l7 l8 l9 l10 l12 l2 ⊢
            show t_X d 195 151 lv503 [] gb4 P
            refine t_0 vhb_151 rfl (ld_l l10) ?_
            refine t_0 vhb_153 rfl (ld_l l12) ?_
            refine t_0 vhb_155 rfl rfl ?_
            refine t_3 vhb_156 rfl (ar := ([.inr (.inl (Int64.ofInt ((rdA A B * t k + rdB A B * r k : Nat) : Int))), .inr (.inl (Int64.ofInt ((rdB A B * t k : Nat) : Int))), oI 1], [])) (pcal_s ⟨Or.inl rfl, rfl, Nat.le_of_ble_eq_true rfl⟩) ⟨by omega, Nat.le_of_ble_eq_true rfl, Nat.le_of_ble_eq_true rfl, rfl⟩ ?_
            refine vth_r1 (by omega) (by omega) (by omega) (gD_l (by omega)) (Or.inr hden) ?_ rfl rfl rfl
            rw [(gS_a (by omega)).2]
            show t_X d 195 159 lv503 [.inr (.inl (Int64.ofInt ((rdB (rdA A B * t k + rdB A B * r k) (rdB A B * t k) : Nat) : Int)))] gb4 P
            refine t_2 vhb_159 rfl (w := (px_s2 lv503 4 (.inr (.inl (Int64.ofInt ((rdB (rdA A B * t k + rdB A B * r k) (rdB A B * t k) : Nat) : Int)))), [])) rfl ?_
            replace l0 : px_lg (px_s2 lv503 4 (.inr (.inl (Int64.ofInt ((rdB (rdA A B * t k + rdB A B * r k) (rdB A B * t k) : Nat) : Int))))) 0 = some (pvR 196) := s2_ne (by decide) (fun _ => rfl) l0
            replace l1 : px_lg (px_s2 lv503 4 (.inr (.inl (Int64.ofInt ((rdB (rdA A B * t k + rdB A B * r k) (rdB A B * t k) : Nat) : Int))))) 1 = some (oI (what)) := s2_ne (by decide) (fun _ => rfl) l1
            replace l6 : px_lg (px_s2 lv503 4 (.inr (.inl (Int64.ofInt ((rdB (rdA A B * t k + rdB A B * r k) (rdB A B * t k) : Nat) : Int))))) 6 = some (oI (((N : Nat) : Int) + 1)) := s2_ne (by decide) (fun _ => rfl) l6
            replace l7 : px_lg (px_s2 lv503 4 (.inr (.inl (Int64.ofInt ((rdB (rdA A B * t k + rdB A B * r k) (rdB A B * t k) : Nat) : Int))))) 7 = some (oI ((k : Int))) := s2_ne (by decide) (fun _ => rfl) l7
            replace l8 : px_lg (px_s2 lv503 4 (.inr (.inl (Int64.ofInt ((rdB (rdA A B * t k + rdB A B * r k) (rdB A B * t k) : Nat) : Int))))) 8 = some (oI (((t k : Nat) : Int))) := s2_ne (by decide) (fun _ => rfl) l8
            replace l9 : px_lg (px_s2 lv503 4 (.inr (.inl (Int64.ofInt ((rdB (rdA A B * t k + rdB A B * r k) (rdB A B * t k) : Nat) : Int))))) 9 = some (oI (((r k : Nat) : Int))) := s2_ne (by decide) (fun _ => rfl) l9
            replace l10 : px_lg (px_s2 lv503 4 (.inr (.inl (Int64.ofInt ((rdB (rdA A B * t k + rdB A B * r k) (rdB A B * t k) : Nat) : Int))))) 10 = some (.inr (.inl (Int64.ofInt ((rdA A B * t k + rdB A B * r k : Nat) : Int)))) := s2_ne (by decide) (fun z => absurd z (by decide)) l10
            replace l12 : px_lg (px_s2 lv503 4 (.inr (.inl (Int64.ofInt ((rdB (rdA A B * t k + rdB A B * r k) (rdB A B * t k) : Nat) : Int))))) 12 = some (.inr (.inl (Int64.ofInt ((rdB A B * t k : Nat) : Int)))) := s2_ne (by decide) (fun z => absurd z (by decide)) l12
            replace l2 : px_lg (px_s2 lv503 4 (.inr (.inl (Int64.ofInt ((rdB (rdA A B * t k + rdB A B * r k) (rdB A B * t k) : Nat) : Int))))) 2 = some (.inr (.inl (Int64.ofInt ((rdA (rdA A B * t k + rdB A B * r k) (rdB A B * t k) : Nat) : Int)))) := s2_ne (by decide) (fun z => absurd z (by decide)) l2
            have l4 : px_lg (px_s2 lv503 4 (.inr (.inl (Int64.ofInt ((rdB (rdA A B * t k + rdB A B * r k) (rdB A B * t k) : Nat) : Int))))) 4 = some (.inr (.inl (Int64.ofInt ((rdB (rdA A B * t k + rdB A B * r k) (rdB A B * t k) : Nat) : Int)))) := s2_eq
            generalize px_s2 lv503 4 (.inr (.inl (Int64.ofInt ((rdB (rdA A B * t k + rdB A B * r k) (rdB A B * t k) : Nat) : Int)))) = lv504 at l0 l1 l6 l7 l8 l9 l10 l12 l2 l4 ⊢
            show t_X d 195 161 lv504 [] gb4 P
            refine t_2 vhb_161 rfl (w := (px_s1 lv504 7 (oI ((k : Int) + 1)), [])) (pq_inc l7 (by decide)) ?_
            replace l0 : px_lg (px_s1 lv504 7 (oI ((k : Int) + 1))) 0 = some (pvR 196) := s1_ne (by decide) (fun _ => rfl) l0
            replace l1 : px_lg (px_s1 lv504 7 (oI ((k : Int) + 1))) 1 = some (oI (what)) := s1_ne (by decide) (fun _ => rfl) l1
            replace l6 : px_lg (px_s1 lv504 7 (oI ((k : Int) + 1))) 6 = some (oI (((N : Nat) : Int) + 1)) := s1_ne (by decide) (fun _ => rfl) l6
            replace l8 : px_lg (px_s1 lv504 7 (oI ((k : Int) + 1))) 8 = some (oI (((t k : Nat) : Int))) := s1_ne (by decide) (fun _ => rfl) l8
            replace l9 : px_lg (px_s1 lv504 7 (oI ((k : Int) + 1))) 9 = some (oI (((r k : Nat) : Int))) := s1_ne (by decide) (fun _ => rfl) l9
            replace l10 : px_lg (px_s1 lv504 7 (oI ((k : Int) + 1))) 10 = some (.inr (.inl (Int64.ofInt ((rdA A B * t k + rdB A B * r k : Nat) : Int)))) := s1_ne (by decide) (fun z => absurd z (by decide)) l10
            replace l12 : px_lg (px_s1 lv504 7 (oI ((k : Int) + 1))) 12 = some (.inr (.inl (Int64.ofInt ((rdB A B * t k : Nat) : Int)))) := s1_ne (by decide) (fun z => absurd z (by decide)) l12
            replace l2 : px_lg (px_s1 lv504 7 (oI ((k : Int) + 1))) 2 = some (.inr (.inl (Int64.ofInt ((rdA (rdA A B * t k + rdB A B * r k) (rdB A B * t k) : Nat) : Int)))) := s1_ne (by decide) (fun z => absurd z (by decide)) l2
            replace l4 : px_lg (px_s1 lv504 7 (oI ((k : Int) + 1))) 4 = some (.inr (.inl (Int64.ofInt ((rdB (rdA A B * t k + rdB A B * r k) (rdB A B * t k) : Nat) : Int)))) := s1_ne (by decide) (fun z => absurd z (by decide)) l4
            have l7 : px_lg (px_s1 lv504 7 (oI ((k : Int) + 1))) 7 = some (oI ((k : Int) + 1)) := s1_eq
            generalize px_s1 lv504 7 (oI ((k : Int) + 1)) = lv505 at l0 l1 l6 l8 l9 l10 l12 l2 l4 l7 ⊢
            show t_X d 195 164 lv505 [] gb4 P
            refine t_1 vhb_164 rfl (pb_goto (pc := 164) (by decide)) ?_
            show t_X d 195 24 lv505 [] gb4 P
            exact ih (k + 1) _ _ _ gb4 _ (by omega) (by omega) hJ hTn l0 l1 (by rw [← (rd_n hB0).1]; exact l2) (by rw [← (rd_n hB0).2]; exact l4) l6 l7
          · show t_X d 195 64 lv5 [] gb4 P
            refine t_1 vhb_64 rfl (pb_goto (pc := 64) (by decide)) ?_
            show t_X d 195 161 lv5 [] gb4 P
            refine t_2 vhb_161 rfl (w := (px_s1 lv5 7 (oI ((k : Int) + 1)), [])) (pq_inc l7 (by decide)) ?_
            replace l0 : px_lg (px_s1 lv5 7 (oI ((k : Int) + 1))) 0 = some (pvR 196) := s1_ne (by decide) (fun _ => rfl) l0
            replace l1 : px_lg (px_s1 lv5 7 (oI ((k : Int) + 1))) 1 = some (oI (what)) := s1_ne (by decide) (fun _ => rfl) l1
            replace l2 : px_lg (px_s1 lv5 7 (oI ((k : Int) + 1))) 2 = some (.inr (.inl (Int64.ofInt ((rdA A B : Nat) : Int)))) := s1_ne (by decide) (fun z => absurd z (by decide)) l2
            replace l4 : px_lg (px_s1 lv5 7 (oI ((k : Int) + 1))) 4 = some (.inr (.inl (Int64.ofInt ((rdB A B : Nat) : Int)))) := s1_ne (by decide) (fun z => absurd z (by decide)) l4
            replace l6 : px_lg (px_s1 lv5 7 (oI ((k : Int) + 1))) 6 = some (oI (((N : Nat) : Int))) := s1_ne (by decide) (fun _ => rfl) l6
            replace l8 : px_lg (px_s1 lv5 7 (oI ((k : Int) + 1))) 8 = some (oI (((t k : Nat) : Int))) := s1_ne (by decide) (fun _ => rfl) l8
            have l7 : px_lg (px_s1 lv5 7 (oI ((k : Int) + 1))) 7 = some (oI ((k : Int) + 1)) := s1_eq
            generalize px_s1 lv5 7 (oI ((k : Int) + 1)) = lv10 at l0 l1 l2 l4 l6 l8 l7 ⊢
            show t_X d 195 164 lv10 [] gb4 P
            refine t_1 vhb_164 rfl (pb_goto (pc := 164) (by decide)) ?_
            show t_X d 195 24 lv10 [] gb4 P
            exact ih (k + 1) _ _ _ gb4 _ (by omega) (by omega) hJ (hT_n he (fun z => by omega)) l0 l1 l2 l4 l6 l7
        · show t_X d 195 44 lv [oI 0] g P
          refine tz_eq vhb_44 (by decide) ⟨by omega, by omega⟩ (fun c11 => ?_) (fun c11 => absurd c11 (by omega))
          show t_X d 195 56 lv [] g P
          refine t_0 vhb_56 rfl rfl ?_
          refine t_2 vhb_57 rfl (w := (px_s1 lv 8 (oI 0), [])) rfl ?_
          replace l0 : px_lg (px_s1 lv 8 (oI 0)) 0 = some (pvR 196) := s1_ne (by decide) (fun _ => rfl) l0
          replace l1 : px_lg (px_s1 lv 8 (oI 0)) 1 = some (oI (what)) := s1_ne (by decide) (fun _ => rfl) l1
          replace l2 : px_lg (px_s1 lv 8 (oI 0)) 2 = some (.inr (.inl (Int64.ofInt ((rdA A B : Nat) : Int)))) := s1_ne (by decide) (fun z => absurd z (by decide)) l2
          replace l4 : px_lg (px_s1 lv 8 (oI 0)) 4 = some (.inr (.inl (Int64.ofInt ((rdB A B : Nat) : Int)))) := s1_ne (by decide) (fun z => absurd z (by decide)) l4
          replace l6 : px_lg (px_s1 lv 8 (oI 0)) 6 = some (oI (((N : Nat) : Int))) := s1_ne (by decide) (fun _ => rfl) l6
          replace l7 : px_lg (px_s1 lv 8 (oI 0)) 7 = some (oI ((k : Int))) := s1_ne (by decide) (fun _ => rfl) l7
          have l8 : px_lg (px_s1 lv 8 (oI 0)) 8 = some (oI 0) := s1_eq
          generalize px_s1 lv 8 (oI 0) = lv12 at l0 l1 l2 l4 l6 l7 l8 ⊢
          show t_X d 195 59 lv12 [] g P
          refine t_0 vhb_59 rfl (ld_i l8) ?_
          refine tz_ne vhb_61 (by decide) ⟨by omega, by omega⟩ (fun c13 => absurd c13 (by omega)) (fun c13 => ?_)
          show t_X d 195 64 lv12 [] g P
          refine t_1 vhb_64 rfl (pb_goto (pc := 64) (by decide)) ?_
          show t_X d 195 161 lv12 [] g P
          refine t_2 vhb_161 rfl (w := (px_s1 lv12 7 (oI ((k : Int) + 1)), [])) (pq_inc l7 (by decide)) ?_
          replace l0 : px_lg (px_s1 lv12 7 (oI ((k : Int) + 1))) 0 = some (pvR 196) := s1_ne (by decide) (fun _ => rfl) l0
          replace l1 : px_lg (px_s1 lv12 7 (oI ((k : Int) + 1))) 1 = some (oI (what)) := s1_ne (by decide) (fun _ => rfl) l1
          replace l2 : px_lg (px_s1 lv12 7 (oI ((k : Int) + 1))) 2 = some (.inr (.inl (Int64.ofInt ((rdA A B : Nat) : Int)))) := s1_ne (by decide) (fun z => absurd z (by decide)) l2
          replace l4 : px_lg (px_s1 lv12 7 (oI ((k : Int) + 1))) 4 = some (.inr (.inl (Int64.ofInt ((rdB A B : Nat) : Int)))) := s1_ne (by decide) (fun z => absurd z (by decide)) l4
          replace l6 : px_lg (px_s1 lv12 7 (oI ((k : Int) + 1))) 6 = some (oI (((N : Nat) : Int))) := s1_ne (by decide) (fun _ => rfl) l6
          replace l8 : px_lg (px_s1 lv12 7 (oI ((k : Int) + 1))) 8 = some (oI 0) := s1_ne (by decide) (fun _ => rfl) l8
          have l7 : px_lg (px_s1 lv12 7 (oI ((k : Int) + 1))) 7 = some (oI ((k : Int) + 1)) := s1_eq
          generalize px_s1 lv12 7 (oI ((k : Int) + 1)) = lv14 at l0 l1 l2 l4 l6 l8 l7 ⊢
          show t_X d 195 164 lv14 [] g P
          refine t_1 vhb_164 rfl (pb_goto (pc := 164) (by decide)) ?_
          show t_X d 195 24 lv14 [] g P
          exact ih (k + 1) _ _ _ g _ (by omega) (by omega) hJ (hT_n he (fun z => c1 ⟨k, hk, rfl, by have z1 := (eb k hk).mp z.2.1; unfold bM at z1 ⊢; rw [(hJ.2.1 196 0 hW_0).1]; exact z1⟩)) l0 l1 l2 l4 l6 l7
      · skip
        refine t_0 vhb_24 rfl (ld_i l7) ?_
        refine t_0 vhb_26 rfl (pq_b (by decide)) ?_
        refine tb_ge vhb_28 (by decide) ⟨by omega, by omega⟩ ⟨by omega, by omega⟩ (fun c1 => absurd c1 (by omega)) (fun c1 => ?_)
        show t_X d 195 31 lv [] g P
        refine t_0 vhb_31 rfl (ld_i l6) ?_
        refine t_0 vhb_33 rfl (pq_b (by decide)) ?_
        refine tb_ge vhb_35 (by decide) ⟨by omega, by omega⟩ ⟨by omega, by omega⟩ (fun c2 => ?_) (fun c2 => absurd c2 (by omega))
        show t_X d 195 167 lv [] g P
        exact hP g A B N _ (by have z := hT_6 he (by omega) (32 - k); rw [show k + (32 - k) = 32 by omega] at z; exact z) l1 l2 l4
    · skip
      refine t_0 vhb_24 rfl (ld_i l7) ?_
      refine t_0 vhb_26 rfl (pq_b (by decide)) ?_
      refine tb_ge vhb_28 (by decide) ⟨by omega, by omega⟩ ⟨by omega, by omega⟩ (fun c1 => ?_) (fun c1 => absurd c1 (by omega))
      show t_X d 195 167 lv [] g P
      obtain rfl : k = 32 := by omega
      exact hP g A B N _ he l1 l2 l4
theorem vhb_e0 {A B : Nat} {d : Nat} {g : pH} {P : Option pv × pH → Prop} (hP : P (some (.inr (.inl (Int64.ofInt ((rdA A B : Nat) : Int)))), g)) {lv : List (Nat × pv)} (l1 : px_lg lv 1 = some (oI 0)) (l2 : px_lg lv 2 = some (.inr (.inl (Int64.ofInt ((rdA A B : Nat) : Int))))) (l4 : px_lg lv 4 = some (.inr (.inl (Int64.ofInt ((rdB A B : Nat) : Int))))) : t_X d 195 167 lv [] g P := by
  refine t_0 vhb_167 rfl (ld_i l1) ?_
  refine tz_ne vhb_168 (by decide) ⟨by omega, by omega⟩ (fun c1 => absurd c1 (by omega)) (fun c1 => ?_)
  show t_X d 195 171 lv [] g P
  refine t_0 vhb_171 rfl (ld_l l2) ?_
  refine t_1 vhb_172 rfl (pb_goto (pc := 172) (by decide)) ?_
  show t_X d 195 177 lv [.inr (.inl (Int64.ofInt ((rdA A B : Nat) : Int)))] g P
  refine t_5 vhb_177 rfl rfl ?_
  exact hP
theorem vhb_e1 {A B : Nat} {d : Nat} {g : pH} {P : Option pv × pH → Prop} (hP : P (some (.inr (.inl (Int64.ofInt ((rdB A B : Nat) : Int)))), g)) {lv : List (Nat × pv)} (l1 : px_lg lv 1 = some (oI 1)) (l2 : px_lg lv 2 = some (.inr (.inl (Int64.ofInt ((rdA A B : Nat) : Int))))) (l4 : px_lg lv 4 = some (.inr (.inl (Int64.ofInt ((rdB A B : Nat) : Int))))) : t_X d 195 167 lv [] g P := by
  refine t_0 vhb_167 rfl (ld_i l1) ?_
  refine tz_ne vhb_168 (by decide) ⟨by omega, by omega⟩ (fun c1 => ?_) (fun c1 => absurd c1 (by omega))
  show t_X d 195 175 lv [] g P
  refine t_0 vhb_175 rfl (ld_l l4) ?_
  refine t_5 vhb_177 rfl rfl ?_
  exact hP
theorem vha_run {K : Nat} (hK : lK K) {k1 c : Int} {o v le st co en : tC} {d : Nat} (hd : 7 ≤ d) {g0 : pH} (hSr : rS g0) (r0 : g0.2.2.1 164 0 = some K) (hL : rLc g0 K k1 c o v le st co en) (hal : ∀ m, m < 32 → cF g0 (4 + 2 * m) 2 = 1 → cF g0 (4 + 2 * m) 8 = alB (fA g0 (5 + 2 * m)) 8) {a : Nat → Nat → Int} {t r : Nat → Nat} {b : Nat → Bool} (ea : ∀ m, a m = (fun w : Nat => aV o v (qF m (cF g0 (4 + 2 * m) 3) (cF g0 (4 + 2 * m) 4) (cF g0 (4 + 2 * m) 6) (cF g0 (4 + 2 * m) 5) w) le st co en c 119 99)) (et : ∀ m, t m = (oS (fun _ => true) (a m) 8).toNat) (er : ∀ m, r m = (oS (fun w => !alN (fA g0 (5 + 2 * m)) w) (a m) 8).toNat) (eb : ∀ m, b m = decide (cF g0 (4 + 2 * m) 2 = 1)) {what : Int} {P : Option pv × pH → Prop} (hG : g_I eG g0) (hw : -2147483648 ≤ what ∧ what ≤ 2147483647) (hA : 0 ≤ what ∧ what ≤ 1 → ∀ g1 : pH, J_ (cW K) g0 g1 → ∀ (A B N : Nat) (lv : List (Nat × pv)), hT t r b 32 = (A, B, N) → px_lg lv 1 = some (oI what) → px_lg lv 2 = some (.inr (.inl (Int64.ofInt ((A : Nat) : Int)))) → px_lg lv 4 = some (.inr (.inl (Int64.ofInt ((B : Nat) : Int)))) → t_X d 121 128 lv [] g1 P) (hR : ¬ (0 ≤ what ∧ what ≤ 1) → P (some (.inr (.inl (xe_k 9223372036854775807))), g0)) {lv : List (Nat × pv)} (l0 : px_lg lv 0 = some (pvR 0)) (l1 : px_lg lv 1 = some (oI what)) : t_X d 121 0 lv [] g0 P := by
  refine t_0 vha_0 rfl (ld_i l1) ?_
  refine t_0 vha_1 rfl rfl ?_
  refine t_0 vha_2 rfl rfl ?_
  refine t_3 vha_3 rfl (ar := ([oI (what), oI 0, oI 1], [])) (pcal_s ⟨Or.inl rfl, rfl, Nat.le_of_ble_eq_true rfl⟩) ⟨by omega, Nat.le_of_ble_eq_true rfl, Nat.le_of_ble_eq_true rfl, rfl⟩ ?_
  refine ii_run ⟨by omega, by omega⟩ ⟨by omega, by omega⟩ ⟨by omega, by omega⟩ rfl rfl rfl (fun t1 => ?_) (fun t1 => ?_)
  · show t_X d 121 6 lv [oI 1] g0 P
    refine tz_ne vha_6 (by decide) ⟨by omega, by omega⟩ (fun c2 => ?_) (fun c2 => absurd c2 (by omega))
    show t_X d 121 13 lv [] g0 P
    refine t_0 vha_13 rfl rfl ?_
    refine t_2 vha_14 rfl (w := (px_s2 lv 2 (.inr (.inl (Int64.ofNat 0))), [])) rfl ?_
    replace l0 : px_lg (px_s2 lv 2 (.inr (.inl (Int64.ofNat 0)))) 0 = some (pvR 0) := s2_ne (by decide) (fun _ => rfl) l0
    replace l1 : px_lg (px_s2 lv 2 (.inr (.inl (Int64.ofNat 0)))) 1 = some (oI (what)) := s2_ne (by decide) (fun _ => rfl) l1
    have l2 : px_lg (px_s2 lv 2 (.inr (.inl (Int64.ofNat 0)))) 2 = some (.inr (.inl (Int64.ofNat 0))) := s2_eq
    generalize px_s2 lv 2 (.inr (.inl (Int64.ofNat 0))) = lv3 at l0 l1 l2 ⊢
    show t_X d 121 15 lv3 [] g0 P
    refine t_0 vha_15 rfl rfl ?_
    refine t_2 vha_16 rfl (w := (px_s2 lv3 4 (.inr (.inl (Int64.ofNat 1))), [])) rfl ?_
    replace l0 : px_lg (px_s2 lv3 4 (.inr (.inl (Int64.ofNat 1)))) 0 = some (pvR 0) := s2_ne (by decide) (fun _ => rfl) l0
    replace l1 : px_lg (px_s2 lv3 4 (.inr (.inl (Int64.ofNat 1)))) 1 = some (oI (what)) := s2_ne (by decide) (fun _ => rfl) l1
    replace l2 : px_lg (px_s2 lv3 4 (.inr (.inl (Int64.ofNat 1)))) 2 = some (.inr (.inl (Int64.ofNat 0))) := s2_ne (by decide) (fun z => absurd z (by decide)) l2
    have l4 : px_lg (px_s2 lv3 4 (.inr (.inl (Int64.ofNat 1)))) 4 = some (.inr (.inl (Int64.ofNat 1))) := s2_eq
    generalize px_s2 lv3 4 (.inr (.inl (Int64.ofNat 1))) = lv4 at l0 l1 l2 l4 ⊢
    show t_X d 121 18 lv4 [] g0 P
    refine t_0 vha_18 rfl rfl ?_
    refine t_2 vha_19 rfl (w := (px_s1 lv4 6 (oI 0), [])) rfl ?_
    replace l0 : px_lg (px_s1 lv4 6 (oI 0)) 0 = some (pvR 0) := s1_ne (by decide) (fun _ => rfl) l0
    replace l1 : px_lg (px_s1 lv4 6 (oI 0)) 1 = some (oI (what)) := s1_ne (by decide) (fun _ => rfl) l1
    replace l2 : px_lg (px_s1 lv4 6 (oI 0)) 2 = some (.inr (.inl (Int64.ofNat 0))) := s1_ne (by decide) (fun z => absurd z (by decide)) l2
    replace l4 : px_lg (px_s1 lv4 6 (oI 0)) 4 = some (.inr (.inl (Int64.ofNat 1))) := s1_ne (by decide) (fun z => absurd z (by decide)) l4
    have l6 : px_lg (px_s1 lv4 6 (oI 0)) 6 = some (oI 0) := s1_eq
    generalize px_s1 lv4 6 (oI 0) = lv5 at l0 l1 l2 l4 l6 ⊢
    show t_X d 121 21 lv5 [] g0 P
    refine t_0 vha_21 rfl rfl ?_
    refine t_2 vha_22 rfl (w := (px_s1 lv5 7 (oI 0), [])) rfl ?_
    replace l0 : px_lg (px_s1 lv5 7 (oI 0)) 0 = some (pvR 0) := s1_ne (by decide) (fun _ => rfl) l0
    replace l1 : px_lg (px_s1 lv5 7 (oI 0)) 1 = some (oI (what)) := s1_ne (by decide) (fun _ => rfl) l1
    replace l2 : px_lg (px_s1 lv5 7 (oI 0)) 2 = some (.inr (.inl (Int64.ofNat 0))) := s1_ne (by decide) (fun z => absurd z (by decide)) l2
    replace l4 : px_lg (px_s1 lv5 7 (oI 0)) 4 = some (.inr (.inl (Int64.ofNat 1))) := s1_ne (by decide) (fun z => absurd z (by decide)) l4
    replace l6 : px_lg (px_s1 lv5 7 (oI 0)) 6 = some (oI 0) := s1_ne (by decide) (fun _ => rfl) l6
    have l7 : px_lg (px_s1 lv5 7 (oI 0)) 7 = some (oI 0) := s1_eq
    generalize px_s1 lv5 7 (oI 0) = lv6 at l0 l1 l2 l4 l6 l7 ⊢
    show t_X d 121 24 lv6 [] g0 P
    exact vha_loop hK (by omega) hSr r0 hL hal ea et er eb (fun g1 J1 A B N lv e q1 q2 q4 => hA (by omega) g1 J1 A B N lv e q1 q2 q4) 32 0 0 1 0 g0 _ (by omega) (by omega) (J_rf hG) rfl l0 l1 l2 l4 l6 l7
  · show t_X d 121 6 lv [oI 0] g0 P
    refine tz_ne vha_6 (by decide) ⟨by omega, by omega⟩ (fun c7 => absurd c7 (by omega)) (fun c7 => ?_)
    show t_X d 121 9 lv [] g0 P
    refine t_0 vha_9 rfl rfl ?_
    refine t_5 vha_12 rfl rfl ?_
    exact hR (by omega)
theorem vhb_run {k1 c : Int} {o v le st co en : tC} {d : Nat} (hd : 8 ≤ d) {g0 : pH} (hL : rLm g0 k1 c o v le st co en) {ki ma ta wo : Nat → Int} (hsd : ∀ m, m < 32 → sdM g0 m (ki m) (ma m) (ta m) (wo m)) {pic : Nat → tC} (hp : ∀ m, m < 32 → ∀ j : Nat, j < 25 → pic m j = fA g0 210 (25 * m + j)) (hpb : ∀ m j, -2147483648 ≤ pic m j ∧ pic m j ≤ 2147483647) {a : Nat → Nat → Int} {t r : Nat → Nat} {b : Nat → Bool} (ea : ∀ m, a m = (fun w : Nat => aV o v (qF m (ki m) (ma m) (ta m) (wo m) w) le st co en c 119 99)) (et : ∀ m, t m = (oS (fun _ => true) (a m) 8).toNat) (er : ∀ m, r m = (oS (fun w => !alN (pic m) w) (a m) 8).toNat) (eb : ∀ m, m < 32 → (b m = true ↔ bM g0 m)) {what : Int} {P : Option pv × pH → Prop} (hG : g_I eG g0) (hw : -2147483648 ≤ what ∧ what ≤ 2147483647) (hA : 0 ≤ what ∧ what ≤ 1 → ∀ (g1 : pH) (A B N : Nat) (lv : List (Nat × pv)), hT t r b 32 = (A, B, N) → px_lg lv 1 = some (oI what) → px_lg lv 2 = some (.inr (.inl (Int64.ofInt ((rdA A B : Nat) : Int)))) → px_lg lv 4 = some (.inr (.inl (Int64.ofInt ((rdB A B : Nat) : Int)))) → t_X d 195 167 lv [] g1 P) (hR : ¬ (0 ≤ what ∧ what ≤ 1) → P (some (.inr (.inl (xe_k 9223372036854775807))), g0)) {lv : List (Nat × pv)} (l0 : px_lg lv 0 = some (pvR 196)) (l1 : px_lg lv 1 = some (oI what)) : t_X d 195 0 lv [] g0 P := by
  refine t_0 vhb_0 rfl (ld_i l1) ?_
  refine t_0 vhb_1 rfl rfl ?_
  refine t_0 vhb_2 rfl rfl ?_
  refine t_3 vhb_3 rfl (ar := ([oI (what), oI 0, oI 1], [])) (pcal_s ⟨Or.inl rfl, rfl, Nat.le_of_ble_eq_true rfl⟩) ⟨by omega, Nat.le_of_ble_eq_true rfl, Nat.le_of_ble_eq_true rfl, rfl⟩ ?_
  refine in_run ⟨by omega, by omega⟩ ⟨by omega, by omega⟩ ⟨by omega, by omega⟩ rfl rfl rfl (fun t1 => ?_) (fun t1 => ?_)
  · show t_X d 195 6 lv [oI 1] g0 P
    refine tz_ne vhb_6 (by decide) ⟨by omega, by omega⟩ (fun c2 => ?_) (fun c2 => absurd c2 (by omega))
    show t_X d 195 13 lv [] g0 P
    refine t_0 vhb_13 rfl rfl ?_
    refine t_2 vhb_14 rfl (w := (px_s2 lv 2 (.inr (.inl (Int64.ofNat 0))), [])) rfl ?_
    replace l0 : px_lg (px_s2 lv 2 (.inr (.inl (Int64.ofNat 0)))) 0 = some (pvR 196) := s2_ne (by decide) (fun _ => rfl) l0
    replace l1 : px_lg (px_s2 lv 2 (.inr (.inl (Int64.ofNat 0)))) 1 = some (oI (what)) := s2_ne (by decide) (fun _ => rfl) l1
    have l2 : px_lg (px_s2 lv 2 (.inr (.inl (Int64.ofNat 0)))) 2 = some (.inr (.inl (Int64.ofNat 0))) := s2_eq
    generalize px_s2 lv 2 (.inr (.inl (Int64.ofNat 0))) = lv3 at l0 l1 l2 ⊢
    show t_X d 195 15 lv3 [] g0 P
    refine t_0 vhb_15 rfl rfl ?_
    refine t_2 vhb_16 rfl (w := (px_s2 lv3 4 (.inr (.inl (Int64.ofNat 1))), [])) rfl ?_
    replace l0 : px_lg (px_s2 lv3 4 (.inr (.inl (Int64.ofNat 1)))) 0 = some (pvR 196) := s2_ne (by decide) (fun _ => rfl) l0
    replace l1 : px_lg (px_s2 lv3 4 (.inr (.inl (Int64.ofNat 1)))) 1 = some (oI (what)) := s2_ne (by decide) (fun _ => rfl) l1
    replace l2 : px_lg (px_s2 lv3 4 (.inr (.inl (Int64.ofNat 1)))) 2 = some (.inr (.inl (Int64.ofNat 0))) := s2_ne (by decide) (fun z => absurd z (by decide)) l2
    have l4 : px_lg (px_s2 lv3 4 (.inr (.inl (Int64.ofNat 1)))) 4 = some (.inr (.inl (Int64.ofNat 1))) := s2_eq
    generalize px_s2 lv3 4 (.inr (.inl (Int64.ofNat 1))) = lv4 at l0 l1 l2 l4 ⊢
    show t_X d 195 18 lv4 [] g0 P
    refine t_0 vhb_18 rfl rfl ?_
    refine t_2 vhb_19 rfl (w := (px_s1 lv4 6 (oI 0), [])) rfl ?_
    replace l0 : px_lg (px_s1 lv4 6 (oI 0)) 0 = some (pvR 196) := s1_ne (by decide) (fun _ => rfl) l0
    replace l1 : px_lg (px_s1 lv4 6 (oI 0)) 1 = some (oI (what)) := s1_ne (by decide) (fun _ => rfl) l1
    replace l2 : px_lg (px_s1 lv4 6 (oI 0)) 2 = some (.inr (.inl (Int64.ofNat 0))) := s1_ne (by decide) (fun z => absurd z (by decide)) l2
    replace l4 : px_lg (px_s1 lv4 6 (oI 0)) 4 = some (.inr (.inl (Int64.ofNat 1))) := s1_ne (by decide) (fun z => absurd z (by decide)) l4
    have l6 : px_lg (px_s1 lv4 6 (oI 0)) 6 = some (oI 0) := s1_eq
    generalize px_s1 lv4 6 (oI 0) = lv5 at l0 l1 l2 l4 l6 ⊢
    show t_X d 195 21 lv5 [] g0 P
    refine t_0 vhb_21 rfl rfl ?_
    refine t_2 vhb_22 rfl (w := (px_s1 lv5 7 (oI 0), [])) rfl ?_
    replace l0 : px_lg (px_s1 lv5 7 (oI 0)) 0 = some (pvR 196) := s1_ne (by decide) (fun _ => rfl) l0
    replace l1 : px_lg (px_s1 lv5 7 (oI 0)) 1 = some (oI (what)) := s1_ne (by decide) (fun _ => rfl) l1
    replace l2 : px_lg (px_s1 lv5 7 (oI 0)) 2 = some (.inr (.inl (Int64.ofNat 0))) := s1_ne (by decide) (fun z => absurd z (by decide)) l2
    replace l4 : px_lg (px_s1 lv5 7 (oI 0)) 4 = some (.inr (.inl (Int64.ofNat 1))) := s1_ne (by decide) (fun z => absurd z (by decide)) l4
    replace l6 : px_lg (px_s1 lv5 7 (oI 0)) 6 = some (oI 0) := s1_ne (by decide) (fun _ => rfl) l6
    have l7 : px_lg (px_s1 lv5 7 (oI 0)) 7 = some (oI 0) := s1_eq
    generalize px_s1 lv5 7 (oI 0) = lv6 at l0 l1 l2 l4 l6 l7 ⊢
    show t_X d 195 24 lv6 [] g0 P
    exact vhb_loop (by omega) hL hsd hp hpb ea et er eb (fun g1 A B N lv e q1 q2 q4 => hA (by omega) g1 A B N lv e q1 q2 q4) 32 0 0 1 0 g0 _ (by omega) (by omega) (J_rf hG) rfl l0 l1 l2 l4 l6 l7
  · show t_X d 195 6 lv [oI 0] g0 P
    refine tz_ne vhb_6 (by decide) ⟨by omega, by omega⟩ (fun c7 => absurd c7 (by omega)) (fun c7 => ?_)
    show t_X d 195 9 lv [] g0 P
    refine t_0 vhb_9 rfl rfl ?_
    refine t_5 vhb_12 rfl rfl ?_
    exact hR (by omega)
set_option maxHeartbeats 1000000 in
theorem pq_hand {g : pH} (hG : g_I eG g) (hx : xL g) (hR : R30 g) (x1 : Int32) : pr_ R30 121 195 [.inl x1] 1 true g := by
  refine pr_qq (p30_hand hG hx hR x1) ?_
  obtain ⟨⟨⟨⟨⟨hSr, hT9, hN, hKp⟩, hl⟩, hRL⟩, ⟨⟨r1, r2, r3, r4⟩, r5⟩⟩, ⟨q1, q2⟩⟩ := hR
  obtain ⟨K, k1, c, o, v, le, st, co, en, hK, r0, hLc, hLm⟩ := RL_s hRL
  obtain ⟨a, ea⟩ : ∃ a : Nat → Nat → Int, ∀ m, a m = fun w : Nat => aV o v (qF m (cF g (4 + 2 * m) 3) (cF g (4 + 2 * m) 4) (cF g (4 + 2 * m) 6) (cF g (4 + 2 * m) 5) w) le st co en c 119 99 := ⟨_, fun _ => rfl⟩
  obtain ⟨t, et⟩ : ∃ t : Nat → Nat, ∀ m, t m = (oS (fun _ => true) (a m) 8).toNat := ⟨_, fun _ => rfl⟩
  obtain ⟨r, er⟩ : ∃ r : Nat → Nat, ∀ m, r m = (oS (fun w => !alN (fA g (5 + 2 * m)) w) (a m) 8).toNat := ⟨_, fun _ => rfl⟩
  obtain ⟨b, eb⟩ : ∃ b : Nat → Bool, ∀ m, b m = decide (cF g (4 + 2 * m) 2 = 1) := ⟨_, fun _ => rfl⟩
  have ha : ∀ m w, 0 ≤ a m w ∧ a m w ≤ 99 := fun m w => by rw [ea]; exact aV_b (by decide)
  have hrt : ∀ i, r i ≤ t i ∧ t i ≤ 792 := fun i => ⟨by rw [et, er]; have := oS_l (bb := fun w => !alN (fA g (5 + 2 * i)) w) (fun w => (ha i w).1) 8; omega, (oS_T (ha i) (et i)).2⟩
  refine vha_run hK (by decide) hSr r0 hLc q1 ea et er eb hG (i32_b x1) (fun hw g1 J1 A B N lv e l1 l2 l4 => ?_) (fun hw => ⟨_, rfl, ?_⟩) rfl (congrArg some (oI_r x1))
  · obtain ⟨⟨w0, w49, w35⟩, wA⟩ := cW_m hK
    have M1 := J1.2
    have fa : ∀ k, k ∈ ([199, 200, 201, 202, 210, 222, 223, 224, 225, 226] : List Nat) → (cW K).testBit (cn k) = false := fun k hk => by
      have := List.all_eq_true.mp wA k hk
      rw [Bool.not_eq_true'] at this
      exact this
    have hb2 := hT_b hrt _ _ _ _ e
    have hc2 := hT_c hb2.1 hb2.2.2.1 hb2.2.2.2
    have hsd : ∀ m, m < 32 → sdM g1 m (cF g (4 + 2 * m) 3) (cF g (4 + 2 * m) 4) (cF g (4 + 2 * m) 6) (cF g (4 + 2 * m) 5) := fun m hm => by
      obtain ⟨⟨s3, s4, s5, s6⟩, sp⟩ := r1 m hm
      exact sdM_f M1 (fa 199 (by decide)) (fa 200 (by decide)) (fa 201 (by decide)) (fa 202 (by decide)) w49 ⟨⟨s3.symm, s4.symm, s6.symm, s5.symm⟩, r5⟩
    have hp9 : ∀ m, m < 32 → ∀ j : Nat, j < 25 → fA g (5 + 2 * m) j = fA g1 210 (25 * m + j) := fun m hm j hj => ((r1 m hm).2 j hj).trans (congrFun (fA_M M1 (fa 210 (by decide))) _).symm
    have hb9 : ∀ m, m < 32 → (b m = true ↔ bM g1 m) := fun m hm => by
      rw [eb]
      unfold bM
      rw [(M1.1 196 0 w0).1]
      exact Iff.trans ⟨of_decide_eq_true, decide_eq_true⟩ (hN m hm)
    rcases (show x1.toInt = 0 ∨ x1.toInt = 1 by omega) with e0 | e0
    · skip
      have l1 : px_lg lv 1 = some (oI 0) := by rw [← e0]; exact l1
      refine vha_e0 hb2.2.1 hc2.2 (by omega) (by decide) ⟨_, rfl, ?_⟩ l1 l2 l4
      refine vhb_run (by decide) (rLm_f J1.2 ⟨w35, fa 222 (by decide), fa 223 (by decide), fa 224 (by decide), fa 225 (by decide), fa 226 (by decide)⟩ hLm) (ki := fun m => cF g (4 + 2 * m) 3) (ma := fun m => cF g (4 + 2 * m) 4) (ta := fun m => cF g (4 + 2 * m) 6) (wo := fun m => cF g (4 + 2 * m) 5) hsd (pic := fun m => fA g (5 + 2 * m)) hp9 (fun m j => i32_b _) ea et er hb9 J1.1 (i32_b x1) (fun _ g2 A2 B2 N2 lv2 e2 m1 m2 m4 => ?_) (fun z => absurd hw z) rfl (congrArg some (oI_r x1))
      rw [e] at e2
      cases e2
      have m1 : px_lg lv2 1 = some (oI 0) := by rw [← e0]; exact m1
      exact vhb_e0 (P := fun o2 : Option pv × pH => o2.1 = some (.inr (.inl (Int64.ofInt ((rdA A B : Nat) : Int))))) rfl m1 m2 m4
    · skip
      have l1 : px_lg lv 1 = some (oI 1) := by rw [← e0]; exact l1
      refine vha_e1 hb2.2.1 hc2.2 (by omega) (by decide) ⟨_, rfl, ?_⟩ l1 l2 l4
      refine vhb_run (by decide) (rLm_f J1.2 ⟨w35, fa 222 (by decide), fa 223 (by decide), fa 224 (by decide), fa 225 (by decide), fa 226 (by decide)⟩ hLm) (ki := fun m => cF g (4 + 2 * m) 3) (ma := fun m => cF g (4 + 2 * m) 4) (ta := fun m => cF g (4 + 2 * m) 6) (wo := fun m => cF g (4 + 2 * m) 5) hsd (pic := fun m => fA g (5 + 2 * m)) hp9 (fun m j => i32_b _) ea et er hb9 J1.1 (i32_b x1) (fun _ g2 A2 B2 N2 lv2 e2 m1 m2 m4 => ?_) (fun z => absurd hw z) rfl (congrArg some (oI_r x1))
      rw [e] at e2
      cases e2
      have m1 : px_lg lv2 1 = some (oI 1) := by rw [← e0]; exact m1
      exact vhb_e1 (P := fun o2 : Option pv × pH => o2.1 = some (.inr (.inl (Int64.ofInt ((rdB A B : Nat) : Int))))) rfl m1 m2 m4
  · show t_X 99 195 0 (px_ar 0 [pvR 196, .inl x1]) [] g (fun o2 => o2.1 = _)
    refine vhb_run (P := fun o2 : Option pv × pH => o2.1 = some (.inr (.inl (xe_k 9223372036854775807)))) (d := 99) (g0 := g) (b := b) (lv := px_ar 0 [pvR 196, .inl x1]) (by decide) hLm (ki := fun m => cF g (4 + 2 * m) 3) (ma := fun m => cF g (4 + 2 * m) 4) (ta := fun m => cF g (4 + 2 * m) 6) (wo := fun m => cF g (4 + 2 * m) 5) (fun m hm => by
      obtain ⟨⟨s3, s4, s5, s6⟩, sp⟩ := r1 m hm
      exact ⟨⟨s3.symm, s4.symm, s6.symm, s5.symm⟩, r5⟩) (pic := fun m => fA g (5 + 2 * m)) (fun m hm j hj => (r1 m hm).2 j hj) (fun m j => i32_b _) ea et er (fun m hm => by
      rw [eb]
      exact Iff.trans ⟨of_decide_eq_true, decide_eq_true⟩ (hN m hm)) hG (i32_b x1) (fun z => absurd z hw) (fun _ => rfl) rfl (congrArg some (oI_r x1))
theorem lg_same (a : Int64) : lg_cmp a a = 0 := (lg_cmp_eq a a).mpr rfl
