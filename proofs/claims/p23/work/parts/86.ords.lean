/-! by hand: spiltAt, laysOrders (printed in part by wip/e2/so.py) -/
theorem qlo_0 : xe_look (xc 215) 0 = some (.iconst 0, 1, 0, 0, 0) := by decide +kernel
theorem qlo_1 : xe_look (xc 215) 1 = some (.istore_n 3, 1, 0, 0, 0) := by decide +kernel
theorem qlo_2 : xe_look (xc 215) 2 = some (.iload_n 3, 1, 0, 0, 0) := by decide +kernel
theorem qlo_3 : xe_look (xc 215) 3 = some (.aload_n 0, 1, 0, 0, 0) := by decide +kernel
theorem qlo_4 : xe_look (xc 215) 4 = some (.getfield 491, 3, 12, 71, 1235) := by decide +kernel
theorem qlo_7 : xe_look (xc 215) 7 = some (.if_icmp .ge 16, 3, 0, 0, 0) := by decide +kernel
theorem qlo_10 : xe_look (xc 215) 10 = some (.aload_n 0, 1, 0, 0, 0) := by decide +kernel
theorem qlo_11 : xe_look (xc 215) 11 = some (.getfield 138, 3, 12, 69, 1207) := by decide +kernel
theorem qlo_14 : xe_look (xc 215) 14 = some (.iload_n 3, 1, 0, 0, 0) := by decide +kernel
theorem qlo_15 : xe_look (xc 215) 15 = some (.iconst 0, 1, 0, 0, 0) := by decide +kernel
theorem qlo_16 : xe_look (xc 215) 16 = some (.iastore, 1, 0, 0, 0) := by decide +kernel
theorem qlo_17 : xe_look (xc 215) 17 = some (.iinc 3 1, 3, 0, 0, 0) := by decide +kernel
theorem qlo_20 : xe_look (xc 215) 20 = some (.goto (-18), 3, 0, 0, 0) := by decide +kernel
theorem qlo_23 : xe_look (xc 215) 23 = some (.iconst 0, 1, 0, 0, 0) := by decide +kernel
theorem qlo_24 : xe_look (xc 215) 24 = some (.istore_n 3, 1, 0, 0, 0) := by decide +kernel
theorem qlo_25 : xe_look (xc 215) 25 = some (.iload_n 3, 1, 0, 0, 0) := by decide +kernel
theorem qlo_26 : xe_look (xc 215) 26 = some (.aload_n 0, 1, 0, 0, 0) := by decide +kernel
theorem qlo_27 : xe_look (xc 215) 27 = some (.getfield 212, 3, 12, 22, 1147) := by decide +kernel
theorem qlo_30 : xe_look (xc 215) 30 = some (.if_icmp .ge 64, 3, 0, 0, 0) := by decide +kernel
theorem qlo_33 : xe_look (xc 215) 33 = some (.aload_n 0, 1, 0, 0, 0) := by decide +kernel
theorem qlo_34 : xe_look (xc 215) 34 = some (.aload_n 0, 1, 0, 0, 0) := by decide +kernel
theorem qlo_35 : xe_look (xc 215) 35 = some (.getfield 37, 3, 12, 11, 1148) := by decide +kernel
theorem qlo_38 : xe_look (xc 215) 38 = some (.iload_n 3, 1, 0, 0, 0) := by decide +kernel
theorem qlo_39 : xe_look (xc 215) 39 = some (.iaload, 1, 0, 0, 0) := by decide +kernel
theorem qlo_40 : xe_look (xc 215) 40 = some (.invokevirtual 494, 3, 0, 255, 1236) := by decide +kernel
theorem qlo_43 : xe_look (xc 215) 43 = some (.istore 4, 2, 0, 0, 0) := by decide +kernel
theorem qlo_45 : xe_look (xc 215) 45 = some (.aload_n 0, 1, 0, 0, 0) := by decide +kernel
theorem qlo_46 : xe_look (xc 215) 46 = some (.aload_n 0, 1, 0, 0, 0) := by decide +kernel
theorem qlo_47 : xe_look (xc 215) 47 = some (.getfield 40, 3, 12, 12, 1149) := by decide +kernel
theorem qlo_50 : xe_look (xc 215) 50 = some (.iload_n 3, 1, 0, 0, 0) := by decide +kernel
theorem qlo_51 : xe_look (xc 215) 51 = some (.iaload, 1, 0, 0, 0) := by decide +kernel
theorem qlo_52 : xe_look (xc 215) 52 = some (.invokevirtual 494, 3, 0, 255, 1236) := by decide +kernel
theorem qlo_55 : xe_look (xc 215) 55 = some (.istore 5, 2, 0, 0, 0) := by decide +kernel
theorem qlo_57 : xe_look (xc 215) 57 = some (.iload 4, 2, 0, 0, 0) := by decide +kernel
theorem qlo_59 : xe_look (xc 215) 59 = some (.iconst (-1), 1, 0, 0, 0) := by decide +kernel
theorem qlo_60 : xe_look (xc 215) 60 = some (.if_icmp .eq 28, 3, 0, 0, 0) := by decide +kernel
theorem qlo_63 : xe_look (xc 215) 63 = some (.iload 5, 2, 0, 0, 0) := by decide +kernel
theorem qlo_65 : xe_look (xc 215) 65 = some (.iconst (-1), 1, 0, 0, 0) := by decide +kernel
theorem qlo_66 : xe_look (xc 215) 66 = some (.if_icmp .eq 22, 3, 0, 0, 0) := by decide +kernel
theorem qlo_69 : xe_look (xc 215) 69 = some (.aload_n 0, 1, 0, 0, 0) := by decide +kernel
theorem qlo_70 : xe_look (xc 215) 70 = some (.getfield 138, 3, 12, 69, 1207) := by decide +kernel
theorem qlo_73 : xe_look (xc 215) 73 = some (.iload 5, 2, 0, 0, 0) := by decide +kernel
theorem qlo_75 : xe_look (xc 215) 75 = some (.aload_n 0, 1, 0, 0, 0) := by decide +kernel
theorem qlo_76 : xe_look (xc 215) 76 = some (.getfield 138, 3, 12, 69, 1207) := by decide +kernel
theorem qlo_79 : xe_look (xc 215) 79 = some (.iload 5, 2, 0, 0, 0) := by decide +kernel
theorem qlo_81 : xe_look (xc 215) 81 = some (.iaload, 1, 0, 0, 0) := by decide +kernel
theorem qlo_82 : xe_look (xc 215) 82 = some (.iconst 1, 1, 0, 0, 0) := by decide +kernel
theorem qlo_83 : xe_look (xc 215) 83 = some (.iload 4, 2, 0, 0, 0) := by decide +kernel
theorem qlo_85 : xe_look (xc 215) 85 = some (.ishl, 1, 0, 0, 0) := by decide +kernel
theorem qlo_86 : xe_look (xc 215) 86 = some (.ior, 1, 0, 0, 0) := by decide +kernel
theorem qlo_87 : xe_look (xc 215) 87 = some (.iastore, 1, 0, 0, 0) := by decide +kernel
theorem qlo_88 : xe_look (xc 215) 88 = some (.iinc 3 1, 3, 0, 0, 0) := by decide +kernel
theorem qlo_91 : xe_look (xc 215) 91 = some (.goto (-66), 3, 0, 0, 0) := by decide +kernel
theorem qlo_94 : xe_look (xc 215) 94 = some (.iload_n 1, 1, 0, 0, 0) := by decide +kernel
theorem qlo_95 : xe_look (xc 215) 95 = some (.iconst (-1), 1, 0, 0, 0) := by decide +kernel
theorem qlo_96 : xe_look (xc 215) 96 = some (.if_icmp .eq 19, 3, 0, 0, 0) := by decide +kernel
theorem qlo_99 : xe_look (xc 215) 99 = some (.aload_n 0, 1, 0, 0, 0) := by decide +kernel
theorem qlo_100 : xe_look (xc 215) 100 = some (.getfield 138, 3, 12, 69, 1207) := by decide +kernel
theorem qlo_103 : xe_look (xc 215) 103 = some (.iload_n 2, 1, 0, 0, 0) := by decide +kernel
theorem qlo_104 : xe_look (xc 215) 104 = some (.aload_n 0, 1, 0, 0, 0) := by decide +kernel
theorem qlo_105 : xe_look (xc 215) 105 = some (.getfield 138, 3, 12, 69, 1207) := by decide +kernel
theorem qlo_108 : xe_look (xc 215) 108 = some (.iload_n 2, 1, 0, 0, 0) := by decide +kernel
theorem qlo_109 : xe_look (xc 215) 109 = some (.iaload, 1, 0, 0, 0) := by decide +kernel
theorem qlo_110 : xe_look (xc 215) 110 = some (.iconst 1, 1, 0, 0, 0) := by decide +kernel
theorem qlo_111 : xe_look (xc 215) 111 = some (.iload_n 1, 1, 0, 0, 0) := by decide +kernel
theorem qlo_112 : xe_look (xc 215) 112 = some (.ishl, 1, 0, 0, 0) := by decide +kernel
theorem qlo_113 : xe_look (xc 215) 113 = some (.ior, 1, 0, 0, 0) := by decide +kernel
theorem qlo_114 : xe_look (xc 215) 114 = some (.iastore, 1, 0, 0, 0) := by decide +kernel
theorem qlo_115 : xe_look (xc 215) 115 = some (.iconst 1, 1, 0, 0, 0) := by decide +kernel
theorem qlo_116 : xe_look (xc 215) 116 = some (.aload_n 0, 1, 0, 0, 0) := by decide +kernel
theorem qlo_117 : xe_look (xc 215) 117 = some (.getfield 491, 3, 12, 71, 1235) := by decide +kernel
theorem qlo_120 : xe_look (xc 215) 120 = some (.ishl, 1, 0, 0, 0) := by decide +kernel
theorem qlo_121 : xe_look (xc 215) 121 = some (.iconst 1, 1, 0, 0, 0) := by decide +kernel
theorem qlo_122 : xe_look (xc 215) 122 = some (.isub, 1, 0, 0, 0) := by decide +kernel
theorem qlo_123 : xe_look (xc 215) 123 = some (.istore_n 3, 1, 0, 0, 0) := by decide +kernel
theorem qlo_124 : xe_look (xc 215) 124 = some (.iload_n 3, 1, 0, 0, 0) := by decide +kernel
theorem qlo_125 : xe_look (xc 215) 125 = some (.istore 4, 2, 0, 0, 0) := by decide +kernel
theorem qlo_127 : xe_look (xc 215) 127 = some (.iload 4, 2, 0, 0, 0) := by decide +kernel
theorem qlo_129 : xe_look (xc 215) 129 = some (.ifCond .lt 91, 3, 0, 0, 0) := by decide +kernel
theorem qlo_132 : xe_look (xc 215) 132 = some (.iload 4, 2, 0, 0, 0) := by decide +kernel
theorem qlo_134 : xe_look (xc 215) 134 = some (.iload_n 3, 1, 0, 0, 0) := by decide +kernel
theorem qlo_135 : xe_look (xc 215) 135 = some (.if_icmp .ne 7, 3, 0, 0, 0) := by decide +kernel
theorem qlo_138 : xe_look (xc 215) 138 = some (.lconst 1, 1, 0, 0, 0) := by decide +kernel
theorem qlo_139 : xe_look (xc 215) 139 = some (.goto 4, 3, 0, 0, 0) := by decide +kernel
theorem qlo_142 : xe_look (xc 215) 142 = some (.lconst 0, 1, 0, 0, 0) := by decide +kernel
theorem qlo_143 : xe_look (xc 215) 143 = some (.lstore 5, 2, 0, 0, 0) := by decide +kernel
theorem qlo_145 : xe_look (xc 215) 145 = some (.iconst 0, 1, 0, 0, 0) := by decide +kernel
theorem qlo_146 : xe_look (xc 215) 146 = some (.istore 7, 2, 0, 0, 0) := by decide +kernel
theorem qlo_148 : xe_look (xc 215) 148 = some (.iload 7, 2, 0, 0, 0) := by decide +kernel
theorem qlo_150 : xe_look (xc 215) 150 = some (.aload_n 0, 1, 0, 0, 0) := by decide +kernel
theorem qlo_151 : xe_look (xc 215) 151 = some (.getfield 491, 3, 12, 71, 1235) := by decide +kernel
theorem qlo_154 : xe_look (xc 215) 154 = some (.if_icmp .ge 51, 3, 0, 0, 0) := by decide +kernel
theorem qlo_157 : xe_look (xc 215) 157 = some (.iload 4, 2, 0, 0, 0) := by decide +kernel
theorem qlo_159 : xe_look (xc 215) 159 = some (.iload 7, 2, 0, 0, 0) := by decide +kernel
theorem qlo_161 : xe_look (xc 215) 161 = some (.invokestatic 187, 3, 0, 196, 1121) := by decide +kernel
theorem qlo_164 : xe_look (xc 215) 164 = some (.ifCond .ne 35, 3, 0, 0, 0) := by decide +kernel
theorem qlo_167 : xe_look (xc 215) 167 = some (.aload_n 0, 1, 0, 0, 0) := by decide +kernel
theorem qlo_168 : xe_look (xc 215) 168 = some (.getfield 138, 3, 12, 69, 1207) := by decide +kernel
theorem qlo_171 : xe_look (xc 215) 171 = some (.iload 7, 2, 0, 0, 0) := by decide +kernel
theorem qlo_173 : xe_look (xc 215) 173 = some (.iaload, 1, 0, 0, 0) := by decide +kernel
theorem qlo_174 : xe_look (xc 215) 174 = some (.iload 4, 2, 0, 0, 0) := by decide +kernel
theorem qlo_176 : xe_look (xc 215) 176 = some (.iconst (-1), 1, 0, 0, 0) := by decide +kernel
theorem qlo_177 : xe_look (xc 215) 177 = some (.ixor, 1, 0, 0, 0) := by decide +kernel
theorem qlo_178 : xe_look (xc 215) 178 = some (.iand, 1, 0, 0, 0) := by decide +kernel
theorem qlo_179 : xe_look (xc 215) 179 = some (.ifCond .ne 20, 3, 0, 0, 0) := by decide +kernel
theorem qlo_182 : xe_look (xc 215) 182 = some (.lload 5, 2, 0, 0, 0) := by decide +kernel
theorem qlo_184 : xe_look (xc 215) 184 = some (.aload_n 0, 1, 0, 0, 0) := by decide +kernel
theorem qlo_185 : xe_look (xc 215) 185 = some (.getfield 141, 3, 12, 70, 1208) := by decide +kernel
theorem qlo_188 : xe_look (xc 215) 188 = some (.iload 4, 2, 0, 0, 0) := by decide +kernel
theorem qlo_190 : xe_look (xc 215) 190 = some (.iconst 1, 1, 0, 0, 0) := by decide +kernel
theorem qlo_191 : xe_look (xc 215) 191 = some (.iload 7, 2, 0, 0, 0) := by decide +kernel
theorem qlo_193 : xe_look (xc 215) 193 = some (.ishl, 1, 0, 0, 0) := by decide +kernel
theorem qlo_194 : xe_look (xc 215) 194 = some (.ior, 1, 0, 0, 0) := by decide +kernel
theorem qlo_195 : xe_look (xc 215) 195 = some (.laload, 1, 0, 0, 0) := by decide +kernel
theorem qlo_196 : xe_look (xc 215) 196 = some (.ladd, 1, 0, 0, 0) := by decide +kernel
theorem qlo_197 : xe_look (xc 215) 197 = some (.lstore 5, 2, 0, 0, 0) := by decide +kernel
theorem qlo_199 : xe_look (xc 215) 199 = some (.iinc 7 1, 3, 0, 0, 0) := by decide +kernel
theorem qlo_202 : xe_look (xc 215) 202 = some (.goto (-54), 3, 0, 0, 0) := by decide +kernel
theorem qlo_205 : xe_look (xc 215) 205 = some (.aload_n 0, 1, 0, 0, 0) := by decide +kernel
theorem qlo_206 : xe_look (xc 215) 206 = some (.getfield 141, 3, 12, 70, 1208) := by decide +kernel
theorem qlo_209 : xe_look (xc 215) 209 = some (.iload 4, 2, 0, 0, 0) := by decide +kernel
theorem qlo_211 : xe_look (xc 215) 211 = some (.lload 5, 2, 0, 0, 0) := by decide +kernel
theorem qlo_213 : xe_look (xc 215) 213 = some (.lastore, 1, 0, 0, 0) := by decide +kernel
theorem qlo_214 : xe_look (xc 215) 214 = some (.iinc 4 (-1), 3, 0, 0, 0) := by decide +kernel
theorem qlo_217 : xe_look (xc 215) 217 = some (.goto (-90), 3, 0, 0, 0) := by decide +kernel
theorem qlo_220 : xe_look (xc 215) 220 = some (.aload_n 0, 1, 0, 0, 0) := by decide +kernel
theorem qlo_221 : xe_look (xc 215) 221 = some (.getfield 141, 3, 12, 70, 1208) := by decide +kernel
theorem qlo_224 : xe_look (xc 215) 224 = some (.iconst 0, 1, 0, 0, 0) := by decide +kernel
theorem qlo_225 : xe_look (xc 215) 225 = some (.laload, 1, 0, 0, 0) := by decide +kernel
theorem qlo_226 : xe_look (xc 215) 226 = some (.lreturn, 1, 0, 0, 0) := by decide +kernel
theorem qsa_0 : xe_look (xc 255) 0 = some (.iconst 0, 1, 0, 0, 0) := by decide +kernel
theorem qsa_1 : xe_look (xc 255) 1 = some (.istore_n 2, 1, 0, 0, 0) := by decide +kernel
theorem qsa_2 : xe_look (xc 255) 2 = some (.iload_n 2, 1, 0, 0, 0) := by decide +kernel
theorem qsa_3 : xe_look (xc 255) 3 = some (.aload_n 0, 1, 0, 0, 0) := by decide +kernel
theorem qsa_4 : xe_look (xc 255) 4 = some (.getfield 491, 3, 12, 71, 1235) := by decide +kernel
theorem qsa_7 : xe_look (xc 255) 7 = some (.if_icmp .ge 21, 3, 0, 0, 0) := by decide +kernel
theorem qsa_10 : xe_look (xc 255) 10 = some (.aload_n 0, 1, 0, 0, 0) := by decide +kernel
theorem qsa_11 : xe_look (xc 255) 11 = some (.getfield 135, 3, 12, 68, 1206) := by decide +kernel
theorem qsa_14 : xe_look (xc 255) 14 = some (.iload_n 2, 1, 0, 0, 0) := by decide +kernel
theorem qsa_15 : xe_look (xc 255) 15 = some (.iaload, 1, 0, 0, 0) := by decide +kernel
theorem qsa_16 : xe_look (xc 255) 16 = some (.iload_n 1, 1, 0, 0, 0) := by decide +kernel
theorem qsa_17 : xe_look (xc 255) 17 = some (.if_icmp .ne 5, 3, 0, 0, 0) := by decide +kernel
theorem qsa_20 : xe_look (xc 255) 20 = some (.iload_n 2, 1, 0, 0, 0) := by decide +kernel
theorem qsa_21 : xe_look (xc 255) 21 = some (.ireturn, 1, 0, 0, 0) := by decide +kernel
theorem qsa_22 : xe_look (xc 255) 22 = some (.iinc 2 1, 3, 0, 0, 0) := by decide +kernel
theorem qsa_25 : xe_look (xc 255) 25 = some (.goto (-23), 3, 0, 0, 0) := by decide +kernel
theorem qsa_28 : xe_look (xc 255) 28 = some (.iconst (-1), 1, 0, 0, 0) := by decide +kernel
theorem qsa_29 : xe_look (xc 255) 29 = some (.ireturn, 1, 0, 0, 0) := by decide +kernel
theorem ga_206 : eG (cn 206) = (0, 31, []) := by decide +kernel
theorem ga_207 : eG (cn 207) = (0, 31, []) := by decide +kernel
theorem ga_238 : eG (cn 238) = (0, 31, []) := by decide +kernel
theorem ga_239 : eG (cn 239) = ((-2147483648), 2147483647, []) := by decide +kernel
theorem ga_240 : eG (cn 240) = ((-9223372036854775808), 9223372036854775807, []) := by decide +kernel
theorem gf_22 : eG (cn 196 + 22) = (0, 24, []) := by decide +kernel
theorem gf_71 : eG (cn 196 + 71) = (0, 12, []) := by decide +kernel
theorem sa_loop {d : Nat} {g : pH} (hJ : J_ 0 g g) {i : Int} (hi : -2147483648 ≤ i ∧ i ≤ 2147483647) {P : Option pv × pH → Prop} (hP : ∀ z : Int, (z = -1 ∧ ∀ k : Nat, (k : Int) < fF g 71 → fA g 238 k ≠ i) ∨ (0 ≤ z ∧ z < fF g 71 ∧ fA g 238 z.toNat = i) → P (some (oI z), g)) : ∀ (m k : Nat) (lv : List (Nat × pv)), fF g 71 - k ≤ m → k ≤ 12 → (∀ j : Nat, j < k → fA g 238 j ≠ i) → px_lg lv 0 = some (pvR 196) → px_lg lv 1 = some (oI i) → px_lg lv 2 = some (oI (k : Int)) → t_X d 255 2 lv [] g P := by
  intro m
  induction m with
  | zero =>
    intro k lv hm hk hb l0 l1 l2
    refine t_0 qsa_2 rfl (ld_i l2) ?_
    refine t_0 qsa_3 rfl (ld_a l0) ?_
    have r1 := gb_f hJ.1 (y := 71) rfl rfl gf_71
    refine t_0 qsa_4 rfl (pq_gf (y := 71) rfl) ?_
    refine tb_ge qsa_7 (by decide) ⟨by omega, by omega⟩ ⟨by omega, by omega⟩ (fun c2 => ?_) (fun c2 => absurd c2 (by omega))
    show t_X d 255 28 lv [] g P
    refine t_0 qsa_28 rfl rfl ?_
    refine t_5 qsa_29 rfl rfl ?_
    exact hP _ (Or.inl ⟨rfl, fun j hj => hb j (by omega)⟩)
  | succ m ih =>
    intro k lv hm hk hb l0 l1 l2
    refine t_0 qsa_2 rfl (ld_i l2) ?_
    refine t_0 qsa_3 rfl (ld_a l0) ?_
    have r1 := gb_f hJ.1 (y := 71) rfl rfl gf_71
    refine t_0 qsa_4 rfl (pq_gf (y := 71) rfl) ?_
    refine tb_ge qsa_7 (by decide) ⟨by omega, by omega⟩ ⟨by omega, by omega⟩ (fun c2 => ?_) (fun c2 => ?_)
    · show t_X d 255 28 lv [] g P
      refine t_0 qsa_28 rfl rfl ?_
      refine t_5 qsa_29 rfl rfl ?_
      exact hP _ (Or.inl ⟨rfl, fun j hj => hb j (by omega)⟩)
    · show t_X d 255 10 lv [] g P
      refine t_0 qsa_10 rfl (ld_a l0) ?_
      refine t_0 qsa_11 rfl (ar_68 hJ.1) ?_
      refine t_0 qsa_14 rfl (ld_i l2) ?_
      refine t_0 qsa_15 rfl (pq_ia el_238 rfl ⟨by omega, by omega⟩) ?_
      show t_X d 255 16 lv [oI (fA g 238 k)] g P
      have r3 := gb_a hJ.1 el_238 (j := k) (by omega) ga_238
      refine t_0 qsa_16 rfl (ld_i l1) ?_
      refine tb_ne qsa_17 (by decide) ⟨by omega, by omega⟩ ⟨by omega, by omega⟩ (fun c4 => ?_) (fun c4 => ?_)
      · show t_X d 255 22 lv [] g P
        refine t_2 qsa_22 rfl (w := (px_s1 lv 2 (oI ((k : Int) + 1)), [])) (pq_inc l2 (by decide)) ?_
        replace l0 : px_lg (px_s1 lv 2 (oI ((k : Int) + 1))) 0 = some (pvR 196) := s1_ne (by decide) (fun _ => rfl) l0
        replace l1 : px_lg (px_s1 lv 2 (oI ((k : Int) + 1))) 1 = some (oI (i)) := s1_ne (by decide) (fun _ => rfl) l1
        have l2 : px_lg (px_s1 lv 2 (oI ((k : Int) + 1))) 2 = some (oI ((k : Int) + 1)) := s1_eq
        generalize px_s1 lv 2 (oI ((k : Int) + 1)) = lv5 at l0 l1 l2 ⊢
        show t_X d 255 25 lv5 [] g P
        refine t_1 qsa_25 rfl (pb_goto (pc := 25) (by decide)) ?_
        show t_X d 255 2 lv5 [] g P
        exact ih (k + 1) _ (by omega) (by omega) (fun j hj => by
          by_cases e : j = k
          · subst e; omega
          · exact hb j (by omega)) l0 l1 l2
      · show t_X d 255 20 lv [] g P
        refine t_0 qsa_20 rfl (ld_i l2) ?_
        refine t_5 qsa_21 rfl rfl ?_
        exact hP _ (Or.inr ⟨by omega, by omega, by show fA g 238 k = i; omega⟩)
theorem sa_run {d : Nat} {g : pH} (hG : g_I eG g) {i : Int} (hi : -2147483648 ≤ i ∧ i ≤ 2147483647) {P : Option pv × pH → Prop} (hP : ∀ z : Int, (z = -1 ∧ ∀ k : Nat, (k : Int) < fF g 71 → fA g 238 k ≠ i) ∨ (0 ≤ z ∧ z < fF g 71 ∧ fA g 238 z.toNat = i) → P (some (oI z), g)) {lv : List (Nat × pv)} (l0 : px_lg lv 0 = some (pvR 196)) (l1 : px_lg lv 1 = some (oI i)) : t_X d 255 0 lv [] g P := by
  refine t_0 qsa_0 rfl rfl ?_
  refine t_2 qsa_1 rfl (w := (px_s1 lv 2 (oI (0)), [])) rfl ?_
  replace l0 : px_lg (px_s1 lv 2 (oI (0))) 0 = some (pvR 196) := s1_ne (by decide) (fun _ => rfl) l0
  replace l1 : px_lg (px_s1 lv 2 (oI (0))) 1 = some (oI (i)) := s1_ne (by decide) (fun _ => rfl) l1
  have l2 : px_lg (px_s1 lv 2 (oI (0))) 2 = some (oI (0)) := s1_eq
  generalize px_s1 lv 2 (oI (0)) = lv1 at l0 l1 l2 ⊢
  show t_X d 255 2 lv1 [] g P
  exact sa_loop (J_rf hG) hi hP 12 0 _ (by have := gb_f hG (y := 71) rfl rfl gf_71; omega) (by omega) (fun j hj => absurd hj (Nat.not_lt_zero j)) l0 l1 l2
def Wo : Nat := 2 ^ cn 239 + 2 ^ cn 240
theorem Wo_1 : Wo.testBit (cn 239) = true ∧ Wo.testBit (cn 240) = true ∧ Wo &&& eDX = 0 ∧ Wo.testBit (cn 196 + 71) = false ∧ Wo.testBit (cn 196 + 22) = false ∧ Wo.testBit (cn 238) = false := by decide +kernel
def Lw (g : pH) (j : Nat) : Int64 := g.2.2.2.2.1 240 j
def ixC (e k : Int) : Int32 := (Int32.ofInt e) ||| ((Int32.ofInt 1) <<< ((Int32.ofInt k) &&& 31))
def hsC (e k : Int) : Prop := ((Int32.ofInt e) >>> ((Int32.ofInt k) &&& 31)) &&& Int32.ofInt 1 = Int32.ofInt 1
def okC (f : Nat → Int) (e : Int) (k : Nat) : Prop := ¬ hsC e k ∧ (Int32.ofInt (f k)) &&& ((Int32.ofInt e) ^^^ (Int32.ofInt (-1))) = 0
theorem ix_t {s k : Nat} (hs : s < 4096) (hk : k < 12) : (ixC s k).toInt = ((s ||| 2 ^ k : Nat) : Int) := by
  have h2 : s ||| 2 ^ k < 4096 := Nat.or_lt_two_pow (n := 12) hs (Nat.pow_lt_pow_right (by decide) hk)
  have e1 : (ixC s k).toBitVec = BitVec.ofNat 32 (s ||| 2 ^ k) := by
    unfold ixC
    rw [← nI_o, ← nI_o, Int32.toBitVec_or, Int32.toBitVec_shiftLeft]
    apply BitVec.eq_of_getLsbD_eq
    intro i hi
    have e2 : (nI k &&& 31).toBitVec.smod 32 = (nI k).toBitVec.smod 32 := by rw [bt_and (by omega)]
    have e3 : (Int32.ofInt 1).toBitVec <<< (nI k &&& 31).toBitVec.smod 32 = 1#32 <<< k := by
      rw [e2]
      have e2 := bt_mod (j := k) (by omega)
      show (1#32) <<< ((nI k).toBitVec.smod 32).toNat = _
      rw [e2]
    rw [BitVec.getLsbD_or, e3, BitVec.getLsbD_shiftLeft, BitVec.getLsbD_one, BitVec.getLsbD_ofNat, Nat.testBit_or, Nat.testBit_two_pow]
    have e4 : (nI s).toBitVec.getLsbD i = s.testBit i := by
      show (BitVec.ofNat 32 s).getLsbD i = _
      rw [BitVec.getLsbD_ofNat, decide_eq_true hi, Bool.true_and]
    rw [e4, decide_eq_true hi, Bool.true_and, Bool.true_and]
    congr 1
    by_cases q : k = i
    · subst q; simp
    · simp [q]; omega
  have e5 : (ixC s k).toBitVec.toNat = s ||| 2 ^ k := by
    rw [e1, BitVec.toNat_ofNat]
    omega
  exact eo_p32 e5 (by omega)
theorem hs_t {s k : Nat} (hs : s < 4096) (hk : k < 12) : hsC s k ↔ s.testBit k = true := by
  unfold hsC
  rw [← nI_o k, bt_has (by omega), ← nI_o]
  show (BitVec.ofNat 32 s).getLsbD k = true ↔ _
  rw [BitVec.getLsbD_ofNat, decide_eq_true (by omega : k < 32), Bool.true_and]
theorem ix_g {s k : Nat} (hs : s < 4096) (hk : k < 12) : 0 ≤ (ixC s k).toInt ∧ (ixC s k).toInt < 4096 ∧ (¬ hsC s k → (s : Int) < (ixC s k).toInt) := by
  rw [ix_t hs hk]
  have h2 : s ||| 2 ^ k < 4096 := Nat.or_lt_two_pow (n := 12) hs (Nat.pow_lt_pow_right (by decide) hk)
  have h3 : s ≤ s ||| 2 ^ k := Nat.left_le_or
  refine ⟨by omega, by omega, fun hn => ?_⟩
  have h4 : s ≠ s ||| 2 ^ k := fun e => hn ((hs_t hs hk).mpr (by rw [e, Nat.testBit_or, Nat.testBit_two_pow_self, Bool.or_true]))
  omega
theorem allC {m : Nat} (hm : m ≤ 12) : ((Int32.ofInt 1) <<< ((Int32.ofInt (m : Int)) &&& 31)) - (Int32.ofInt 1) = Int32.ofInt ((2 ^ m - 1 : Nat) : Int) := by
  have : ∀ m, m < 13 → ((Int32.ofInt 1) <<< ((Int32.ofInt ((m : Nat) : Int)) &&& 31)) - (Int32.ofInt 1) = Int32.ofInt ((2 ^ m - 1 : Nat) : Int) := by decide +kernel
  exact this m (by omega)
theorem pw_12 {m : Nat} (hm : m ≤ 12) : 2 ^ m ≤ 4096 := Nat.pow_le_pow_right (by decide) hm
/-- what the ways of going on say -/
def Zp (sM : Nat) (g : pH) (e : Int) : Prop := ∀ s : Nat, e < s → s < 2 ^ sM - 1 → Lw g s ≠ 0 → ∃ k, k < sM ∧ okC (fA g 239) s k ∧ Lw g (ixC s k).toInt.toNat ≠ 0
set_option maxHeartbeats 4000000 in
theorem lo_1 {d : Nat} {h0 : pH} {a b : Int} {P : Option pv × pH → Prop} (hC : ∀ (g : pH) (lv : List (Nat × pv)), J_ Wo h0 g → px_lg lv 0 = some (pvR 196) → px_lg lv 1 = some (oI a) → px_lg lv 2 = some (oI b) → t_X d 215 23 lv [] g P) : ∀ (m k : Nat) (g : pH) (lv : List (Nat × pv)), fF h0 71 - k ≤ m → k ≤ 12 → J_ Wo h0 g → px_lg lv 0 = some (pvR 196) → px_lg lv 1 = some (oI a) → px_lg lv 2 = some (oI b) → px_lg lv 3 = some (oI (k : Int)) → t_X d 215 2 lv [] g P := by
  intro m
  induction m with
  | zero =>
    intro k g lv hm hk hJ l0 l1 l2 l3
    have e71 := fF_M hJ.2 Wo_1.2.2.2.1
    have w_a239 := Wo_1.1
    refine t_0 qlo_2 rfl (ld_i l3) ?_
    refine t_0 qlo_3 rfl (ld_a l0) ?_
    have r1 := gb_f hJ.1 (y := 71) rfl rfl gf_71
    refine t_0 qlo_4 rfl (pq_gf (y := 71) rfl) ?_
    refine tb_ge qlo_7 (by decide) ⟨by omega, by omega⟩ ⟨by omega, by omega⟩ (fun c2 => ?_) (fun c2 => absurd c2 (by omega))
    show t_X d 215 23 lv [] g P
    exact hC _ _ hJ l0 l1 l2
  | succ m ih =>
    intro k g lv hm hk hJ l0 l1 l2 l3
    have e71 := fF_M hJ.2 Wo_1.2.2.2.1
    have w_a239 := Wo_1.1
    refine t_0 qlo_2 rfl (ld_i l3) ?_
    refine t_0 qlo_3 rfl (ld_a l0) ?_
    have r1 := gb_f hJ.1 (y := 71) rfl rfl gf_71
    refine t_0 qlo_4 rfl (pq_gf (y := 71) rfl) ?_
    refine tb_ge qlo_7 (by decide) ⟨by omega, by omega⟩ ⟨by omega, by omega⟩ (fun c2 => ?_) (fun c2 => ?_)
    · show t_X d 215 23 lv [] g P
      exact hC _ _ hJ l0 l1 l2
    · show t_X d 215 10 lv [] g P
      refine t_0 qlo_10 rfl (ld_a l0) ?_
      refine t_0 qlo_11 rfl (ar_69 hJ.1) ?_
      refine t_0 qlo_14 rfl (ld_i l3) ?_
      refine t_0 qlo_15 rfl rfl ?_
      refine tw_a qlo_16 hJ el_239 rfl w_a239 ga_239 (by decide) ⟨by omega, by omega⟩ ⟨by omega, by omega⟩ (fun g3 hJ3 a3 v3 b3 f3 => ?_)
      replace f3 := fF_1 f3
      show t_X d 215 17 lv [] g3 P
      refine t_2 qlo_17 rfl (w := (px_s1 lv 3 (oI ((k : Int) + 1)), [])) (pq_inc l3 (by decide)) ?_
      replace l0 : px_lg (px_s1 lv 3 (oI ((k : Int) + 1))) 0 = some (pvR 196) := s1_ne (by decide) (fun _ => rfl) l0
      replace l1 : px_lg (px_s1 lv 3 (oI ((k : Int) + 1))) 1 = some (oI (a)) := s1_ne (by decide) (fun _ => rfl) l1
      replace l2 : px_lg (px_s1 lv 3 (oI ((k : Int) + 1))) 2 = some (oI (b)) := s1_ne (by decide) (fun _ => rfl) l2
      have l3 : px_lg (px_s1 lv 3 (oI ((k : Int) + 1))) 3 = some (oI ((k : Int) + 1)) := s1_eq
      generalize px_s1 lv 3 (oI ((k : Int) + 1)) = lv4 at l0 l1 l2 l3 ⊢
      show t_X d 215 20 lv4 [] g3 P
      refine t_1 qlo_20 rfl (pb_goto (pc := 20) (by decide)) ?_
      show t_X d 215 2 lv4 [] g3 P
      exact ih (k + 1) _ _ (by have := fF_M hJ3.2 Wo_1.2.2.2.1; omega) (by omega) hJ3 l0 l1 l2 l3
set_option maxHeartbeats 4000000 in
theorem lo_2 {d : Nat} (hd : 1 ≤ d) {h0 : pH} {a b : Int} {P : Option pv × pH → Prop} (hC : ∀ (g : pH) (lv : List (Nat × pv)), J_ Wo h0 g → px_lg lv 0 = some (pvR 196) → px_lg lv 1 = some (oI a) → px_lg lv 2 = some (oI b) → t_X d 215 94 lv [] g P) : ∀ (m k : Nat) (g : pH) (lv : List (Nat × pv)), fF h0 22 - k ≤ m → k ≤ 24 → J_ Wo h0 g → px_lg lv 0 = some (pvR 196) → px_lg lv 1 = some (oI a) → px_lg lv 2 = some (oI b) → px_lg lv 3 = some (oI (k : Int)) → t_X d 215 25 lv [] g P := by
  intro m
  induction m with
  | zero =>
    intro k g lv hm hk hJ l0 l1 l2 l3
    have e22 := fF_M hJ.2 Wo_1.2.2.2.2.1
    have b22 := gb_f hJ.1 (y := 22) rfl rfl gf_22
    have w_a239 := Wo_1.1
    refine t_0 qlo_25 rfl (ld_i l3) ?_
    refine t_0 qlo_26 rfl (ld_a l0) ?_
    have r1 := gb_f hJ.1 (y := 22) rfl rfl gf_22
    refine t_0 qlo_27 rfl (pq_gf (y := 22) rfl) ?_
    refine tb_ge qlo_30 (by decide) ⟨by omega, by omega⟩ ⟨by omega, by omega⟩ (fun c2 => ?_) (fun c2 => absurd c2 (by omega))
    show t_X d 215 94 lv [] g P
    exact hC _ _ hJ l0 l1 l2
  | succ m ih =>
    intro k g lv hm hk hJ l0 l1 l2 l3
    have e22 := fF_M hJ.2 Wo_1.2.2.2.2.1
    have b22 := gb_f hJ.1 (y := 22) rfl rfl gf_22
    have w_a239 := Wo_1.1
    by_cases hlt : fF g 22 ≤ k
    · refine t_0 qlo_25 rfl (ld_i l3) ?_
      refine t_0 qlo_26 rfl (ld_a l0) ?_
      have r1 := gb_f hJ.1 (y := 22) rfl rfl gf_22
      refine t_0 qlo_27 rfl (pq_gf (y := 22) rfl) ?_
      refine tb_ge qlo_30 (by decide) ⟨by omega, by omega⟩ ⟨by omega, by omega⟩ (fun c2 => ?_) (fun c2 => absurd c2 (by omega))
      show t_X d 215 94 lv [] g P
      exact hC _ _ hJ l0 l1 l2
    refine t_0 qlo_25 rfl (ld_i l3) ?_
    refine t_0 qlo_26 rfl (ld_a l0) ?_
    have r1 := gb_f hJ.1 (y := 22) rfl rfl gf_22
    refine t_0 qlo_27 rfl (pq_gf (y := 22) rfl) ?_
    refine tb_ge qlo_30 (by decide) ⟨by omega, by omega⟩ ⟨by omega, by omega⟩ (fun c2 => absurd c2 (by omega)) (fun c2 => ?_)
    show t_X d 215 33 lv [] g P
    refine t_0 qlo_33 rfl (ld_a l0) ?_
    refine t_0 qlo_34 rfl (ld_a l0) ?_
    refine t_0 qlo_35 rfl (ar_11 hJ.1) ?_
    refine t_0 qlo_38 rfl (ld_i l3) ?_
    refine t_0 qlo_39 rfl (pq_ia el_206 rfl ⟨by omega, by omega⟩) ?_
    show t_X d 215 40 lv [oI (fA g 206 k), pvR 196] g P
    have r3 := gb_a hJ.1 el_206 (j := k) (by omega) ga_206
    refine t_3 qlo_40 rfl (ar := ([pvR 196, oI (fA g 206 k)], [])) (pcal_v1 rfl rfl el_196) ⟨by omega, Nat.le_of_ble_eq_true rfl, Nat.le_of_ble_eq_true rfl, rfl⟩ ?_
    refine sa_run hJ.1 ⟨by omega, by omega⟩ (fun z4 hz4 => ?_) rfl rfl
    have hy4 : -1 ≤ z4 ∧ z4 < 12 := by
      rcases hz4 with h | h
      · omega
      · have := gb_f hJ.1 (y := 71) rfl rfl gf_71
        omega
    show t_X d 215 43 lv [oI (z4)] g P
    refine t_2 qlo_43 rfl (w := (px_s1 lv 4 (oI (z4)), [])) rfl ?_
    replace l0 : px_lg (px_s1 lv 4 (oI (z4))) 0 = some (pvR 196) := s1_ne (by decide) (fun _ => rfl) l0
    replace l1 : px_lg (px_s1 lv 4 (oI (z4))) 1 = some (oI (a)) := s1_ne (by decide) (fun _ => rfl) l1
    replace l2 : px_lg (px_s1 lv 4 (oI (z4))) 2 = some (oI (b)) := s1_ne (by decide) (fun _ => rfl) l2
    replace l3 : px_lg (px_s1 lv 4 (oI (z4))) 3 = some (oI ((k : Int))) := s1_ne (by decide) (fun _ => rfl) l3
    have l4 : px_lg (px_s1 lv 4 (oI (z4))) 4 = some (oI (z4)) := s1_eq
    generalize px_s1 lv 4 (oI (z4)) = lv5 at l0 l1 l2 l3 l4 ⊢
    show t_X d 215 45 lv5 [] g P
    refine t_0 qlo_45 rfl (ld_a l0) ?_
    refine t_0 qlo_46 rfl (ld_a l0) ?_
    refine t_0 qlo_47 rfl (ar_12 hJ.1) ?_
    refine t_0 qlo_50 rfl (ld_i l3) ?_
    refine t_0 qlo_51 rfl (pq_ia el_207 rfl ⟨by omega, by omega⟩) ?_
    show t_X d 215 52 lv5 [oI (fA g 207 k), pvR 196] g P
    have r6 := gb_a hJ.1 el_207 (j := k) (by omega) ga_207
    refine t_3 qlo_52 rfl (ar := ([pvR 196, oI (fA g 207 k)], [])) (pcal_v1 rfl rfl el_196) ⟨by omega, Nat.le_of_ble_eq_true rfl, Nat.le_of_ble_eq_true rfl, rfl⟩ ?_
    refine sa_run hJ.1 ⟨by omega, by omega⟩ (fun z7 hz7 => ?_) rfl rfl
    have hy7 : -1 ≤ z7 ∧ z7 < 12 := by
      rcases hz7 with h | h
      · omega
      · have := gb_f hJ.1 (y := 71) rfl rfl gf_71
        omega
    show t_X d 215 55 lv5 [oI (z7)] g P
    refine t_2 qlo_55 rfl (w := (px_s1 lv5 5 (oI (z7)), [])) rfl ?_
    replace l0 : px_lg (px_s1 lv5 5 (oI (z7))) 0 = some (pvR 196) := s1_ne (by decide) (fun _ => rfl) l0
    replace l1 : px_lg (px_s1 lv5 5 (oI (z7))) 1 = some (oI (a)) := s1_ne (by decide) (fun _ => rfl) l1
    replace l2 : px_lg (px_s1 lv5 5 (oI (z7))) 2 = some (oI (b)) := s1_ne (by decide) (fun _ => rfl) l2
    replace l3 : px_lg (px_s1 lv5 5 (oI (z7))) 3 = some (oI ((k : Int))) := s1_ne (by decide) (fun _ => rfl) l3
    replace l4 : px_lg (px_s1 lv5 5 (oI (z7))) 4 = some (oI (z4)) := s1_ne (by decide) (fun _ => rfl) l4
    have l5 : px_lg (px_s1 lv5 5 (oI (z7))) 5 = some (oI (z7)) := s1_eq
    generalize px_s1 lv5 5 (oI (z7)) = lv8 at l0 l1 l2 l3 l4 l5 ⊢
    show t_X d 215 57 lv8 [] g P
    refine t_0 qlo_57 rfl (ld_i l4) ?_
    refine t_0 qlo_59 rfl rfl ?_
    refine tb_eq qlo_60 (by decide) ⟨by omega, by omega⟩ ⟨by omega, by omega⟩ (fun c9 => ?_) (fun c9 => ?_)
    · show t_X d 215 88 lv8 [] g P
      refine t_2 qlo_88 rfl (w := (px_s1 lv8 3 (oI ((k : Int) + 1)), [])) (pq_inc l3 (by decide)) ?_
      replace l0 : px_lg (px_s1 lv8 3 (oI ((k : Int) + 1))) 0 = some (pvR 196) := s1_ne (by decide) (fun _ => rfl) l0
      replace l1 : px_lg (px_s1 lv8 3 (oI ((k : Int) + 1))) 1 = some (oI (a)) := s1_ne (by decide) (fun _ => rfl) l1
      replace l2 : px_lg (px_s1 lv8 3 (oI ((k : Int) + 1))) 2 = some (oI (b)) := s1_ne (by decide) (fun _ => rfl) l2
      replace l4 : px_lg (px_s1 lv8 3 (oI ((k : Int) + 1))) 4 = some (oI (z4)) := s1_ne (by decide) (fun _ => rfl) l4
      replace l5 : px_lg (px_s1 lv8 3 (oI ((k : Int) + 1))) 5 = some (oI (z7)) := s1_ne (by decide) (fun _ => rfl) l5
      have l3 : px_lg (px_s1 lv8 3 (oI ((k : Int) + 1))) 3 = some (oI ((k : Int) + 1)) := s1_eq
      generalize px_s1 lv8 3 (oI ((k : Int) + 1)) = lv10 at l0 l1 l2 l4 l5 l3 ⊢
      show t_X d 215 91 lv10 [] g P
      refine t_1 qlo_91 rfl (pb_goto (pc := 91) (by decide)) ?_
      show t_X d 215 25 lv10 [] g P
      exact ih (k + 1) _ _ (by have := fF_M hJ.2 Wo_1.2.2.2.2.1; omega) (by omega) hJ l0 l1 l2 l3
    · show t_X d 215 63 lv8 [] g P
      refine t_0 qlo_63 rfl (ld_i l5) ?_
      refine t_0 qlo_65 rfl rfl ?_
      refine tb_eq qlo_66 (by decide) ⟨by omega, by omega⟩ ⟨by omega, by omega⟩ (fun c11 => ?_) (fun c11 => ?_)
      · show t_X d 215 88 lv8 [] g P
        refine t_2 qlo_88 rfl (w := (px_s1 lv8 3 (oI ((k : Int) + 1)), [])) (pq_inc l3 (by decide)) ?_
        replace l0 : px_lg (px_s1 lv8 3 (oI ((k : Int) + 1))) 0 = some (pvR 196) := s1_ne (by decide) (fun _ => rfl) l0
        replace l1 : px_lg (px_s1 lv8 3 (oI ((k : Int) + 1))) 1 = some (oI (a)) := s1_ne (by decide) (fun _ => rfl) l1
        replace l2 : px_lg (px_s1 lv8 3 (oI ((k : Int) + 1))) 2 = some (oI (b)) := s1_ne (by decide) (fun _ => rfl) l2
        replace l4 : px_lg (px_s1 lv8 3 (oI ((k : Int) + 1))) 4 = some (oI (z4)) := s1_ne (by decide) (fun _ => rfl) l4
        replace l5 : px_lg (px_s1 lv8 3 (oI ((k : Int) + 1))) 5 = some (oI (z7)) := s1_ne (by decide) (fun _ => rfl) l5
        have l3 : px_lg (px_s1 lv8 3 (oI ((k : Int) + 1))) 3 = some (oI ((k : Int) + 1)) := s1_eq
        generalize px_s1 lv8 3 (oI ((k : Int) + 1)) = lv12 at l0 l1 l2 l4 l5 l3 ⊢
        show t_X d 215 91 lv12 [] g P
        refine t_1 qlo_91 rfl (pb_goto (pc := 91) (by decide)) ?_
        show t_X d 215 25 lv12 [] g P
        exact ih (k + 1) _ _ (by have := fF_M hJ.2 Wo_1.2.2.2.2.1; omega) (by omega) hJ l0 l1 l2 l3
      · show t_X d 215 69 lv8 [] g P
        refine t_0 qlo_69 rfl (ld_a l0) ?_
        refine t_0 qlo_70 rfl (ar_69 hJ.1) ?_
        refine t_0 qlo_73 rfl (ld_i l5) ?_
        refine t_0 qlo_75 rfl (ld_a l0) ?_
        refine t_0 qlo_76 rfl (ar_69 hJ.1) ?_
        refine t_0 qlo_79 rfl (ld_i l5) ?_
        refine t_0 qlo_81 rfl (pq_ia el_239 rfl ⟨by omega, by omega⟩) ?_
        have r13 := fA_b g 239 z7.toNat
        refine t_0 qlo_82 rfl rfl ?_
        refine t_0 qlo_83 rfl (ld_i l4) ?_
        refine t_0 qlo_85 rfl rfl ?_
        refine t_0 qlo_86 rfl rfl ?_
        refine tw_ax qlo_87 hJ el_239 rfl w_a239 ga_239 ⟨by omega, by omega⟩ (fun g14 hJ14 a14 f14 => ?_)
        replace f14 := fF_1 f14
        show t_X d 215 88 lv8 [] g14 P
        refine t_2 qlo_88 rfl (w := (px_s1 lv8 3 (oI ((k : Int) + 1)), [])) (pq_inc l3 (by decide)) ?_
        replace l0 : px_lg (px_s1 lv8 3 (oI ((k : Int) + 1))) 0 = some (pvR 196) := s1_ne (by decide) (fun _ => rfl) l0
        replace l1 : px_lg (px_s1 lv8 3 (oI ((k : Int) + 1))) 1 = some (oI (a)) := s1_ne (by decide) (fun _ => rfl) l1
        replace l2 : px_lg (px_s1 lv8 3 (oI ((k : Int) + 1))) 2 = some (oI (b)) := s1_ne (by decide) (fun _ => rfl) l2
        replace l4 : px_lg (px_s1 lv8 3 (oI ((k : Int) + 1))) 4 = some (oI (z4)) := s1_ne (by decide) (fun _ => rfl) l4
        replace l5 : px_lg (px_s1 lv8 3 (oI ((k : Int) + 1))) 5 = some (oI (z7)) := s1_ne (by decide) (fun _ => rfl) l5
        have l3 : px_lg (px_s1 lv8 3 (oI ((k : Int) + 1))) 3 = some (oI ((k : Int) + 1)) := s1_eq
        generalize px_s1 lv8 3 (oI ((k : Int) + 1)) = lv15 at l0 l1 l2 l4 l5 l3 ⊢
        show t_X d 215 91 lv15 [] g14 P
        refine t_1 qlo_91 rfl (pb_goto (pc := 91) (by decide)) ?_
        show t_X d 215 25 lv15 [] g14 P
        exact ih (k + 1) _ _ (by have := fF_M hJ14.2 Wo_1.2.2.2.2.1; omega) (by omega) hJ14 l0 l1 l2 l3
set_option maxHeartbeats 4000000 in
theorem lo_4 {d sM : Nat} (hd : 1 ≤ d) (hs : sM ≤ 12) {g : pH} (hJ : J_ 0 g g) (h71 : fF g 71 = sM) {e : Nat} (he : e < 4096) {P : Option pv × pH → Prop} (hC : ∀ (n : Int64) (lv : List (Nat × pv)), (n ≠ 0 → e = 2 ^ sM - 1 ∨ ∃ k, k < sM ∧ okC (fA g 239) e k ∧ Lw g (ixC e k).toInt.toNat ≠ 0) → px_lg lv 0 = some (pvR 196) → px_lg lv 3 = some (oI ((2 ^ sM - 1 : Nat) : Int)) → px_lg lv 4 = some (oI (e : Int)) → px_lg lv 5 = some (.inr (.inl n)) → t_X d 215 205 lv [] g P) : ∀ (m k : Nat) (n : Int64) (lv : List (Nat × pv)), sM - k ≤ m → k ≤ sM → (n ≠ 0 → e = 2 ^ sM - 1 ∨ ∃ k2, k2 < k ∧ okC (fA g 239) e k2 ∧ Lw g (ixC e k2).toInt.toNat ≠ 0) → px_lg lv 0 = some (pvR 196) → px_lg lv 3 = some (oI ((2 ^ sM - 1 : Nat) : Int)) → px_lg lv 4 = some (oI (e : Int)) → px_lg lv 5 = some (.inr (.inl n)) → px_lg lv 7 = some (oI (k : Int)) → t_X d 215 148 lv [] g P := by
  intro m
  induction m with
  | zero =>
    intro k n lv hm hk hN l0 l3 l4 l5 l7
    have hks : k = sM := by omega
    refine t_0 qlo_148 rfl (ld_i l7) ?_
    refine t_0 qlo_150 rfl (ld_a l0) ?_
    have r1 := gb_f hJ.1 (y := 71) rfl rfl gf_71
    refine t_0 qlo_151 rfl (pq_gf (y := 71) rfl) ?_
    refine tb_ge qlo_154 (by decide) ⟨by omega, by omega⟩ ⟨by omega, by omega⟩ (fun c2 => ?_) (fun c2 => absurd c2 (by omega))
    show t_X d 215 205 lv [] g P
    exact hC n _ (fun hn => (hN hn).imp id (fun ⟨k2, a1, a2⟩ => ⟨k2, by omega, a2⟩)) l0 l3 l4 l5
  | succ m ih =>
    intro k n lv hm hk hN l0 l3 l4 l5 l7
    by_cases hks : k = sM
    · refine t_0 qlo_148 rfl (ld_i l7) ?_
      refine t_0 qlo_150 rfl (ld_a l0) ?_
      have r1 := gb_f hJ.1 (y := 71) rfl rfl gf_71
      refine t_0 qlo_151 rfl (pq_gf (y := 71) rfl) ?_
      refine tb_ge qlo_154 (by decide) ⟨by omega, by omega⟩ ⟨by omega, by omega⟩ (fun c2 => ?_) (fun c2 => absurd c2 (by omega))
      show t_X d 215 205 lv [] g P
      exact hC n _ (fun hn => (hN hn).imp id (fun ⟨k2, a1, a2⟩ => ⟨k2, by omega, a2⟩)) l0 l3 l4 l5
    have hx := ix_g (s := e) (k := k) he (by omega)
    refine t_0 qlo_148 rfl (ld_i l7) ?_
    refine t_0 qlo_150 rfl (ld_a l0) ?_
    have r1 := gb_f hJ.1 (y := 71) rfl rfl gf_71
    refine t_0 qlo_151 rfl (pq_gf (y := 71) rfl) ?_
    refine tb_ge qlo_154 (by decide) ⟨by omega, by omega⟩ ⟨by omega, by omega⟩ (fun c2 => ?_) (fun c2 => ?_)
    · show t_X d 215 205 lv [] g P
      exact hC n _ (fun hn => (hN hn).imp id (fun ⟨k2, a1, a2⟩ => ⟨k2, by omega, a2⟩)) l0 l3 l4 l5
    · show t_X d 215 157 lv [] g P
      refine t_0 qlo_157 rfl (ld_i l4) ?_
      refine t_0 qlo_159 rfl (ld_i l7) ?_
      refine t_3 qlo_161 rfl (ar := ([oI ((e : Int)), oI ((k : Int))], [])) (pcal_s ⟨Or.inl rfl, rfl, Nat.le_of_ble_eq_true rfl⟩) ⟨by omega, Nat.le_of_ble_eq_true rfl, Nat.le_of_ble_eq_true rfl, rfl⟩ ?_
      refine has_run (fun t3 => ?_) (fun t3 => ?_)
      · show t_X d 215 164 lv [oI (1)] g P
        refine tz_ne qlo_164 (by decide) ⟨by omega, by omega⟩ (fun c4 => ?_) (fun c4 => absurd c4 (by omega))
        show t_X d 215 199 lv [] g P
        refine t_2 qlo_199 rfl (w := (px_s1 lv 7 (oI ((k : Int) + 1)), [])) (pq_inc l7 (by decide)) ?_
        replace l0 : px_lg (px_s1 lv 7 (oI ((k : Int) + 1))) 0 = some (pvR 196) := s1_ne (by decide) (fun _ => rfl) l0
        replace l3 : px_lg (px_s1 lv 7 (oI ((k : Int) + 1))) 3 = some (oI (((2 ^ sM - 1 : Nat) : Int))) := s1_ne (by decide) (fun _ => rfl) l3
        replace l4 : px_lg (px_s1 lv 7 (oI ((k : Int) + 1))) 4 = some (oI ((e : Int))) := s1_ne (by decide) (fun _ => rfl) l4
        replace l5 : px_lg (px_s1 lv 7 (oI ((k : Int) + 1))) 5 = some (.inr (.inl (n))) := s1_ne (by decide) (fun z => absurd z (by decide)) l5
        have l7 : px_lg (px_s1 lv 7 (oI ((k : Int) + 1))) 7 = some (oI ((k : Int) + 1)) := s1_eq
        generalize px_s1 lv 7 (oI ((k : Int) + 1)) = lv5 at l0 l3 l4 l5 l7 ⊢
        show t_X d 215 202 lv5 [] g P
        refine t_1 qlo_202 rfl (pb_goto (pc := 202) (by decide)) ?_
        show t_X d 215 148 lv5 [] g P
        exact ih (k + 1) n _ (by omega) (by omega) (fun hn => (hN hn).imp id (fun ⟨k2, a1, a2⟩ => ⟨k2, by omega, a2⟩)) l0 l3 l4 l5 l7
      · show t_X d 215 164 lv [oI (0)] g P
        refine tz_ne qlo_164 (by decide) ⟨by omega, by omega⟩ (fun c6 => absurd c6 (by omega)) (fun c6 => ?_)
        show t_X d 215 167 lv [] g P
        refine t_0 qlo_167 rfl (ld_a l0) ?_
        refine t_0 qlo_168 rfl (ar_69 hJ.1) ?_
        refine t_0 qlo_171 rfl (ld_i l7) ?_
        refine t_0 qlo_173 rfl (pq_ia el_239 rfl ⟨by omega, by omega⟩) ?_
        show t_X d 215 174 lv [oI (fA g 239 k)] g P
        have r7 := fA_b g 239 k
        refine t_0 qlo_174 rfl (ld_i l4) ?_
        refine t_0 qlo_176 rfl rfl ?_
        refine t_0 qlo_177 rfl rfl ?_
        refine t_0 qlo_178 rfl rfl ?_
        refine tx_ne qlo_179 (by decide) (fun c8 => ?_) (fun c8 => ?_)
        · show t_X d 215 199 lv [] g P
          refine t_2 qlo_199 rfl (w := (px_s1 lv 7 (oI ((k : Int) + 1)), [])) (pq_inc l7 (by decide)) ?_
          replace l0 : px_lg (px_s1 lv 7 (oI ((k : Int) + 1))) 0 = some (pvR 196) := s1_ne (by decide) (fun _ => rfl) l0
          replace l3 : px_lg (px_s1 lv 7 (oI ((k : Int) + 1))) 3 = some (oI (((2 ^ sM - 1 : Nat) : Int))) := s1_ne (by decide) (fun _ => rfl) l3
          replace l4 : px_lg (px_s1 lv 7 (oI ((k : Int) + 1))) 4 = some (oI ((e : Int))) := s1_ne (by decide) (fun _ => rfl) l4
          replace l5 : px_lg (px_s1 lv 7 (oI ((k : Int) + 1))) 5 = some (.inr (.inl (n))) := s1_ne (by decide) (fun z => absurd z (by decide)) l5
          have l7 : px_lg (px_s1 lv 7 (oI ((k : Int) + 1))) 7 = some (oI ((k : Int) + 1)) := s1_eq
          generalize px_s1 lv 7 (oI ((k : Int) + 1)) = lv9 at l0 l3 l4 l5 l7 ⊢
          show t_X d 215 202 lv9 [] g P
          refine t_1 qlo_202 rfl (pb_goto (pc := 202) (by decide)) ?_
          show t_X d 215 148 lv9 [] g P
          exact ih (k + 1) n _ (by omega) (by omega) (fun hn => (hN hn).imp id (fun ⟨k2, a1, a2⟩ => ⟨k2, by omega, a2⟩)) l0 l3 l4 l5 l7
        · show t_X d 215 182 lv [] g P
          refine t_0 qlo_182 rfl (ld_l l5) ?_
          refine t_0 qlo_184 rfl (ld_a l0) ?_
          refine t_0 qlo_185 rfl (ar_70 hJ.1) ?_
          refine t_0 qlo_188 rfl (ld_i l4) ?_
          refine t_0 qlo_190 rfl rfl ?_
          refine t_0 qlo_191 rfl (ld_i l7) ?_
          refine t_0 qlo_193 rfl rfl ?_
          refine t_0 qlo_194 rfl rfl ?_
          refine t_0 qlo_195 rfl (pq_la el_240 ⟨hx.1, hx.2.1⟩) ?_
          refine t_0 qlo_196 rfl rfl ?_
          refine t_2 qlo_197 rfl (w := (px_s2 lv 5 (.inr (.inl ((n) + (g.2.2.2.2.1 240 ((Int32.ofInt ((e : Int))) ||| ((Int32.ofInt (1)) <<< ((Int32.ofInt ((k : Int))) &&& 31))).toInt.toNat)))), [])) rfl ?_
          replace l0 : px_lg (px_s2 lv 5 (.inr (.inl ((n) + (g.2.2.2.2.1 240 ((Int32.ofInt ((e : Int))) ||| ((Int32.ofInt (1)) <<< ((Int32.ofInt ((k : Int))) &&& 31))).toInt.toNat))))) 0 = some (pvR 196) := s2_ne (by decide) (fun _ => rfl) l0
          replace l3 : px_lg (px_s2 lv 5 (.inr (.inl ((n) + (g.2.2.2.2.1 240 ((Int32.ofInt ((e : Int))) ||| ((Int32.ofInt (1)) <<< ((Int32.ofInt ((k : Int))) &&& 31))).toInt.toNat))))) 3 = some (oI (((2 ^ sM - 1 : Nat) : Int))) := s2_ne (by decide) (fun _ => rfl) l3
          replace l4 : px_lg (px_s2 lv 5 (.inr (.inl ((n) + (g.2.2.2.2.1 240 ((Int32.ofInt ((e : Int))) ||| ((Int32.ofInt (1)) <<< ((Int32.ofInt ((k : Int))) &&& 31))).toInt.toNat))))) 4 = some (oI ((e : Int))) := s2_ne (by decide) (fun _ => rfl) l4
          replace l7 : px_lg (px_s2 lv 5 (.inr (.inl ((n) + (g.2.2.2.2.1 240 ((Int32.ofInt ((e : Int))) ||| ((Int32.ofInt (1)) <<< ((Int32.ofInt ((k : Int))) &&& 31))).toInt.toNat))))) 7 = some (oI ((k : Int))) := s2_ne (by decide) (fun _ => rfl) l7
          have l5 : px_lg (px_s2 lv 5 (.inr (.inl ((n) + (g.2.2.2.2.1 240 ((Int32.ofInt ((e : Int))) ||| ((Int32.ofInt (1)) <<< ((Int32.ofInt ((k : Int))) &&& 31))).toInt.toNat))))) 5 = some (.inr (.inl ((n) + (g.2.2.2.2.1 240 ((Int32.ofInt ((e : Int))) ||| ((Int32.ofInt (1)) <<< ((Int32.ofInt ((k : Int))) &&& 31))).toInt.toNat)))) := s2_eq
          generalize px_s2 lv 5 (.inr (.inl ((n) + (g.2.2.2.2.1 240 ((Int32.ofInt ((e : Int))) ||| ((Int32.ofInt (1)) <<< ((Int32.ofInt ((k : Int))) &&& 31))).toInt.toNat)))) = lv10 at l0 l3 l4 l7 l5 ⊢
          show t_X d 215 199 lv10 [] g P
          refine t_2 qlo_199 rfl (w := (px_s1 lv10 7 (oI ((k : Int) + 1)), [])) (pq_inc l7 (by decide)) ?_
          replace l0 : px_lg (px_s1 lv10 7 (oI ((k : Int) + 1))) 0 = some (pvR 196) := s1_ne (by decide) (fun _ => rfl) l0
          replace l3 : px_lg (px_s1 lv10 7 (oI ((k : Int) + 1))) 3 = some (oI (((2 ^ sM - 1 : Nat) : Int))) := s1_ne (by decide) (fun _ => rfl) l3
          replace l4 : px_lg (px_s1 lv10 7 (oI ((k : Int) + 1))) 4 = some (oI ((e : Int))) := s1_ne (by decide) (fun _ => rfl) l4
          replace l5 : px_lg (px_s1 lv10 7 (oI ((k : Int) + 1))) 5 = some (.inr (.inl ((n) + (g.2.2.2.2.1 240 ((Int32.ofInt ((e : Int))) ||| ((Int32.ofInt (1)) <<< ((Int32.ofInt ((k : Int))) &&& 31))).toInt.toNat)))) := s1_ne (by decide) (fun z => absurd z (by decide)) l5
          have l7 : px_lg (px_s1 lv10 7 (oI ((k : Int) + 1))) 7 = some (oI ((k : Int) + 1)) := s1_eq
          generalize px_s1 lv10 7 (oI ((k : Int) + 1)) = lv11 at l0 l3 l4 l5 l7 ⊢
          show t_X d 215 202 lv11 [] g P
          refine t_1 qlo_202 rfl (pb_goto (pc := 202) (by decide)) ?_
          show t_X d 215 148 lv11 [] g P
          refine ih (k + 1) _ _ (by omega) (by omega) (fun hn => ?_) l0 l3 l4 l5 l7
          by_cases q : n = 0
          · refine Or.inr ⟨k, by omega, ⟨t3, c8⟩, fun q2 => hn ?_⟩
            show n + Lw g (ixC e k).toInt.toNat = 0
            rw [q, q2]
            decide
          · exact (hN q).imp id (fun ⟨k2, a1, a2⟩ => ⟨k2, by omega, a2⟩)
set_option maxHeartbeats 4000000 in
theorem lo_5 {d sM : Nat} (hs : sM ≤ 12) {h0 g : pH} {mb : Nat → Int} (hJ : J_ Wo h0 g) (hmb : fA g 239 = mb) {e : Nat} (hZ : Zp sM g e) (he : e ≤ 2 ^ sM - 1) {n : Int64} {lv : List (Nat × pv)} {P : Option pv × pH → Prop} (hN : n ≠ 0 → e = 2 ^ sM - 1 ∨ ∃ k, k < sM ∧ okC (fA g 239) e k ∧ Lw g (ixC e k).toInt.toNat ≠ 0) (l0 : px_lg lv 0 = some (pvR 196)) (l3 : px_lg lv 3 = some (oI ((2 ^ sM - 1 : Nat) : Int))) (l4 : px_lg lv 4 = some (oI (e : Int))) (l5 : px_lg lv 5 = some (.inr (.inl n))) (hC : ∀ (g2 : pH) (lv2 : List (Nat × pv)), J_ Wo h0 g2 → fA g2 239 = mb → Zp sM g2 ((e : Int) + (-1)) → px_lg lv2 0 = some (pvR 196) → px_lg lv2 3 = some (oI ((2 ^ sM - 1 : Nat) : Int)) → px_lg lv2 4 = some (oI ((e : Int) + (-1))) → t_X d 215 127 lv2 [] g2 P) : t_X d 215 205 lv [] g P := by
  have hp := pw_12 hs
  have w_a240 := Wo_1.2.1
  refine t_0 qlo_205 rfl (ld_a l0) ?_
  refine t_0 qlo_206 rfl (ar_70 hJ.1) ?_
  refine t_0 qlo_209 rfl (ld_i l4) ?_
  refine t_0 qlo_211 rfl (ld_l l5) ?_
  refine tw_l qlo_213 hJ el_240 rfl w_a240 ga_240 ⟨by omega, by omega⟩ (fun g1 hJ1 f1 a1 v1 b1 => ?_)
  replace f1 := fF_1 f1
  show t_X d 215 214 lv [] g1 P
  refine t_2 qlo_214 rfl (w := (px_s1 lv 4 (oI ((e : Int) + (-1))), [])) (pq_inc l4 (by decide)) ?_
  replace l0 : px_lg (px_s1 lv 4 (oI ((e : Int) + (-1)))) 0 = some (pvR 196) := s1_ne (by decide) (fun _ => rfl) l0
  replace l3 : px_lg (px_s1 lv 4 (oI ((e : Int) + (-1)))) 3 = some (oI (((2 ^ sM - 1 : Nat) : Int))) := s1_ne (by decide) (fun _ => rfl) l3
  replace l5 : px_lg (px_s1 lv 4 (oI ((e : Int) + (-1)))) 5 = some (.inr (.inl (n))) := s1_ne (by decide) (fun z => absurd z (by decide)) l5
  have l4 : px_lg (px_s1 lv 4 (oI ((e : Int) + (-1)))) 4 = some (oI ((e : Int) + (-1))) := s1_eq
  generalize px_s1 lv 4 (oI ((e : Int) + (-1))) = lv2 at l0 l3 l5 l4 ⊢
  show t_X d 215 217 lv2 [] g1 P
  refine t_1 qlo_217 rfl (pb_goto (pc := 217) (by decide)) ?_
  show t_X d 215 127 lv2 [] g1 P
  refine hC _ _ hJ1 (by rw [show fA g1 = fA g from by unfold fA; rw [a1]]; exact hmb) ?_ l0 l3 l4
  have hA : fA g1 = fA g := by
    unfold fA
    rw [a1]
  have hL : ∀ u, u ≠ e → Lw g1 u = Lw g u := fun u hu => b1 u hu
  have hLe : Lw g1 e = n := v1
  intro s h1 h2 h3
  by_cases q : s = e
  · subst q
    rw [hLe] at h3
    rcases hN h3 with h | ⟨k, k1, k2, k3⟩
    · omega
    · refine ⟨k, k1, by rw [hA]; exact k2, ?_⟩
      have := (ix_g (s := s) (k := k) (by omega) (by omega)).2.2 k2.1
      rw [hL _ (by omega)]
      exact k3
  · rw [hL _ q] at h3
    obtain ⟨k, k1, k2, k3⟩ := hZ s (by omega) h2 h3
    refine ⟨k, k1, by rw [hA]; exact k2, ?_⟩
    have := (ix_g (s := s) (k := k) (by omega) (by omega)).2.2 k2.1
    rw [hL _ (by omega)]
    exact k3
set_option maxHeartbeats 4000000 in
theorem lo_3 {d sM : Nat} (hd : 1 ≤ d) (hs : sM ≤ 12) {h0 : pH} (h71 : fF h0 71 = sM) {mb : Nat → Int} {P : Option pv × pH → Prop} (hP : ∀ g : pH, J_ Wo h0 g → Zp sM g (-1) → P (some (.inr (.inl (Lw g 0))), g)) : ∀ (m : Nat) (x : Int) (g : pH) (lv : List (Nat × pv)), x + 1 ≤ m → -1 ≤ x ∧ x ≤ ((2 ^ sM - 1 : Nat) : Int) → J_ Wo h0 g → fA g 239 = mb → Zp sM g x → px_lg lv 0 = some (pvR 196) → px_lg lv 3 = some (oI ((2 ^ sM - 1 : Nat) : Int)) → px_lg lv 4 = some (oI x) → t_X d 215 127 lv [] g P := by
  have hp := pw_12 hs
  intro m
  induction m with
  | zero =>
    intro x g lv hm hx hJ hmb hZ l0 l3 l4
    have hx : x = -1 := by omega
    refine t_0 qlo_127 rfl (ld_i l4) ?_
    refine tz_lt qlo_129 (by decide) ⟨by omega, by omega⟩ (fun c1 => ?_) (fun c1 => absurd c1 (by omega))
    show t_X d 215 220 lv [] g P
    refine t_0 qlo_220 rfl (ld_a l0) ?_
    refine t_0 qlo_221 rfl (ar_70 hJ.1) ?_
    refine t_0 qlo_224 rfl rfl ?_
    refine t_0 qlo_225 rfl (pq_la el_240 ⟨by decide, by decide⟩) ?_
    refine t_5 qlo_226 rfl rfl ?_
    exact hP _ hJ (by rw [hx] at hZ; exact hZ)
  | succ m ih =>
    intro x g lv hm hx hJ hmb hZ l0 l3 l4
    by_cases hneg : x < 0
    · have hx : x = -1 := by omega
      refine t_0 qlo_127 rfl (ld_i l4) ?_
      refine tz_lt qlo_129 (by decide) ⟨by omega, by omega⟩ (fun c1 => ?_) (fun c1 => absurd c1 (by omega))
      show t_X d 215 220 lv [] g P
      refine t_0 qlo_220 rfl (ld_a l0) ?_
      refine t_0 qlo_221 rfl (ar_70 hJ.1) ?_
      refine t_0 qlo_224 rfl rfl ?_
      refine t_0 qlo_225 rfl (pq_la el_240 ⟨by decide, by decide⟩) ?_
      refine t_5 qlo_226 rfl rfl ?_
      exact hP _ hJ (by rw [hx] at hZ; exact hZ)
    obtain ⟨e, rfl⟩ : ∃ e : Nat, x = e := ⟨x.toNat, by omega⟩
    have he : e ≤ 2 ^ sM - 1 := by omega
    refine t_0 qlo_127 rfl (ld_i l4) ?_
    refine tz_lt qlo_129 (by decide) ⟨by omega, by omega⟩ (fun c1 => absurd c1 (by omega)) (fun c1 => ?_)
    show t_X d 215 132 lv [] g P
    refine t_0 qlo_132 rfl (ld_i l4) ?_
    refine t_0 qlo_134 rfl (ld_i l3) ?_
    refine tb_ne qlo_135 (by decide) ⟨by omega, by omega⟩ ⟨by omega, by omega⟩ (fun c2 => ?_) (fun c2 => ?_)
    · show t_X d 215 142 lv [] g P
      refine t_0 qlo_142 rfl rfl ?_
      refine t_2 qlo_143 rfl (w := (px_s2 lv 5 (.inr (.inl (Int64.ofNat 0))), [])) rfl ?_
      replace l0 : px_lg (px_s2 lv 5 (.inr (.inl (Int64.ofNat 0)))) 0 = some (pvR 196) := s2_ne (by decide) (fun _ => rfl) l0
      replace l3 : px_lg (px_s2 lv 5 (.inr (.inl (Int64.ofNat 0)))) 3 = some (oI (((2 ^ sM - 1 : Nat) : Int))) := s2_ne (by decide) (fun _ => rfl) l3
      replace l4 : px_lg (px_s2 lv 5 (.inr (.inl (Int64.ofNat 0)))) 4 = some (oI ((e : Int))) := s2_ne (by decide) (fun _ => rfl) l4
      have l5 : px_lg (px_s2 lv 5 (.inr (.inl (Int64.ofNat 0)))) 5 = some (.inr (.inl (Int64.ofNat 0))) := s2_eq
      generalize px_s2 lv 5 (.inr (.inl (Int64.ofNat 0))) = lv3 at l0 l3 l4 l5 ⊢
      show t_X d 215 145 lv3 [] g P
      refine t_0 qlo_145 rfl rfl ?_
      refine t_2 qlo_146 rfl (w := (px_s1 lv3 7 (oI (0)), [])) rfl ?_
      replace l0 : px_lg (px_s1 lv3 7 (oI (0))) 0 = some (pvR 196) := s1_ne (by decide) (fun _ => rfl) l0
      replace l3 : px_lg (px_s1 lv3 7 (oI (0))) 3 = some (oI (((2 ^ sM - 1 : Nat) : Int))) := s1_ne (by decide) (fun _ => rfl) l3
      replace l4 : px_lg (px_s1 lv3 7 (oI (0))) 4 = some (oI ((e : Int))) := s1_ne (by decide) (fun _ => rfl) l4
      replace l5 : px_lg (px_s1 lv3 7 (oI (0))) 5 = some (.inr (.inl (Int64.ofNat 0))) := s1_ne (by decide) (fun z => absurd z (by decide)) l5
      have l7 : px_lg (px_s1 lv3 7 (oI (0))) 7 = some (oI (0)) := s1_eq
      generalize px_s1 lv3 7 (oI (0)) = lv4 at l0 l3 l4 l5 l7 ⊢
      show t_X d 215 148 lv4 [] g P
      refine lo_4 hd hs (J_rf hJ.1) (by rw [fF_M hJ.2 Wo_1.2.2.2.1, h71]) (e := e) (by have := pw_12 hs; omega) (fun n9 lv9 hN9 u0 u3 u4 u5 => ?_) sM 0 _ _ (by omega) (by omega) (fun hn => absurd (by decide) hn) l0 l3 l4 l5 l7
      exact lo_5 hs hJ hmb hZ he hN9 u0 u3 u4 u5 (fun g2 lv2 hJ2 hmb2 hZ2 v0 v3 v4 => ih _ _ _ (by omega) (by omega) hJ2 hmb2 hZ2 v0 v3 v4)
    · show t_X d 215 138 lv [] g P
      refine t_0 qlo_138 rfl rfl ?_
      refine t_1 qlo_139 rfl (pb_goto (pc := 139) (by decide)) ?_
      show t_X d 215 143 lv [.inr (.inl (Int64.ofNat 1))] g P
      refine t_2 qlo_143 rfl (w := (px_s2 lv 5 (.inr (.inl (Int64.ofNat 1))), [])) rfl ?_
      replace l0 : px_lg (px_s2 lv 5 (.inr (.inl (Int64.ofNat 1)))) 0 = some (pvR 196) := s2_ne (by decide) (fun _ => rfl) l0
      replace l3 : px_lg (px_s2 lv 5 (.inr (.inl (Int64.ofNat 1)))) 3 = some (oI (((2 ^ sM - 1 : Nat) : Int))) := s2_ne (by decide) (fun _ => rfl) l3
      replace l4 : px_lg (px_s2 lv 5 (.inr (.inl (Int64.ofNat 1)))) 4 = some (oI ((e : Int))) := s2_ne (by decide) (fun _ => rfl) l4
      have l5 : px_lg (px_s2 lv 5 (.inr (.inl (Int64.ofNat 1)))) 5 = some (.inr (.inl (Int64.ofNat 1))) := s2_eq
      generalize px_s2 lv 5 (.inr (.inl (Int64.ofNat 1))) = lv5 at l0 l3 l4 l5 ⊢
      show t_X d 215 145 lv5 [] g P
      refine t_0 qlo_145 rfl rfl ?_
      refine t_2 qlo_146 rfl (w := (px_s1 lv5 7 (oI (0)), [])) rfl ?_
      replace l0 : px_lg (px_s1 lv5 7 (oI (0))) 0 = some (pvR 196) := s1_ne (by decide) (fun _ => rfl) l0
      replace l3 : px_lg (px_s1 lv5 7 (oI (0))) 3 = some (oI (((2 ^ sM - 1 : Nat) : Int))) := s1_ne (by decide) (fun _ => rfl) l3
      replace l4 : px_lg (px_s1 lv5 7 (oI (0))) 4 = some (oI ((e : Int))) := s1_ne (by decide) (fun _ => rfl) l4
      replace l5 : px_lg (px_s1 lv5 7 (oI (0))) 5 = some (.inr (.inl (Int64.ofNat 1))) := s1_ne (by decide) (fun z => absurd z (by decide)) l5
      have l7 : px_lg (px_s1 lv5 7 (oI (0))) 7 = some (oI (0)) := s1_eq
      generalize px_s1 lv5 7 (oI (0)) = lv6 at l0 l3 l4 l5 l7 ⊢
      show t_X d 215 148 lv6 [] g P
      refine lo_4 hd hs (J_rf hJ.1) (by rw [fF_M hJ.2 Wo_1.2.2.2.1, h71]) (e := e) (by have := pw_12 hs; omega) (fun n9 lv9 hN9 u0 u3 u4 u5 => ?_) sM 0 _ _ (by omega) (by omega) (fun hn => Or.inl (by omega)) l0 l3 l4 l5 l7
      exact lo_5 hs hJ hmb hZ he hN9 u0 u3 u4 u5 (fun g2 lv2 hJ2 hmb2 hZ2 v0 v3 v4 => ih _ _ _ (by omega) (by omega) hJ2 hmb2 hZ2 v0 v3 v4)
set_option maxHeartbeats 4000000 in
theorem lo_n {d sM : Nat} (hd : 1 ≤ d) (hs : sM ≤ 12) {h0 : pH} (h71 : fF h0 71 = sM) {a b : Int} (hab : (a = -1) ∨ (-2147483648 ≤ a ∧ a ≤ 2147483647 ∧ 0 ≤ b ∧ b < 12)) {P : Option pv × pH → Prop} (hP : ∀ g : pH, J_ Wo h0 g → Zp sM g (-1) → P (some (.inr (.inl (Lw g 0))), g)) {g : pH} {lv : List (Nat × pv)} (hJ : J_ Wo h0 g) (l0 : px_lg lv 0 = some (pvR 196)) (l1 : px_lg lv 1 = some (oI a)) (l2 : px_lg lv 2 = some (oI b)) : t_X d 215 94 lv [] g P := by
  have hp := pw_12 hs
  have hp1 : 1 ≤ 2 ^ sM := Nat.one_le_two_pow
  have w_a239 := Wo_1.1
  refine t_0 qlo_94 rfl (ld_i l1) ?_
  refine t_0 qlo_95 rfl rfl ?_
  refine tb_eq qlo_96 (by decide) ⟨by omega, by omega⟩ ⟨by omega, by omega⟩ (fun c1 => ?_) (fun c1 => ?_)
  · show t_X d 215 115 lv [] g P
    refine t_0 qlo_115 rfl rfl ?_
    refine t_0 qlo_116 rfl (ld_a l0) ?_
    have r2 := gb_f hJ.1 (y := 71) rfl rfl gf_71
    refine t_0 qlo_117 rfl (pq_gf (y := 71) rfl) ?_
    rw [show fF g 71 = (sM : Int) from by rw [fF_M hJ.2 Wo_1.2.2.2.1, h71]]
    refine t_0 qlo_120 rfl rfl ?_
    refine t_0 qlo_121 rfl rfl ?_
    refine t_0 qlo_122 rfl rfl ?_
    show t_X d 215 123 lv [.inl (((Int32.ofInt (1)) <<< ((Int32.ofInt ((sM : Int))) &&& 31)) - (Int32.ofInt (1)))] g P
    rw [allC hs]
    show t_X d 215 123 lv [oI (((2 ^ sM - 1 : Nat) : Int))] g P
    refine t_2 qlo_123 rfl (w := (px_s1 lv 3 (oI (((2 ^ sM - 1 : Nat) : Int))), [])) rfl ?_
    replace l0 : px_lg (px_s1 lv 3 (oI (((2 ^ sM - 1 : Nat) : Int)))) 0 = some (pvR 196) := s1_ne (by decide) (fun _ => rfl) l0
    replace l1 : px_lg (px_s1 lv 3 (oI (((2 ^ sM - 1 : Nat) : Int)))) 1 = some (oI (a)) := s1_ne (by decide) (fun _ => rfl) l1
    replace l2 : px_lg (px_s1 lv 3 (oI (((2 ^ sM - 1 : Nat) : Int)))) 2 = some (oI (b)) := s1_ne (by decide) (fun _ => rfl) l2
    have l3 : px_lg (px_s1 lv 3 (oI (((2 ^ sM - 1 : Nat) : Int)))) 3 = some (oI (((2 ^ sM - 1 : Nat) : Int))) := s1_eq
    generalize px_s1 lv 3 (oI (((2 ^ sM - 1 : Nat) : Int))) = lv3 at l0 l1 l2 l3 ⊢
    show t_X d 215 124 lv3 [] g P
    refine t_0 qlo_124 rfl (ld_i l3) ?_
    refine t_2 qlo_125 rfl (w := (px_s1 lv3 4 (oI (((2 ^ sM - 1 : Nat) : Int))), [])) rfl ?_
    replace l0 : px_lg (px_s1 lv3 4 (oI (((2 ^ sM - 1 : Nat) : Int)))) 0 = some (pvR 196) := s1_ne (by decide) (fun _ => rfl) l0
    replace l1 : px_lg (px_s1 lv3 4 (oI (((2 ^ sM - 1 : Nat) : Int)))) 1 = some (oI (a)) := s1_ne (by decide) (fun _ => rfl) l1
    replace l2 : px_lg (px_s1 lv3 4 (oI (((2 ^ sM - 1 : Nat) : Int)))) 2 = some (oI (b)) := s1_ne (by decide) (fun _ => rfl) l2
    replace l3 : px_lg (px_s1 lv3 4 (oI (((2 ^ sM - 1 : Nat) : Int)))) 3 = some (oI (((2 ^ sM - 1 : Nat) : Int))) := s1_ne (by decide) (fun _ => rfl) l3
    have l4 : px_lg (px_s1 lv3 4 (oI (((2 ^ sM - 1 : Nat) : Int)))) 4 = some (oI (((2 ^ sM - 1 : Nat) : Int))) := s1_eq
    generalize px_s1 lv3 4 (oI (((2 ^ sM - 1 : Nat) : Int))) = lv4 at l0 l1 l2 l3 l4 ⊢
    show t_X d 215 127 lv4 [] g P
    exact lo_3 hd hs h71 (mb := fA g 239) hP (2 ^ sM) _ _ _ (by omega) (by omega) hJ rfl (fun s h1 h2 => absurd h2 (by omega)) l0 l3 l4
  · show t_X d 215 99 lv [] g P
    refine t_0 qlo_99 rfl (ld_a l0) ?_
    refine t_0 qlo_100 rfl (ar_69 hJ.1) ?_
    refine t_0 qlo_103 rfl (ld_i l2) ?_
    refine t_0 qlo_104 rfl (ld_a l0) ?_
    refine t_0 qlo_105 rfl (ar_69 hJ.1) ?_
    refine t_0 qlo_108 rfl (ld_i l2) ?_
    refine t_0 qlo_109 rfl (pq_ia el_239 rfl ⟨by omega, by omega⟩) ?_
    have r5 := fA_b g 239 b.toNat
    refine t_0 qlo_110 rfl rfl ?_
    refine t_0 qlo_111 rfl (ld_i l1) ?_
    refine t_0 qlo_112 rfl rfl ?_
    refine t_0 qlo_113 rfl rfl ?_
    refine tw_ax qlo_114 hJ el_239 rfl w_a239 ga_239 ⟨by omega, by omega⟩ (fun g6 hJ6 a6 f6 => ?_)
    replace f6 := fF_1 f6
    show t_X d 215 115 lv [] g6 P
    refine t_0 qlo_115 rfl rfl ?_
    refine t_0 qlo_116 rfl (ld_a l0) ?_
    have r7 := gb_f hJ6.1 (y := 71) rfl rfl gf_71
    refine t_0 qlo_117 rfl (pq_gf (y := 71) rfl) ?_
    rw [show fF g6 71 = (sM : Int) from by rw [fF_M hJ6.2 Wo_1.2.2.2.1, h71]]
    refine t_0 qlo_120 rfl rfl ?_
    refine t_0 qlo_121 rfl rfl ?_
    refine t_0 qlo_122 rfl rfl ?_
    show t_X d 215 123 lv [.inl (((Int32.ofInt (1)) <<< ((Int32.ofInt ((sM : Int))) &&& 31)) - (Int32.ofInt (1)))] g6 P
    rw [allC hs]
    show t_X d 215 123 lv [oI (((2 ^ sM - 1 : Nat) : Int))] g6 P
    refine t_2 qlo_123 rfl (w := (px_s1 lv 3 (oI (((2 ^ sM - 1 : Nat) : Int))), [])) rfl ?_
    replace l0 : px_lg (px_s1 lv 3 (oI (((2 ^ sM - 1 : Nat) : Int)))) 0 = some (pvR 196) := s1_ne (by decide) (fun _ => rfl) l0
    replace l1 : px_lg (px_s1 lv 3 (oI (((2 ^ sM - 1 : Nat) : Int)))) 1 = some (oI (a)) := s1_ne (by decide) (fun _ => rfl) l1
    replace l2 : px_lg (px_s1 lv 3 (oI (((2 ^ sM - 1 : Nat) : Int)))) 2 = some (oI (b)) := s1_ne (by decide) (fun _ => rfl) l2
    have l3 : px_lg (px_s1 lv 3 (oI (((2 ^ sM - 1 : Nat) : Int)))) 3 = some (oI (((2 ^ sM - 1 : Nat) : Int))) := s1_eq
    generalize px_s1 lv 3 (oI (((2 ^ sM - 1 : Nat) : Int))) = lv8 at l0 l1 l2 l3 ⊢
    show t_X d 215 124 lv8 [] g6 P
    refine t_0 qlo_124 rfl (ld_i l3) ?_
    refine t_2 qlo_125 rfl (w := (px_s1 lv8 4 (oI (((2 ^ sM - 1 : Nat) : Int))), [])) rfl ?_
    replace l0 : px_lg (px_s1 lv8 4 (oI (((2 ^ sM - 1 : Nat) : Int)))) 0 = some (pvR 196) := s1_ne (by decide) (fun _ => rfl) l0
    replace l1 : px_lg (px_s1 lv8 4 (oI (((2 ^ sM - 1 : Nat) : Int)))) 1 = some (oI (a)) := s1_ne (by decide) (fun _ => rfl) l1
    replace l2 : px_lg (px_s1 lv8 4 (oI (((2 ^ sM - 1 : Nat) : Int)))) 2 = some (oI (b)) := s1_ne (by decide) (fun _ => rfl) l2
    replace l3 : px_lg (px_s1 lv8 4 (oI (((2 ^ sM - 1 : Nat) : Int)))) 3 = some (oI (((2 ^ sM - 1 : Nat) : Int))) := s1_ne (by decide) (fun _ => rfl) l3
    have l4 : px_lg (px_s1 lv8 4 (oI (((2 ^ sM - 1 : Nat) : Int)))) 4 = some (oI (((2 ^ sM - 1 : Nat) : Int))) := s1_eq
    generalize px_s1 lv8 4 (oI (((2 ^ sM - 1 : Nat) : Int))) = lv9 at l0 l1 l2 l3 l4 ⊢
    show t_X d 215 127 lv9 [] g6 P
    exact lo_3 hd hs h71 (mb := fA g6 239) hP (2 ^ sM) _ _ _ (by omega) (by omega) hJ6 rfl (fun s h1 h2 => absurd h2 (by omega)) l0 l3 l4
set_option maxHeartbeats 4000000 in
theorem lo_m {d sM : Nat} (hd : 1 ≤ d) (hs : sM ≤ 12) {h0 : pH} (h71 : fF h0 71 = sM) {a b : Int} (hab : (a = -1) ∨ (-2147483648 ≤ a ∧ a ≤ 2147483647 ∧ 0 ≤ b ∧ b < 12)) {P : Option pv × pH → Prop} (hP : ∀ g : pH, J_ Wo h0 g → Zp sM g (-1) → P (some (.inr (.inl (Lw g 0))), g)) {g : pH} {lv : List (Nat × pv)} (hJ : J_ Wo h0 g) (l0 : px_lg lv 0 = some (pvR 196)) (l1 : px_lg lv 1 = some (oI a)) (l2 : px_lg lv 2 = some (oI b)) : t_X d 215 23 lv [] g P := by
  refine t_0 qlo_23 rfl rfl ?_
  refine t_2 qlo_24 rfl (w := (px_s1 lv 3 (oI (0)), [])) rfl ?_
  replace l0 : px_lg (px_s1 lv 3 (oI (0))) 0 = some (pvR 196) := s1_ne (by decide) (fun _ => rfl) l0
  replace l1 : px_lg (px_s1 lv 3 (oI (0))) 1 = some (oI (a)) := s1_ne (by decide) (fun _ => rfl) l1
  replace l2 : px_lg (px_s1 lv 3 (oI (0))) 2 = some (oI (b)) := s1_ne (by decide) (fun _ => rfl) l2
  have l3 : px_lg (px_s1 lv 3 (oI (0))) 3 = some (oI (0)) := s1_eq
  generalize px_s1 lv 3 (oI (0)) = lv1 at l0 l1 l2 l3 ⊢
  show t_X d 215 25 lv1 [] g P
  exact lo_2 hd (fun g1 lv1 hJ1 u0 u1 u2 => lo_n hd hs h71 hab hP hJ1 u0 u1 u2) 24 0 _ _ (by have := gb_f hJ.1 (y := 22) rfl rfl gf_22; have := fF_M hJ.2 Wo_1.2.2.2.2.1; omega) (by omega) hJ l0 l1 l2 l3
set_option maxHeartbeats 4000000 in
theorem lo_run {d sM : Nat} (hd : 1 ≤ d) (hs : sM ≤ 12) {h0 : pH} (h71 : fF h0 71 = sM) {a b : Int} (hab : (a = -1) ∨ (-2147483648 ≤ a ∧ a ≤ 2147483647 ∧ 0 ≤ b ∧ b < 12)) {P : Option pv × pH → Prop} (hP : ∀ g : pH, J_ Wo h0 g → Zp sM g (-1) → P (some (.inr (.inl (Lw g 0))), g)) {lv : List (Nat × pv)} (hG : g_I eG h0) (l0 : px_lg lv 0 = some (pvR 196)) (l1 : px_lg lv 1 = some (oI a)) (l2 : px_lg lv 2 = some (oI b)) : t_X d 215 0 lv [] h0 P := by
  refine t_0 qlo_0 rfl rfl ?_
  refine t_2 qlo_1 rfl (w := (px_s1 lv 3 (oI (0)), [])) rfl ?_
  replace l0 : px_lg (px_s1 lv 3 (oI (0))) 0 = some (pvR 196) := s1_ne (by decide) (fun _ => rfl) l0
  replace l1 : px_lg (px_s1 lv 3 (oI (0))) 1 = some (oI (a)) := s1_ne (by decide) (fun _ => rfl) l1
  replace l2 : px_lg (px_s1 lv 3 (oI (0))) 2 = some (oI (b)) := s1_ne (by decide) (fun _ => rfl) l2
  have l3 : px_lg (px_s1 lv 3 (oI (0))) 3 = some (oI (0)) := s1_eq
  generalize px_s1 lv 3 (oI (0)) = lv1 at l0 l1 l2 l3 ⊢
  show t_X d 215 2 lv1 [] h0 P
  exact lo_1 (fun g1 lv1 hJ1 u0 u1 u2 => lo_m hd hs h71 hab hP hJ1 u0 u1 u2) 12 0 _ _ (by have := gb_f hG (y := 71) rfl rfl gf_71; omega) (by omega) (J_rf hG) l0 l1 l2 l3
