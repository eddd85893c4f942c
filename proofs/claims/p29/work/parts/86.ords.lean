section
/-! by hand: spiltAt, laysOrders (printed in part by wip/e2/so.py) -/
theorem qlo_0 : xe_look (xc 215) 0 = some (.iconst 0, 1, 0, 0, 0) := by decide +kernel
theorem qlo_1 : xe_look (xc 215) 1 = some (.istore_n 3, 1, 0, 0, 0) := by decide +kernel
theorem qlo_2 : xe_look (xc 215) 2 = some (.iload_n 3, 1, 0, 0, 0) := by decide +kernel
theorem qlo_3 : xe_look (xc 215) 3 = some (.aload_n 0, 1, 0, 0, 0) := by decide +kernel
theorem qlo_4 : xe_look (xc 215) 4 = some (.getfield 491, 3, 12, 71, 1235) := by decide +kernel
theorem qlo_7 : xe_look (xc 215) 7 = some (.if_icmp .ge 16, 3, 0, 0, 0) := by decide +kernel
theorem qlo_10 : xe_look (xc 215) 10 = some (.aload_n 0, 1, 0, 0, 0) := by decide +kernel
theorem qlo_11 : xe_look (xc 215) 11 = some (.getfield 138, 3, 12, 69, 1207) := by decide +kernel
theorem qlo_14 : xe_look (xc 215) 14 = some (.iload_n 3, 1, 0, 0, 0) := by decide +kernel
theorem qlo_15 : xe_look (xc 215) 15 = some (.iconst 0, 1, 0, 0, 0) := by decide +kernel
theorem qlo_16 : xe_look (xc 215) 16 = some (.iastore, 1, 0, 0, 0) := by decide +kernel
theorem qlo_17 : xe_look (xc 215) 17 = some (.iinc 3 1, 3, 0, 0, 0) := by decide +kernel
theorem qlo_20 : xe_look (xc 215) 20 = some (.goto (-18), 3, 0, 0, 0) := by decide +kernel
theorem qlo_23 : xe_look (xc 215) 23 = some (.iconst 0, 1, 0, 0, 0) := by decide +kernel
theorem qlo_24 : xe_look (xc 215) 24 = some (.istore_n 3, 1, 0, 0, 0) := by decide +kernel
theorem qlo_25 : xe_look (xc 215) 25 = some (.iload_n 3, 1, 0, 0, 0) := by decide +kernel
theorem qlo_26 : xe_look (xc 215) 26 = some (.aload_n 0, 1, 0, 0, 0) := by decide +kernel
theorem qlo_27 : xe_look (xc 215) 27 = some (.getfield 212, 3, 12, 22, 1147) := by decide +kernel
theorem qlo_30 : xe_look (xc 215) 30 = some (.if_icmp .ge 64, 3, 0, 0, 0) := by decide +kernel
theorem qlo_33 : xe_look (xc 215) 33 = some (.aload_n 0, 1, 0, 0, 0) := by decide +kernel
theorem qlo_34 : xe_look (xc 215) 34 = some (.aload_n 0, 1, 0, 0, 0) := by decide +kernel
theorem qlo_35 : xe_look (xc 215) 35 = some (.getfield 37, 3, 12, 11, 1148) := by decide +kernel
theorem qlo_38 : xe_look (xc 215) 38 = some (.iload_n 3, 1, 0, 0, 0) := by decide +kernel
theorem qlo_39 : xe_look (xc 215) 39 = some (.iaload, 1, 0, 0, 0) := by decide +kernel
theorem qlo_40 : xe_look (xc 215) 40 = some (.invokevirtual 494, 3, 0, 255, 1236) := by decide +kernel
theorem qlo_43 : xe_look (xc 215) 43 = some (.istore 4, 2, 0, 0, 0) := by decide +kernel
theorem qlo_45 : xe_look (xc 215) 45 = some (.aload_n 0, 1, 0, 0, 0) := by decide +kernel
theorem qlo_46 : xe_look (xc 215) 46 = some (.aload_n 0, 1, 0, 0, 0) := by decide +kernel
theorem qlo_47 : xe_look (xc 215) 47 = some (.getfield 40, 3, 12, 12, 1149) := by decide +kernel
theorem qlo_50 : xe_look (xc 215) 50 = some (.iload_n 3, 1, 0, 0, 0) := by decide +kernel
theorem qlo_51 : xe_look (xc 215) 51 = some (.iaload, 1, 0, 0, 0) := by decide +kernel
theorem qlo_52 : xe_look (xc 215) 52 = some (.invokevirtual 494, 3, 0, 255, 1236) := by decide +kernel
theorem qlo_55 : xe_look (xc 215) 55 = some (.istore 5, 2, 0, 0, 0) := by decide +kernel
theorem qlo_57 : xe_look (xc 215) 57 = some (.iload 4, 2, 0, 0, 0) := by decide +kernel
theorem qlo_59 : xe_look (xc 215) 59 = some (.iconst (-1), 1, 0, 0, 0) := by decide +kernel
theorem qlo_60 : xe_look (xc 215) 60 = some (.if_icmp .eq 28, 3, 0, 0, 0) := by decide +kernel
theorem qlo_63 : xe_look (xc 215) 63 = some (.iload 5, 2, 0, 0, 0) := by decide +kernel
theorem qlo_65 : xe_look (xc 215) 65 = some (.iconst (-1), 1, 0, 0, 0) := by decide +kernel
theorem qlo_66 : xe_look (xc 215) 66 = some (.if_icmp .eq 22, 3, 0, 0, 0) := by decide +kernel
theorem qlo_69 : xe_look (xc 215) 69 = some (.aload_n 0, 1, 0, 0, 0) := by decide +kernel
theorem qlo_70 : xe_look (xc 215) 70 = some (.getfield 138, 3, 12, 69, 1207) := by decide +kernel
theorem qlo_73 : xe_look (xc 215) 73 = some (.iload 5, 2, 0, 0, 0) := by decide +kernel
theorem qlo_75 : xe_look (xc 215) 75 = some (.aload_n 0, 1, 0, 0, 0) := by decide +kernel
theorem qlo_76 : xe_look (xc 215) 76 = some (.getfield 138, 3, 12, 69, 1207) := by decide +kernel
theorem qlo_79 : xe_look (xc 215) 79 = some (.iload 5, 2, 0, 0, 0) := by decide +kernel
theorem qlo_81 : xe_look (xc 215) 81 = some (.iaload, 1, 0, 0, 0) := by decide +kernel
theorem qlo_82 : xe_look (xc 215) 82 = some (.iconst 1, 1, 0, 0, 0) := by decide +kernel
theorem qlo_83 : xe_look (xc 215) 83 = some (.iload 4, 2, 0, 0, 0) := by decide +kernel
theorem qlo_85 : xe_look (xc 215) 85 = some (.ishl, 1, 0, 0, 0) := by decide +kernel
theorem qlo_86 : xe_look (xc 215) 86 = some (.ior, 1, 0, 0, 0) := by decide +kernel
theorem qlo_87 : xe_look (xc 215) 87 = some (.iastore, 1, 0, 0, 0) := by decide +kernel
theorem qlo_88 : xe_look (xc 215) 88 = some (.iinc 3 1, 3, 0, 0, 0) := by decide +kernel
theorem qlo_91 : xe_look (xc 215) 91 = some (.goto (-66), 3, 0, 0, 0) := by decide +kernel
theorem qlo_94 : xe_look (xc 215) 94 = some (.iload_n 1, 1, 0, 0, 0) := by decide +kernel
theorem qlo_95 : xe_look (xc 215) 95 = some (.iconst (-1), 1, 0, 0, 0) := by decide +kernel
theorem qlo_96 : xe_look (xc 215) 96 = some (.if_icmp .eq 19, 3, 0, 0, 0) := by decide +kernel
theorem qlo_99 : xe_look (xc 215) 99 = some (.aload_n 0, 1, 0, 0, 0) := by decide +kernel
theorem qlo_100 : xe_look (xc 215) 100 = some (.getfield 138, 3, 12, 69, 1207) := by decide +kernel
theorem qlo_103 : xe_look (xc 215) 103 = some (.iload_n 2, 1, 0, 0, 0) := by decide +kernel
theorem qlo_104 : xe_look (xc 215) 104 = some (.aload_n 0, 1, 0, 0, 0) := by decide +kernel
theorem qlo_105 : xe_look (xc 215) 105 = some (.getfield 138, 3, 12, 69, 1207) := by decide +kernel
theorem qlo_108 : xe_look (xc 215) 108 = some (.iload_n 2, 1, 0, 0, 0) := by decide +kernel
theorem qlo_109 : xe_look (xc 215) 109 = some (.iaload, 1, 0, 0, 0) := by decide +kernel
theorem qlo_110 : xe_look (xc 215) 110 = some (.iconst 1, 1, 0, 0, 0) := by decide +kernel
theorem qlo_111 : xe_look (xc 215) 111 = some (.iload_n 1, 1, 0, 0, 0) := by decide +kernel
theorem qlo_112 : xe_look (xc 215) 112 = some (.ishl, 1, 0, 0, 0) := by decide +kernel
theorem qlo_113 : xe_look (xc 215) 113 = some (.ior, 1, 0, 0, 0) := by decide +kernel
theorem qlo_114 : xe_look (xc 215) 114 = some (.iastore, 1, 0, 0, 0) := by decide +kernel
theorem qlo_115 : xe_look (xc 215) 115 = some (.iconst 1, 1, 0, 0, 0) := by decide +kernel
theorem qlo_116 : xe_look (xc 215) 116 = some (.aload_n 0, 1, 0, 0, 0) := by decide +kernel
theorem qlo_117 : xe_look (xc 215) 117 = some (.getfield 491, 3, 12, 71, 1235) := by decide +kernel
theorem qlo_120 : xe_look (xc 215) 120 = some (.ishl, 1, 0, 0, 0) := by decide +kernel
theorem qlo_121 : xe_look (xc 215) 121 = some (.iconst 1, 1, 0, 0, 0) := by decide +kernel
theorem qlo_122 : xe_look (xc 215) 122 = some (.isub, 1, 0, 0, 0) := by decide +kernel
theorem qlo_123 : xe_look (xc 215) 123 = some (.istore_n 3, 1, 0, 0, 0) := by decide +kernel
theorem qlo_124 : xe_look (xc 215) 124 = some (.iload_n 3, 1, 0, 0, 0) := by decide +kernel
theorem qlo_125 : xe_look (xc 215) 125 = some (.istore 4, 2, 0, 0, 0) := by decide +kernel
theorem qlo_127 : xe_look (xc 215) 127 = some (.iload 4, 2, 0, 0, 0) := by decide +kernel
theorem qlo_129 : xe_look (xc 215) 129 = some (.ifCond .lt 91, 3, 0, 0, 0) := by decide +kernel
theorem qlo_132 : xe_look (xc 215) 132 = some (.iload 4, 2, 0, 0, 0) := by decide +kernel
theorem qlo_134 : xe_look (xc 215) 134 = some (.iload_n 3, 1, 0, 0, 0) := by decide +kernel
theorem qlo_135 : xe_look (xc 215) 135 = some (.if_icmp .ne 7, 3, 0, 0, 0) := by decide +kernel
theorem qlo_138 : xe_look (xc 215) 138 = some (.lconst 1, 1, 0, 0, 0) := by decide +kernel
theorem qlo_139 : xe_look (xc 215) 139 = some (.goto 4, 3, 0, 0, 0) := by decide +kernel
theorem qlo_142 : xe_look (xc 215) 142 = some (.lconst 0, 1, 0, 0, 0) := by decide +kernel
theorem qlo_143 : xe_look (xc 215) 143 = some (.lstore 5, 2, 0, 0, 0) := by decide +kernel
theorem qlo_145 : xe_look (xc 215) 145 = some (.iconst 0, 1, 0, 0, 0) := by decide +kernel
theorem qlo_146 : xe_look (xc 215) 146 = some (.istore 7, 2, 0, 0, 0) := by decide +kernel
theorem qlo_148 : xe_look (xc 215) 148 = some (.iload 7, 2, 0, 0, 0) := by decide +kernel
theorem qlo_150 : xe_look (xc 215) 150 = some (.aload_n 0, 1, 0, 0, 0) := by decide +kernel
theorem qlo_151 : xe_look (xc 215) 151 = some (.getfield 491, 3, 12, 71, 1235) := by decide +kernel
theorem qlo_154 : xe_look (xc 215) 154 = some (.if_icmp .ge 51, 3, 0, 0, 0) := by decide +kernel
theorem qlo_157 : xe_look (xc 215) 157 = some (.iload 4, 2, 0, 0, 0) := by decide +kernel
theorem qlo_159 : xe_look (xc 215) 159 = some (.iload 7, 2, 0, 0, 0) := by decide +kernel
theorem qlo_161 : xe_look (xc 215) 161 = some (.invokestatic 187, 3, 0, 196, 1121) := by decide +kernel
theorem qlo_164 : xe_look (xc 215) 164 = some (.ifCond .ne 35, 3, 0, 0, 0) := by decide +kernel
theorem qlo_167 : xe_look (xc 215) 167 = some (.aload_n 0, 1, 0, 0, 0) := by decide +kernel
theorem qlo_168 : xe_look (xc 215) 168 = some (.getfield 138, 3, 12, 69, 1207) := by decide +kernel
theorem qlo_171 : xe_look (xc 215) 171 = some (.iload 7, 2, 0, 0, 0) := by decide +kernel
theorem qlo_173 : xe_look (xc 215) 173 = some (.iaload, 1, 0, 0, 0) := by decide +kernel
theorem qlo_174 : xe_look (xc 215) 174 = some (.iload 4, 2, 0, 0, 0) := by decide +kernel
theorem qlo_176 : xe_look (xc 215) 176 = some (.iconst (-1), 1, 0, 0, 0) := by decide +kernel
theorem qlo_177 : xe_look (xc 215) 177 = some (.ixor, 1, 0, 0, 0) := by decide +kernel
theorem qlo_178 : xe_look (xc 215) 178 = some (.iand, 1, 0, 0, 0) := by decide +kernel
theorem qlo_179 : xe_look (xc 215) 179 = some (.ifCond .ne 20, 3, 0, 0, 0) := by decide +kernel
theorem qlo_182 : xe_look (xc 215) 182 = some (.lload 5, 2, 0, 0, 0) := by decide +kernel
theorem qlo_184 : xe_look (xc 215) 184 = some (.aload_n 0, 1, 0, 0, 0) := by decide +kernel
theorem qlo_185 : xe_look (xc 215) 185 = some (.getfield 141, 3, 12, 70, 1208) := by decide +kernel
theorem qlo_188 : xe_look (xc 215) 188 = some (.iload 4, 2, 0, 0, 0) := by decide +kernel
theorem qlo_190 : xe_look (xc 215) 190 = some (.iconst 1, 1, 0, 0, 0) := by decide +kernel
theorem qlo_191 : xe_look (xc 215) 191 = some (.iload 7, 2, 0, 0, 0) := by decide +kernel
theorem qlo_193 : xe_look (xc 215) 193 = some (.ishl, 1, 0, 0, 0) := by decide +kernel
theorem qlo_194 : xe_look (xc 215) 194 = some (.ior, 1, 0, 0, 0) := by decide +kernel
theorem qlo_195 : xe_look (xc 215) 195 = some (.laload, 1, 0, 0, 0) := by decide +kernel
theorem qlo_196 : xe_look (xc 215) 196 = some (.ladd, 1, 0, 0, 0) := by decide +kernel
theorem qlo_197 : xe_look (xc 215) 197 = some (.lstore 5, 2, 0, 0, 0) := by decide +kernel
theorem qlo_199 : xe_look (xc 215) 199 = some (.iinc 7 1, 3, 0, 0, 0) := by decide +kernel
theorem qlo_202 : xe_look (xc 215) 202 = some (.goto (-54), 3, 0, 0, 0) := by decide +kernel
theorem qlo_205 : xe_look (xc 215) 205 = some (.aload_n 0, 1, 0, 0, 0) := by decide +kernel
theorem qlo_206 : xe_look (xc 215) 206 = some (.getfield 141, 3, 12, 70, 1208) := by decide +kernel
theorem qlo_209 : xe_look (xc 215) 209 = some (.iload 4, 2, 0, 0, 0) := by decide +kernel
theorem qlo_211 : xe_look (xc 215) 211 = some (.lload 5, 2, 0, 0, 0) := by decide +kernel
theorem qlo_213 : xe_look (xc 215) 213 = some (.lastore, 1, 0, 0, 0) := by decide +kernel
theorem qlo_214 : xe_look (xc 215) 214 = some (.iinc 4 (-1), 3, 0, 0, 0) := by decide +kernel
theorem qlo_217 : xe_look (xc 215) 217 = some (.goto (-90), 3, 0, 0, 0) := by decide +kernel
theorem qlo_220 : xe_look (xc 215) 220 = some (.aload_n 0, 1, 0, 0, 0) := by decide +kernel
theorem qlo_221 : xe_look (xc 215) 221 = some (.getfield 141, 3, 12, 70, 1208) := by decide +kernel
theorem qlo_224 : xe_look (xc 215) 224 = some (.iconst 0, 1, 0, 0, 0) := by decide +kernel
theorem qlo_225 : xe_look (xc 215) 225 = some (.laload, 1, 0, 0, 0) := by decide +kernel
theorem qlo_226 : xe_look (xc 215) 226 = some (.lreturn, 1, 0, 0, 0) := by decide +kernel
theorem qsa_0 : xe_look (xc 255) 0 = some (.iconst 0, 1, 0, 0, 0) := by decide +kernel
theorem qsa_1 : xe_look (xc 255) 1 = some (.istore_n 2, 1, 0, 0, 0) := by decide +kernel
theorem qsa_2 : xe_look (xc 255) 2 = some (.iload_n 2, 1, 0, 0, 0) := by decide +kernel
theorem qsa_3 : xe_look (xc 255) 3 = some (.aload_n 0, 1, 0, 0, 0) := by decide +kernel
theorem qsa_4 : xe_look (xc 255) 4 = some (.getfield 491, 3, 12, 71, 1235) := by decide +kernel
theorem qsa_7 : xe_look (xc 255) 7 = some (.if_icmp .ge 21, 3, 0, 0, 0) := by decide +kernel
theorem qsa_10 : xe_look (xc 255) 10 = some (.aload_n 0, 1, 0, 0, 0) := by decide +kernel
theorem qsa_11 : xe_look (xc 255) 11 = some (.getfield 135, 3, 12, 68, 1206) := by decide +kernel
theorem qsa_14 : xe_look (xc 255) 14 = some (.iload_n 2, 1, 0, 0, 0) := by decide +kernel
theorem qsa_15 : xe_look (xc 255) 15 = some (.iaload, 1, 0, 0, 0) := by decide +kernel
theorem qsa_16 : xe_look (xc 255) 16 = some (.iload_n 1, 1, 0, 0, 0) := by decide +kernel
theorem qsa_17 : xe_look (xc 255) 17 = some (.if_icmp .ne 5, 3, 0, 0, 0) := by decide +kernel
theorem qsa_20 : xe_look (xc 255) 20 = some (.iload_n 2, 1, 0, 0, 0) := by decide +kernel
theorem qsa_21 : xe_look (xc 255) 21 = some (.ireturn, 1, 0, 0, 0) := by decide +kernel
theorem qsa_22 : xe_look (xc 255) 22 = some (.iinc 2 1, 3, 0, 0, 0) := by decide +kernel
theorem qsa_25 : xe_look (xc 255) 25 = some (.goto (-23), 3, 0, 0, 0) := by decide +kernel
theorem qsa_28 : xe_look (xc 255) 28 = some (.iconst (-1), 1, 0, 0, 0) := by decide +kernel
theorem qsa_29 : xe_look (xc 255) 29 = some (.ireturn, 1, 0, 0, 0) := by decide +kernel
theorem ga_206 : eG (cn 206) = (0, 31, []) := by decide +kernel
theorem ga_207 : eG (cn 207) = (0, 31, []) := by decide +kernel
theorem ga_238 : eG (cn 238) = (0, 31, []) := by decide +kernel
theorem ga_239 : eG (cn 239) = ((-2147483648), 2147483647, []) := by decide +kernel
theorem ga_240 : eG (cn 240) = ((-9223372036854775808), 9223372036854775807, []) := by decide +kernel
theorem gf_22 : eG (cn 196 + 22) = (0, 24, []) := by decide +kernel
theorem gf_71 : eG (cn 196 + 71) = (0, 12, []) := by decide +kernel
theorem sa_loop {d : Nat} {g : pH} (hJ : J_ 0 g g) {i : Int} (hi : -2147483648 ≤ i ∧ i ≤ 2147483647) {P : Option pv × pH → Prop} (hP : ∀ z : Int, (z = -1 ∧ ∀ k : Nat, (k : Int) < fF g 71 → fA g 238 k ≠ i) ∨ (0 ≤ z ∧ z < fF g 71 ∧ fA g 238 z.toNat = i) → P (some (oI z), g)) : ∀ (m k : Nat) (lv : List (Nat × pv)), fF g 71 - k ≤ m → k ≤ 12 → (∀ j : Nat, j < k → fA g 238 j ≠ i) → px_lg lv 0 = some (pvR 196) → px_lg lv 1 = some (oI i) → px_lg lv 2 = some (oI (k : Int)) → t_X d 255 2 lv [] g P := by
  intro m
  induction m with
  | zero =>
    intro k lv hm hk hb l0 l1 l2
    refine t_0 qsa_2 rfl (ld_i l2) ?_
    refine t_0 qsa_3 rfl (ld_a l0) ?_
    have r1 := gb_f hJ.1 (y := 71) rfl rfl gf_71
    refine t_0 qsa_4 rfl (pq_gf (y := 71) rfl) ?_
    refine tb_ge qsa_7 (by decide) ⟨by omega, by omega⟩ ⟨by omega, by omega⟩ (fun c2 => ?_) (fun c2 => absurd c2 (by omega))
    show t_X d 255 28 lv [] g P
    refine t_0 qsa_28 rfl rfl ?_
    refine t_5 qsa_29 rfl rfl ?_
    exact hP _ (Or.inl ⟨rfl, fun j hj => hb j (by omega)⟩)
  | succ m ih =>
    intro k lv hm hk hb l0 l1 l2
    refine t_0 qsa_2 rfl (ld_i l2) ?_
    refine t_0 qsa_3 rfl (ld_a l0) ?_
    have r1 := gb_f hJ.1 (y := 71) rfl rfl gf_71
    refine t_0 qsa_4 rfl (pq_gf (y := 71) rfl) ?_
    refine tb_ge qsa_7 (by decide) ⟨by omega, by omega⟩ ⟨by omega, by omega⟩ (fun c2 => ?_) (fun c2 => ?_)
    · show t_X d 255 28 lv [] g P
      refine t_0 qsa_28 rfl rfl ?_
      refine t_5 qsa_29 rfl rfl ?_
      exact hP _ (Or.inl ⟨rfl, fun j hj => hb j (by omega)⟩)
    · show t_X d 255 10 lv [] g P
      refine t_0 qsa_10 rfl (ld_a l0) ?_
      refine t_0 qsa_11 rfl (ar_68 hJ.1) ?_
      refine t_0 qsa_14 rfl (ld_i l2) ?_
      refine t_0 qsa_15 rfl (pq_ia el_238 rfl ⟨by omega, by omega⟩) ?_
      show t_X d 255 16 lv [oI (fA g 238 k)] g P
      have r3 := gb_a hJ.1 el_238 (j := k) (by omega) ga_238
      refine t_0 qsa_16 rfl (ld_i l1) ?_
      refine tb_ne qsa_17 (by decide) ⟨by omega, by omega⟩ ⟨by omega, by omega⟩ (fun c4 => ?_) (fun c4 => ?_)
      · show t_X d 255 22 lv [] g P
        refine t_2 qsa_22 rfl (w := (px_s1 lv 2 (oI ((k : Int) + 1)), [])) (pq_inc l2 (by decide)) ?_
        replace l0 : px_lg (px_s1 lv 2 (oI ((k : Int) + 1))) 0 = some (pvR 196) := s1_ne (by decide) (fun _ => rfl) l0
        replace l1 : px_lg (px_s1 lv 2 (oI ((k : Int) + 1))) 1 = some (oI (i)) := s1_ne (by decide) (fun _ => rfl) l1
        have l2 : px_lg (px_s1 lv 2 (oI ((k : Int) + 1))) 2 = some (oI ((k : Int) + 1)) := s1_eq
        generalize px_s1 lv 2 (oI ((k : Int) + 1)) = lv5 at l0 l1 l2 ⊢
        show t_X d 255 25 lv5 [] g P
        refine t_1 qsa_25 rfl (pb_goto (pc := 25) (by decide)) ?_
        show t_X d 255 2 lv5 [] g P
        exact ih (k + 1) _ (by omega) (by omega) (fun j hj => by
          by_cases e : j = k
          · subst e; omega
          · exact hb j (by omega)) l0 l1 l2
      · show t_X d 255 20 lv [] g P
        refine t_0 qsa_20 rfl (ld_i l2) ?_
        refine t_5 qsa_21 rfl rfl ?_
        exact hP _ (Or.inr ⟨by omega, by omega, by show fA g 238 k = i; omega⟩)
theorem sa_run {d : Nat} {g : pH} (hG : g_I eG g) {i : Int} (hi : -2147483648 ≤ i ∧ i ≤ 2147483647) {P : Option pv × pH → Prop} (hP : ∀ z : Int, (z = -1 ∧ ∀ k : Nat, (k : Int) < fF g 71 → fA g 238 k ≠ i) ∨ (0 ≤ z ∧ z < fF g 71 ∧ fA g 238 z.toNat = i) → P (some (oI z), g)) {lv : List (Nat × pv)} (l0 : px_lg lv 0 = some (pvR 196)) (l1 : px_lg lv 1 = some (oI i)) : t_X d 255 0 lv [] g P := by
  refine t_0 qsa_0 rfl rfl ?_
  refine t_2 qsa_1 rfl (w := (px_s1 lv 2 (oI (0)), [])) rfl ?_
  replace l0 : px_lg (px_s1 lv 2 (oI (0))) 0 = some (pvR 196) := s1_ne (by decide) (fun _ => rfl) l0
  replace l1 : px_lg (px_s1 lv 2 (oI (0))) 1 = some (oI (i)) := s1_ne (by decide) (fun _ => rfl) l1
  have l2 : px_lg (px_s1 lv 2 (oI (0))) 2 = some (oI (0)) := s1_eq
  generalize px_s1 lv 2 (oI (0)) = lv1 at l0 l1 l2 ⊢
  show t_X d 255 2 lv1 [] g P
  exact sa_loop (J_rf hG) hi hP 12 0 _ (by have := gb_f hG (y := 71) rfl rfl gf_71; omega) (by omega) (fun j hj => absurd hj (Nat.not_lt_zero j)) l0 l1 l2
def Wo : Nat := 2 ^ cn 239 + 2 ^ cn 240
theorem Wo_1 : Wo.testBit (cn 239) = true ∧ Wo.testBit (cn 240) = true ∧ Wo &&& eDX = 0 ∧ Wo.testBit (cn 196 + 71) = false ∧ Wo.testBit (cn 196 + 22) = false ∧ Wo.testBit (cn 238) = false := by decide +kernel
def Lw (g : pH) (j : Nat) : Int64 := g.2.2.2.2.1 240 j
def ixC (e k : Int) : Int32 := (Int32.ofInt e) ||| ((Int32.ofInt 1) <<< ((Int32.ofInt k) &&& 31))
def hsC (e k : Int) : Prop := ((Int32.ofInt e) >>> ((Int32.ofInt k) &&& 31)) &&& Int32.ofInt 1 = Int32.ofInt 1
def okC (f : Nat → Int) (e : Int) (k : Nat) : Prop := ¬ hsC e k ∧ (Int32.ofInt (f k)) &&& ((Int32.ofInt e) ^^^ (Int32.ofInt (-1))) = 0
theorem ix_t {s k : Nat} (hs : s < 4096) (hk : k < 12) : (ixC s k).toInt = ((s ||| 2 ^ k : Nat) : Int) := by
  have h2 : s ||| 2 ^ k < 4096 := Nat.or_lt_two_pow (n := 12) hs (Nat.pow_lt_pow_right (by decide) hk)
  have e1 : (ixC s k).toBitVec = BitVec.ofNat 32 (s ||| 2 ^ k) := by
    unfold ixC
    rw [← nI_o, ← nI_o, Int32.toBitVec_or, Int32.toBitVec_shiftLeft]
    apply BitVec.eq_of_getLsbD_eq
    intro i hi
    have e2 : (nI k &&& 31).toBitVec.smod 32 = (nI k).toBitVec.smod 32 := by rw [bt_and (by omega)]
    have e3 : (Int32.ofInt 1).toBitVec <<< (nI k &&& 31).toBitVec.smod 32 = 1#32 <<< k := by
      rw [e2]
      have e2 := bt_mod (j := k) (by omega)
      show (1#32) <<< ((nI k).toBitVec.smod 32).toNat = _
      rw [e2]
    rw [BitVec.getLsbD_or, e3, BitVec.getLsbD_shiftLeft, BitVec.getLsbD_one, BitVec.getLsbD_ofNat, Nat.testBit_or, Nat.testBit_two_pow]
    have e4 : (nI s).toBitVec.getLsbD i = s.testBit i := by
      show (BitVec.ofNat 32 s).getLsbD i = _
      rw [BitVec.getLsbD_ofNat, decide_eq_true hi, Bool.true_and]
    rw [e4, decide_eq_true hi, Bool.true_and, Bool.true_and]
    congr 1
    by_cases q : k = i
    · subst q; simp
    · simp [q]; omega
  have e5 : (ixC s k).toBitVec.toNat = s ||| 2 ^ k := by
    rw [e1, BitVec.toNat_ofNat]
    omega
  exact eo_p32 e5 (by omega)
theorem hs_t {s k : Nat} (hs : s < 4096) (hk : k < 12) : hsC s k ↔ s.testBit k = true := by
  unfold hsC
  rw [← nI_o k, bt_has (by omega), ← nI_o]
  show (BitVec.ofNat 32 s).getLsbD k = true ↔ _
  rw [BitVec.getLsbD_ofNat, decide_eq_true (by omega : k < 32), Bool.true_and]
theorem ix_g {s k : Nat} (hs : s < 4096) (hk : k < 12) : 0 ≤ (ixC s k).toInt ∧ (ixC s k).toInt < 4096 ∧ (¬ hsC s k → (s : Int) < (ixC s k).toInt) := by
  rw [ix_t hs hk]
  have h2 : s ||| 2 ^ k < 4096 := Nat.or_lt_two_pow (n := 12) hs (Nat.pow_lt_pow_right (by decide) hk)
  have h3 : s ≤ s ||| 2 ^ k := Nat.left_le_or
  refine ⟨by omega, by omega, fun hn => ?_⟩
  have h4 : s ≠ s ||| 2 ^ k := fun e => hn ((hs_t hs hk).mpr (by rw [e, Nat.testBit_or, Nat.testBit_two_pow_self, Bool.or_true]))
  omega
theorem allC {m : Nat} (hm : m ≤ 12) : ((Int32.ofInt 1) <<< ((Int32.ofInt (m : Int)) &&& 31)) - (Int32.ofInt 1) = Int32.ofInt ((2 ^ m - 1 : Nat) : Int) := by
  have : ∀ m, m < 13 → ((Int32.ofInt 1) <<< ((Int32.ofInt ((m : Nat) : Int)) &&& 31)) - (Int32.ofInt 1) = Int32.ofInt ((2 ^ m - 1 : Nat) : Int) := by decide +kernel
  exact this m (by omega)
theorem pw_12 {m : Nat} (hm : m ≤ 12) : 2 ^ m ≤ 4096 := Nat.pow_le_pow_right (by decide) hm
/-- what the ways of going on say -/
def Zp (sM : Nat) (g : pH) (e : Int) : Prop := ∀ s : Nat, e < s → s < 2 ^ sM - 1 → Lw g s ≠ 0 → ∃ k, k < sM ∧ okC (fA g 239) s k ∧ Lw g (ixC s k).toInt.toNat ≠ 0
set_option maxHeartbeats 4000000 in
theorem lo_1 {d : Nat} {h0 : pH} {a b : Int} {P : Option pv × pH → Prop} (hC : ∀ (g : pH) (lv : List (Nat × pv)), J_ Wo h0 g → px_lg lv 0 = some (pvR 196) → px_lg lv 1 = some (oI a) → px_lg lv 2 = some (oI b) → t_X d 215 23 lv [] g P) : ∀ (m k : Nat) (g : pH) (lv : List (Nat × pv)), fF h0 71 - k ≤ m → k ≤ 12 → J_ Wo h0 g → px_lg lv 0 = some (pvR 196) → px_lg lv 1 = some (oI a) → px_lg lv 2 = some (oI b) → px_lg lv 3 = some (oI (k : Int)) → t_X d 215 2 lv [] g P := by
  intro m
  induction m with
  | zero =>
    intro k g lv hm hk hJ l0 l1 l2 l3
    have e71 := fF_M hJ.2 Wo_1.2.2.2.1
    have w_a239 := Wo_1.1
    refine t_0 qlo_2 rfl (ld_i l3) ?_
    refine t_0 qlo_3 rfl (ld_a l0) ?_
    have r1 := gb_f hJ.1 (y := 71) rfl rfl gf_71
    refine t_0 qlo_4 rfl (pq_gf (y := 71) rfl) ?_
    refine tb_ge qlo_7 (by decide) ⟨by omega, by omega⟩ ⟨by omega, by omega⟩ (fun c2 => ?_) (fun c2 => absurd c2 (by omega))
    show t_X d 215 23 lv [] g P
    exact hC _ _ hJ l0 l1 l2
  | succ m ih =>
    intro k g lv hm hk hJ l0 l1 l2 l3
    have e71 := fF_M hJ.2 Wo_1.2.2.2.1
    have w_a239 := Wo_1.1
    refine t_0 qlo_2 rfl (ld_i l3) ?_
    refine t_0 qlo_3 rfl (ld_a l0) ?_
    have r1 := gb_f hJ.1 (y := 71) rfl rfl gf_71
    refine t_0 qlo_4 rfl (pq_gf (y := 71) rfl) ?_
    refine tb_ge qlo_7 (by decide) ⟨by omega, by omega⟩ ⟨by omega, by omega⟩ (fun c2 => ?_) (fun c2 => ?_)
    · show t_X d 215 23 lv [] g P
      exact hC _ _ hJ l0 l1 l2
    · show t_X d 215 10 lv [] g P
      refine t_0 qlo_10 rfl (ld_a l0) ?_
      refine t_0 qlo_11 rfl (ar_69 hJ.1) ?_
      refine t_0 qlo_14 rfl (ld_i l3) ?_
      refine t_0 qlo_15 rfl rfl ?_
      refine tw_a qlo_16 hJ el_239 rfl w_a239 ga_239 (by decide) ⟨by omega, by omega⟩ ⟨by omega, by omega⟩ (fun g3 hJ3 a3 v3 b3 f3 => ?_)
      replace f3 := fF_1 f3
      show t_X d 215 17 lv [] g3 P
      refine t_2 qlo_17 rfl (w := (px_s1 lv 3 (oI ((k : Int) + 1)), [])) (pq_inc l3 (by decide)) ?_
      replace l0 : px_lg (px_s1 lv 3 (oI ((k : Int) + 1))) 0 = some (pvR 196) := s1_ne (by decide) (fun _ => rfl) l0
      replace l1 : px_lg (px_s1 lv 3 (oI ((k : Int) + 1))) 1 = some (oI (a)) := s1_ne (by decide) (fun _ => rfl) l1
      replace l2 : px_lg (px_s1 lv 3 (oI ((k : Int) + 1))) 2 = some (oI (b)) := s1_ne (by decide) (fun _ => rfl) l2
      have l3 : px_lg (px_s1 lv 3 (oI ((k : Int) + 1))) 3 = some (oI ((k : Int) + 1)) := s1_eq
      generalize px_s1 lv 3 (oI ((k : Int) + 1)) = lv4 at l0 l1 l2 l3 ⊢
      show t_X d 215 20 lv4 [] g3 P
      refine t_1 qlo_20 rfl (pb_goto (pc := 20) (by decide)) ?_
      show t_X d 215 2 lv4 [] g3 P
      exact ih (k + 1) _ _ (by have := fF_M hJ3.2 Wo_1.2.2.2.1; omega) (by omega) hJ3 l0 l1 l2 l3
set_option maxHeartbeats 4000000 in
theorem lo_2 {d : Nat} (hd : 1 ≤ d) {h0 : pH} {a b : Int} {P : Option pv × pH → Prop} (hC : ∀ (g : pH) (lv : List (Nat × pv)), J_ Wo h0 g → px_lg lv 0 = some (pvR 196) → px_lg lv 1 = some (oI a) → px_lg lv 2 = some (oI b) → t_X d 215 94 lv [] g P) : ∀ (m k : Nat) (g : pH) (lv : List (Nat × pv)), fF h0 22 - k ≤ m → k ≤ 24 → J_ Wo h0 g → px_lg lv 0 = some (pvR 196) → px_lg lv 1 = some (oI a) → px_lg lv 2 = some (oI b) → px_lg lv 3 = some (oI (k : Int)) → t_X d 215 25 lv [] g P := by
  intro m
  induction m with
  | zero =>
    intro k g lv hm hk hJ l0 l1 l2 l3
    have e22 := fF_M hJ.2 Wo_1.2.2.2.2.1
    have b22 := gb_f hJ.1 (y := 22) rfl rfl gf_22
    have w_a239 := Wo_1.1
    refine t_0 qlo_25 rfl (ld_i l3) ?_
    refine t_0 qlo_26 rfl (ld_a l0) ?_
    have r1 := gb_f hJ.1 (y := 22) rfl rfl gf_22
    refine t_0 qlo_27 rfl (pq_gf (y := 22) rfl) ?_
    refine tb_ge qlo_30 (by decide) ⟨by omega, by omega⟩ ⟨by omega, by omega⟩ (fun c2 => ?_) (fun c2 => absurd c2 (by omega))
    show t_X d 215 94 lv [] g P
    exact hC _ _ hJ l0 l1 l2
  | succ m ih =>
    intro k g lv hm hk hJ l0 l1 l2 l3
    have e22 := fF_M hJ.2 Wo_1.2.2.2.2.1
    have b22 := gb_f hJ.1 (y := 22) rfl rfl gf_22
    have w_a239 := Wo_1.1
    by_cases hlt : fF g 22 ≤ k
    · refine t_0 qlo_25 rfl (ld_i l3) ?_
      refine t_0 qlo_26 rfl (ld_a l0) ?_
      have r1 := gb_f hJ.1 (y := 22) rfl rfl gf_22
      refine t_0 qlo_27 rfl (pq_gf (y := 22) rfl) ?_
      refine tb_ge qlo_30 (by decide) ⟨by omega, by omega⟩ ⟨by omega, by omega⟩ (fun c2 => ?_) (fun c2 => absurd c2 (by omega))
      show t_X d 215 94 lv [] g P
      exact hC _ _ hJ l0 l1 l2
    refine t_0 qlo_25 rfl (ld_i l3) ?_
    refine t_0 qlo_26 rfl (ld_a l0) ?_
    have r1 := gb_f hJ.1 (y := 22) rfl rfl gf_22
    refine t_0 qlo_27 rfl (pq_gf (y := 22) rfl) ?_
    refine tb_ge qlo_30 (by decide) ⟨by omega, by omega⟩ ⟨by omega, by omega⟩ (fun c2 => absurd c2 (by omega)) (fun c2 => ?_)
    show t_X d 215 33 lv [] g P
    refine t_0 qlo_33 rfl (ld_a l0) ?_
    refine t_0 qlo_34 rfl (ld_a l0) ?_
    refine t_0 qlo_35 rfl (ar_11 hJ.1) ?_
    refine t_0 qlo_38 rfl (ld_i l3) ?_
    refine t_0 qlo_39 rfl (pq_ia el_206 rfl ⟨by omega, by omega⟩) ?_
    show t_X d 215 40 lv [oI (fA g 206 k), pvR 196] g P
    have r3 := gb_a hJ.1 el_206 (j := k) (by omega) ga_206
    refine t_3 qlo_40 rfl (ar := ([pvR 196, oI (fA g 206 k)], [])) (pcal_v1 rfl rfl el_196) ⟨by omega, Nat.le_of_ble_eq_true rfl, Nat.le_of_ble_eq_true rfl, rfl⟩ ?_
    refine sa_run hJ.1 ⟨by omega, by omega⟩ (fun z4 hz4 => ?_) rfl rfl
    have hy4 : -1 ≤ z4 ∧ z4 < 12 := by
      rcases hz4 with h | h
      · omega
      · have := gb_f hJ.1 (y := 71) rfl rfl gf_71
        omega
    show t_X d 215 43 lv [oI (z4)] g P
    refine t_2 qlo_43 rfl (w := (px_s1 lv 4 (oI (z4)), [])) rfl ?_
    replace l0 : px_lg (px_s1 lv 4 (oI (z4))) 0 = some (pvR 196) := s1_ne (by decide) (fun _ => rfl) l0
    replace l1 : px_lg (px_s1 lv 4 (oI (z4))) 1 = some (oI (a)) := s1_ne (by decide) (fun _ => rfl) l1
    replace l2 : px_lg (px_s1 lv 4 (oI (z4))) 2 = some (oI (b)) := s1_ne (by decide) (fun _ => rfl) l2
    replace l3 : px_lg (px_s1 lv 4 (oI (z4))) 3 = some (oI ((k : Int))) := s1_ne (by decide) (fun _ => rfl) l3
    have l4 : px_lg (px_s1 lv 4 (oI (z4))) 4 = some (oI (z4)) := s1_eq
    generalize px_s1 lv 4 (oI (z4)) = lv5 at l0 l1 l2 l3 l4 ⊢
    show t_X d 215 45 lv5 [] g P
    refine t_0 qlo_45 rfl (ld_a l0) ?_
    refine t_0 qlo_46 rfl (ld_a l0) ?_
    refine t_0 qlo_47 rfl (ar_12 hJ.1) ?_
    refine t_0 qlo_50 rfl (ld_i l3) ?_
    refine t_0 qlo_51 rfl (pq_ia el_207 rfl ⟨by omega, by omega⟩) ?_
    show t_X d 215 52 lv5 [oI (fA g 207 k), pvR 196] g P
    have r6 := gb_a hJ.1 el_207 (j := k) (by omega) ga_207
    refine t_3 qlo_52 rfl (ar := ([pvR 196, oI (fA g 207 k)], [])) (pcal_v1 rfl rfl el_196) ⟨by omega, Nat.le_of_ble_eq_true rfl, Nat.le_of_ble_eq_true rfl, rfl⟩ ?_
    refine sa_run hJ.1 ⟨by omega, by omega⟩ (fun z7 hz7 => ?_) rfl rfl
    have hy7 : -1 ≤ z7 ∧ z7 < 12 := by
      rcases hz7 with h | h
      · omega
      · have := gb_f hJ.1 (y := 71) rfl rfl gf_71
        omega
    show t_X d 215 55 lv5 [oI (z7)] g P
    refine t_2 qlo_55 rfl (w := (px_s1 lv5 5 (oI (z7)), [])) rfl ?_
    replace l0 : px_lg (px_s1 lv5 5 (oI (z7))) 0 = some (pvR 196) := s1_ne (by decide) (fun _ => rfl) l0
    replace l1 : px_lg (px_s1 lv5 5 (oI (z7))) 1 = some (oI (a)) := s1_ne (by decide) (fun _ => rfl) l1
    replace l2 : px_lg (px_s1 lv5 5 (oI (z7))) 2 = some (oI (b)) := s1_ne (by decide) (fun _ => rfl) l2
    replace l3 : px_lg (px_s1 lv5 5 (oI (z7))) 3 = some (oI ((k : Int))) := s1_ne (by decide) (fun _ => rfl) l3
    replace l4 : px_lg (px_s1 lv5 5 (oI (z7))) 4 = some (oI (z4)) := s1_ne (by decide) (fun _ => rfl) l4
    have l5 : px_lg (px_s1 lv5 5 (oI (z7))) 5 = some (oI (z7)) := s1_eq
    generalize px_s1 lv5 5 (oI (z7)) = lv8 at l0 l1 l2 l3 l4 l5 ⊢
    show t_X d 215 57 lv8 [] g P
    refine t_0 qlo_57 rfl (ld_i l4) ?_
    refine t_0 qlo_59 rfl rfl ?_
    refine tb_eq qlo_60 (by decide) ⟨by omega, by omega⟩ ⟨by omega, by omega⟩ (fun c9 => ?_) (fun c9 => ?_)
    · show t_X d 215 88 lv8 [] g P
      refine t_2 qlo_88 rfl (w := (px_s1 lv8 3 (oI ((k : Int) + 1)), [])) (pq_inc l3 (by decide)) ?_
      replace l0 : px_lg (px_s1 lv8 3 (oI ((k : Int) + 1))) 0 = some (pvR 196) := s1_ne (by decide) (fun _ => rfl) l0
      replace l1 : px_lg (px_s1 lv8 3 (oI ((k : Int) + 1))) 1 = some (oI (a)) := s1_ne (by decide) (fun _ => rfl) l1
      replace l2 : px_lg (px_s1 lv8 3 (oI ((k : Int) + 1))) 2 = some (oI (b)) := s1_ne (by decide) (fun _ => rfl) l2
      replace l4 : px_lg (px_s1 lv8 3 (oI ((k : Int) + 1))) 4 = some (oI (z4)) := s1_ne (by decide) (fun _ => rfl) l4
      replace l5 : px_lg (px_s1 lv8 3 (oI ((k : Int) + 1))) 5 = some (oI (z7)) := s1_ne (by decide) (fun _ => rfl) l5
      have l3 : px_lg (px_s1 lv8 3 (oI ((k : Int) + 1))) 3 = some (oI ((k : Int) + 1)) := s1_eq
      generalize px_s1 lv8 3 (oI ((k : Int) + 1)) = lv10 at l0 l1 l2 l4 l5 l3 ⊢
      show t_X d 215 91 lv10 [] g P
      refine t_1 qlo_91 rfl (pb_goto (pc := 91) (by decide)) ?_
      show t_X d 215 25 lv10 [] g P
      exact ih (k + 1) _ _ (by have := fF_M hJ.2 Wo_1.2.2.2.2.1; omega) (by omega) hJ l0 l1 l2 l3
    · show t_X d 215 63 lv8 [] g P
      refine t_0 qlo_63 rfl (ld_i l5) ?_
      refine t_0 qlo_65 rfl rfl ?_
      refine tb_eq qlo_66 (by decide) ⟨by omega, by omega⟩ ⟨by omega, by omega⟩ (fun c11 => ?_) (fun c11 => ?_)
      · show t_X d 215 88 lv8 [] g P
        refine t_2 qlo_88 rfl (w := (px_s1 lv8 3 (oI ((k : Int) + 1)), [])) (pq_inc l3 (by decide)) ?_
        replace l0 : px_lg (px_s1 lv8 3 (oI ((k : Int) + 1))) 0 = some (pvR 196) := s1_ne (by decide) (fun _ => rfl) l0
        replace l1 : px_lg (px_s1 lv8 3 (oI ((k : Int) + 1))) 1 = some (oI (a)) := s1_ne (by decide) (fun _ => rfl) l1
        replace l2 : px_lg (px_s1 lv8 3 (oI ((k : Int) + 1))) 2 = some (oI (b)) := s1_ne (by decide) (fun _ => rfl) l2
        replace l4 : px_lg (px_s1 lv8 3 (oI ((k : Int) + 1))) 4 = some (oI (z4)) := s1_ne (by decide) (fun _ => rfl) l4
        replace l5 : px_lg (px_s1 lv8 3 (oI ((k : Int) + 1))) 5 = some (oI (z7)) := s1_ne (by decide) (fun _ => rfl) l5
        have l3 : px_lg (px_s1 lv8 3 (oI ((k : Int) + 1))) 3 = some (oI ((k : Int) + 1)) := s1_eq
        generalize px_s1 lv8 3 (oI ((k : Int) + 1)) = lv12 at l0 l1 l2 l4 l5 l3 ⊢
        show t_X d 215 91 lv12 [] g P
        refine t_1 qlo_91 rfl (pb_goto (pc := 91) (by decide)) ?_
        show t_X d 215 25 lv12 [] g P
        exact ih (k + 1) _ _ (by have := fF_M hJ.2 Wo_1.2.2.2.2.1; omega) (by omega) hJ l0 l1 l2 l3
      · show t_X d 215 69 lv8 [] g P
        refine t_0 qlo_69 rfl (ld_a l0) ?_
        refine t_0 qlo_70 rfl (ar_69 hJ.1) ?_
        refine t_0 qlo_73 rfl (ld_i l5) ?_
        refine t_0 qlo_75 rfl (ld_a l0) ?_
        refine t_0 qlo_76 rfl (ar_69 hJ.1) ?_
        refine t_0 qlo_79 rfl (ld_i l5) ?_
        refine t_0 qlo_81 rfl (pq_ia el_239 rfl ⟨by omega, by omega⟩) ?_
        have r13 := fA_b g 239 z7.toNat
        refine t_0 qlo_82 rfl rfl ?_
        refine t_0 qlo_83 rfl (ld_i l4) ?_
        refine t_0 qlo_85 rfl rfl ?_
        refine t_0 qlo_86 rfl rfl ?_
        refine tw_ax qlo_87 hJ el_239 rfl w_a239 ga_239 ⟨by omega, by omega⟩ (fun g14 hJ14 a14 f14 => ?_)
        replace f14 := fF_1 f14
        show t_X d 215 88 lv8 [] g14 P
        refine t_2 qlo_88 rfl (w := (px_s1 lv8 3 (oI ((k : Int) + 1)), [])) (pq_inc l3 (by decide)) ?_
        replace l0 : px_lg (px_s1 lv8 3 (oI ((k : Int) + 1))) 0 = some (pvR 196) := s1_ne (by decide) (fun _ => rfl) l0
        replace l1 : px_lg (px_s1 lv8 3 (oI ((k : Int) + 1))) 1 = some (oI (a)) := s1_ne (by decide) (fun _ => rfl) l1
        replace l2 : px_lg (px_s1 lv8 3 (oI ((k : Int) + 1))) 2 = some (oI (b)) := s1_ne (by decide) (fun _ => rfl) l2
        replace l4 : px_lg (px_s1 lv8 3 (oI ((k : Int) + 1))) 4 = some (oI (z4)) := s1_ne (by decide) (fun _ => rfl) l4
        replace l5 : px_lg (px_s1 lv8 3 (oI ((k : Int) + 1))) 5 = some (oI (z7)) := s1_ne (by decide) (fun _ => rfl) l5
        have l3 : px_lg (px_s1 lv8 3 (oI ((k : Int) + 1))) 3 = some (oI ((k : Int) + 1)) := s1_eq
        generalize px_s1 lv8 3 (oI ((k : Int) + 1)) = lv15 at l0 l1 l2 l4 l5 l3 ⊢
        show t_X d 215 91 lv15 [] g14 P
        refine t_1 qlo_91 rfl (pb_goto (pc := 91) (by decide)) ?_
        show t_X d 215 25 lv15 [] g14 P
        exact ih (k + 1) _ _ (by have := fF_M hJ14.2 Wo_1.2.2.2.2.1; omega) (by omega) hJ14 l0 l1 l2 l3
set_option maxHeartbeats 4000000 in
theorem lo_4 {d sM : Nat} (hd : 1 ≤ d) (hs : sM ≤ 12) {g : pH} (hJ : J_ 0 g g) (h71 : fF g 71 = sM) {e : Nat} (he : e < 4096) {P : Option pv × pH → Prop} (hC : ∀ (n : Int64) (lv : List (Nat × pv)), (n ≠ 0 → e = 2 ^ sM - 1 ∨ ∃ k, k < sM ∧ okC (fA g 239) e k ∧ Lw g (ixC e k).toInt.toNat ≠ 0) → px_lg lv 0 = some (pvR 196) → px_lg lv 3 = some (oI ((2 ^ sM - 1 : Nat) : Int)) → px_lg lv 4 = some (oI (e : Int)) → px_lg lv 5 = some (.inr (.inl n)) → t_X d 215 205 lv [] g P) : ∀ (m k : Nat) (n : Int64) (lv : List (Nat × pv)), sM - k ≤ m → k ≤ sM → (n ≠ 0 → e = 2 ^ sM - 1 ∨ ∃ k2, k2 < k ∧ okC (fA g 239) e k2 ∧ Lw g (ixC e k2).toInt.toNat ≠ 0) → px_lg lv 0 = some (pvR 196) → px_lg lv 3 = some (oI ((2 ^ sM - 1 : Nat) : Int)) → px_lg lv 4 = some (oI (e : Int)) → px_lg lv 5 = some (.inr (.inl n)) → px_lg lv 7 = some (oI (k : Int)) → t_X d 215 148 lv [] g P := by
  intro m
  induction m with
  | zero =>
    intro k n lv hm hk hN l0 l3 l4 l5 l7
    have hks : k = sM := by omega
    refine t_0 qlo_148 rfl (ld_i l7) ?_
    refine t_0 qlo_150 rfl (ld_a l0) ?_
    have r1 := gb_f hJ.1 (y := 71) rfl rfl gf_71
    refine t_0 qlo_151 rfl (pq_gf (y := 71) rfl) ?_
    refine tb_ge qlo_154 (by decide) ⟨by omega, by omega⟩ ⟨by omega, by omega⟩ (fun c2 => ?_) (fun c2 => absurd c2 (by omega))
    show t_X d 215 205 lv [] g P
    exact hC n _ (fun hn => (hN hn).imp id (fun ⟨k2, a1, a2⟩ => ⟨k2, by omega, a2⟩)) l0 l3 l4 l5
  | succ m ih =>
    intro k n lv hm hk hN l0 l3 l4 l5 l7
    by_cases hks : k = sM
    · refine t_0 qlo_148 rfl (ld_i l7) ?_
      refine t_0 qlo_150 rfl (ld_a l0) ?_
      have r1 := gb_f hJ.1 (y := 71) rfl rfl gf_71
      refine t_0 qlo_151 rfl (pq_gf (y := 71) rfl) ?_
      refine tb_ge qlo_154 (by decide) ⟨by omega, by omega⟩ ⟨by omega, by omega⟩ (fun c2 => ?_) (fun c2 => absurd c2 (by omega))
      show t_X d 215 205 lv [] g P
      exact hC n _ (fun hn => (hN hn).imp id (fun ⟨k2, a1, a2⟩ => ⟨k2, by omega, a2⟩)) l0 l3 l4 l5
    have hx := ix_g (s := e) (k := k) he (by omega)
    refine t_0 qlo_148 rfl (ld_i l7) ?_
    refine t_0 qlo_150 rfl (ld_a l0) ?_
    have r1 := gb_f hJ.1 (y := 71) rfl rfl gf_71
    refine t_0 qlo_151 rfl (pq_gf (y := 71) rfl) ?_
    refine tb_ge qlo_154 (by decide) ⟨by omega, by omega⟩ ⟨by omega, by omega⟩ (fun c2 => ?_) (fun c2 => ?_)
    · show t_X d 215 205 lv [] g P
      exact hC n _ (fun hn => (hN hn).imp id (fun ⟨k2, a1, a2⟩ => ⟨k2, by omega, a2⟩)) l0 l3 l4 l5
    · show t_X d 215 157 lv [] g P
      refine t_0 qlo_157 rfl (ld_i l4) ?_
      refine t_0 qlo_159 rfl (ld_i l7) ?_
      refine t_3 qlo_161 rfl (ar := ([oI ((e : Int)), oI ((k : Int))], [])) (pcal_s ⟨Or.inl rfl, rfl, Nat.le_of_ble_eq_true rfl⟩) ⟨by omega, Nat.le_of_ble_eq_true rfl, Nat.le_of_ble_eq_true rfl, rfl⟩ ?_
      refine has_run (fun t3 => ?_) (fun t3 => ?_)
      · show t_X d 215 164 lv [oI (1)] g P
        refine tz_ne qlo_164 (by decide) ⟨by omega, by omega⟩ (fun c4 => ?_) (fun c4 => absurd c4 (by omega))
        show t_X d 215 199 lv [] g P
        refine t_2 qlo_199 rfl (w := (px_s1 lv 7 (oI ((k : Int) + 1)), [])) (pq_inc l7 (by decide)) ?_
        replace l0 : px_lg (px_s1 lv 7 (oI ((k : Int) + 1))) 0 = some (pvR 196) := s1_ne (by decide) (fun _ => rfl) l0
        replace l3 : px_lg (px_s1 lv 7 (oI ((k : Int) + 1))) 3 = some (oI (((2 ^ sM - 1 : Nat) : Int))) := s1_ne (by decide) (fun _ => rfl) l3
        replace l4 : px_lg (px_s1 lv 7 (oI ((k : Int) + 1))) 4 = some (oI ((e : Int))) := s1_ne (by decide) (fun _ => rfl) l4
        replace l5 : px_lg (px_s1 lv 7 (oI ((k : Int) + 1))) 5 = some (.inr (.inl (n))) := s1_ne (by decide) (fun z => absurd z (by decide)) l5
        have l7 : px_lg (px_s1 lv 7 (oI ((k : Int) + 1))) 7 = some (oI ((k : Int) + 1)) := s1_eq
        generalize px_s1 lv 7 (oI ((k : Int) + 1)) = lv5 at l0 l3 l4 l5 l7 ⊢
        show t_X d 215 202 lv5 [] g P
        refine t_1 qlo_202 rfl (pb_goto (pc := 202) (by decide)) ?_
        show t_X d 215 148 lv5 [] g P
        exact ih (k + 1) n _ (by omega) (by omega) (fun hn => (hN hn).imp id (fun ⟨k2, a1, a2⟩ => ⟨k2, by omega, a2⟩)) l0 l3 l4 l5 l7
      · show t_X d 215 164 lv [oI (0)] g P
        refine tz_ne qlo_164 (by decide) ⟨by omega, by omega⟩ (fun c6 => absurd c6 (by omega)) (fun c6 => ?_)
        show t_X d 215 167 lv [] g P
        refine t_0 qlo_167 rfl (ld_a l0) ?_
        refine t_0 qlo_168 rfl (ar_69 hJ.1) ?_
        refine t_0 qlo_171 rfl (ld_i l7) ?_
        refine t_0 qlo_173 rfl (pq_ia el_239 rfl ⟨by omega, by omega⟩) ?_
        show t_X d 215 174 lv [oI (fA g 239 k)] g P
        have r7 := fA_b g 239 k
        refine t_0 qlo_174 rfl (ld_i l4) ?_
        refine t_0 qlo_176 rfl rfl ?_
        refine t_0 qlo_177 rfl rfl ?_
        refine t_0 qlo_178 rfl rfl ?_
        refine tx_ne qlo_179 (by decide) (fun c8 => ?_) (fun c8 => ?_)
        · show t_X d 215 199 lv [] g P
          refine t_2 qlo_199 rfl (w := (px_s1 lv 7 (oI ((k : Int) + 1)), [])) (pq_inc l7 (by decide)) ?_
          replace l0 : px_lg (px_s1 lv 7 (oI ((k : Int) + 1))) 0 = some (pvR 196) := s1_ne (by decide) (fun _ => rfl) l0
          replace l3 : px_lg (px_s1 lv 7 (oI ((k : Int) + 1))) 3 = some (oI (((2 ^ sM - 1 : Nat) : Int))) := s1_ne (by decide) (fun _ => rfl) l3
          replace l4 : px_lg (px_s1 lv 7 (oI ((k : Int) + 1))) 4 = some (oI ((e : Int))) := s1_ne (by decide) (fun _ => rfl) l4
          replace l5 : px_lg (px_s1 lv 7 (oI ((k : Int) + 1))) 5 = some (.inr (.inl (n))) := s1_ne (by decide) (fun z => absurd z (by decide)) l5
          have l7 : px_lg (px_s1 lv 7 (oI ((k : Int) + 1))) 7 = some (oI ((k : Int) + 1)) := s1_eq
          generalize px_s1 lv 7 (oI ((k : Int) + 1)) = lv9 at l0 l3 l4 l5 l7 ⊢
          show t_X d 215 202 lv9 [] g P
          refine t_1 qlo_202 rfl (pb_goto (pc := 202) (by decide)) ?_
          show t_X d 215 148 lv9 [] g P
          exact ih (k + 1) n _ (by omega) (by omega) (fun hn => (hN hn).imp id (fun ⟨k2, a1, a2⟩ => ⟨k2, by omega, a2⟩)) l0 l3 l4 l5 l7
        · show t_X d 215 182 lv [] g P
          refine t_0 qlo_182 rfl (ld_l l5) ?_
          refine t_0 qlo_184 rfl (ld_a l0) ?_
          refine t_0 qlo_185 rfl (ar_70 hJ.1) ?_
          refine t_0 qlo_188 rfl (ld_i l4) ?_
          refine t_0 qlo_190 rfl rfl ?_
          refine t_0 qlo_191 rfl (ld_i l7) ?_
          refine t_0 qlo_193 rfl rfl ?_
          refine t_0 qlo_194 rfl rfl ?_
          refine t_0 qlo_195 rfl (pq_la el_240 ⟨hx.1, hx.2.1⟩) ?_
          refine t_0 qlo_196 rfl rfl ?_
          refine t_2 qlo_197 rfl (w := (px_s2 lv 5 (.inr (.inl ((n) + (g.2.2.2.2.1 240 ((Int32.ofInt ((e : Int))) ||| ((Int32.ofInt (1)) <<< ((Int32.ofInt ((k : Int))) &&& 31))).toInt.toNat)))), [])) rfl ?_
          replace l0 : px_lg (px_s2 lv 5 (.inr (.inl ((n) + (g.2.2.2.2.1 240 ((Int32.ofInt ((e : Int))) ||| ((Int32.ofInt (1)) <<< ((Int32.ofInt ((k : Int))) &&& 31))).toInt.toNat))))) 0 = some (pvR 196) := s2_ne (by decide) (fun _ => rfl) l0
          replace l3 : px_lg (px_s2 lv 5 (.inr (.inl ((n) + (g.2.2.2.2.1 240 ((Int32.ofInt ((e : Int))) ||| ((Int32.ofInt (1)) <<< ((Int32.ofInt ((k : Int))) &&& 31))).toInt.toNat))))) 3 = some (oI (((2 ^ sM - 1 : Nat) : Int))) := s2_ne (by decide) (fun _ => rfl) l3
          replace l4 : px_lg (px_s2 lv 5 (.inr (.inl ((n) + (g.2.2.2.2.1 240 ((Int32.ofInt ((e : Int))) ||| ((Int32.ofInt (1)) <<< ((Int32.ofInt ((k : Int))) &&& 31))).toInt.toNat))))) 4 = some (oI ((e : Int))) := s2_ne (by decide) (fun _ => rfl) l4
          replace l7 : px_lg (px_s2 lv 5 (.inr (.inl ((n) + (g.2.2.2.2.1 240 ((Int32.ofInt ((e : Int))) ||| ((Int32.ofInt (1)) <<< ((Int32.ofInt ((k : Int))) &&& 31))).toInt.toNat))))) 7 = some (oI ((k : Int))) := s2_ne (by decide) (fun _ => rfl) l7
          have l5 : px_lg (px_s2 lv 5 (.inr (.inl ((n) + (g.2.2.2.2.1 240 ((Int32.ofInt ((e : Int))) ||| ((Int32.ofInt (1)) <<< ((Int32.ofInt ((k : Int))) &&& 31))).toInt.toNat))))) 5 = some (.inr (.inl ((n) + (g.2.2.2.2.1 240 ((Int32.ofInt ((e : Int))) ||| ((Int32.ofInt (1)) <<< ((Int32.ofInt ((k : Int))) &&& 31))).toInt.toNat)))) := s2_eq
          generalize px_s2 lv 5 (.inr (.inl ((n) + (g.2.2.2.2.1 240 ((Int32.ofInt ((e : Int))) ||| ((Int32.ofInt (1)) <<< ((Int32.ofInt ((k : Int))) &&& 31))).toInt.toNat)))) = lv10 at l0 l3 l4 l7 l5 ⊢
          show t_X d 215 199 lv10 [] g P
          refine t_2 qlo_199 rfl (w := (px_s1 lv10 7 (oI ((k : Int) + 1)), [])) (pq_inc l7 (by decide)) ?_
          replace l0 : px_lg (px_s1 lv10 7 (oI ((k : Int) + 1))) 0 = some (pvR 196) := s1_ne (by decide) (fun _ => rfl) l0
          replace l3 : px_lg (px_s1 lv10 7 (oI ((k : Int) + 1))) 3 = some (oI (((2 ^ sM - 1 : Nat) : Int))) := s1_ne (by decide) (fun _ => rfl) l3
          replace l4 : px_lg (px_s1 lv10 7 (oI ((k : Int) + 1))) 4 = some (oI ((e : Int))) := s1_ne (by decide) (fun _ => rfl) l4
          replace l5 : px_lg (px_s1 lv10 7 (oI ((k : Int) + 1))) 5 = some (.inr (.inl ((n) + (g.2.2.2.2.1 240 ((Int32.ofInt ((e : Int))) ||| ((Int32.ofInt (1)) <<< ((Int32.ofInt ((k : Int))) &&& 31))).toInt.toNat)))) := s1_ne (by decide) (fun z => absurd z (by decide)) l5
          have l7 : px_lg (px_s1 lv10 7 (oI ((k : Int) + 1))) 7 = some (oI ((k : Int) + 1)) := s1_eq
          generalize px_s1 lv10 7 (oI ((k : Int) + 1)) = lv11 at l0 l3 l4 l5 l7 ⊢
          show t_X d 215 202 lv11 [] g P
          refine t_1 qlo_202 rfl (pb_goto (pc := 202) (by decide)) ?_
          show t_X d 215 148 lv11 [] g P
          refine ih (k + 1) _ _ (by omega) (by omega) (fun hn => ?_) l0 l3 l4 l5 l7
          by_cases q : n = 0
          · refine Or.inr ⟨k, by omega, ⟨t3, c8⟩, fun q2 => hn ?_⟩
            show n + Lw g (ixC e k).toInt.toNat = 0
            rw [q, q2]
            decide
          · exact (hN q).imp id (fun ⟨k2, a1, a2⟩ => ⟨k2, by omega, a2⟩)
set_option maxHeartbeats 4000000 in
theorem lo_5 {d sM : Nat} (hs : sM ≤ 12) {h0 g : pH} {mb : Nat → Int} (hJ : J_ Wo h0 g) (hmb : fA g 239 = mb) {e : Nat} (hZ : Zp sM g e) (he : e ≤ 2 ^ sM - 1) {n : Int64} {lv : List (Nat × pv)} {P : Option pv × pH → Prop} (hN : n ≠ 0 → e = 2 ^ sM - 1 ∨ ∃ k, k < sM ∧ okC (fA g 239) e k ∧ Lw g (ixC e k).toInt.toNat ≠ 0) (l0 : px_lg lv 0 = some (pvR 196)) (l3 : px_lg lv 3 = some (oI ((2 ^ sM - 1 : Nat) : Int))) (l4 : px_lg lv 4 = some (oI (e : Int))) (l5 : px_lg lv 5 = some (.inr (.inl n))) (hC : ∀ (g2 : pH) (lv2 : List (Nat × pv)), J_ Wo h0 g2 → fA g2 239 = mb → Zp sM g2 ((e : Int) + (-1)) → px_lg lv2 0 = some (pvR 196) → px_lg lv2 3 = some (oI ((2 ^ sM - 1 : Nat) : Int)) → px_lg lv2 4 = some (oI ((e : Int) + (-1))) → t_X d 215 127 lv2 [] g2 P) : t_X d 215 205 lv [] g P := by
  have hp := pw_12 hs
  have w_a240 := Wo_1.2.1
  refine t_0 qlo_205 rfl (ld_a l0) ?_
  refine t_0 qlo_206 rfl (ar_70 hJ.1) ?_
  refine t_0 qlo_209 rfl (ld_i l4) ?_
  refine t_0 qlo_211 rfl (ld_l l5) ?_
  refine tw_l qlo_213 hJ el_240 rfl w_a240 ga_240 ⟨by omega, by omega⟩ (fun g1 hJ1 f1 a1 v1 b1 => ?_)
  replace f1 := fF_1 f1
  show t_X d 215 214 lv [] g1 P
  refine t_2 qlo_214 rfl (w := (px_s1 lv 4 (oI ((e : Int) + (-1))), [])) (pq_inc l4 (by decide)) ?_
  replace l0 : px_lg (px_s1 lv 4 (oI ((e : Int) + (-1)))) 0 = some (pvR 196) := s1_ne (by decide) (fun _ => rfl) l0
  replace l3 : px_lg (px_s1 lv 4 (oI ((e : Int) + (-1)))) 3 = some (oI (((2 ^ sM - 1 : Nat) : Int))) := s1_ne (by decide) (fun _ => rfl) l3
  replace l5 : px_lg (px_s1 lv 4 (oI ((e : Int) + (-1)))) 5 = some (.inr (.inl (n))) := s1_ne (by decide) (fun z => absurd z (by decide)) l5
  have l4 : px_lg (px_s1 lv 4 (oI ((e : Int) + (-1)))) 4 = some (oI ((e : Int) + (-1))) := s1_eq
  generalize px_s1 lv 4 (oI ((e : Int) + (-1))) = lv2 at l0 l3 l5 l4 ⊢
  show t_X d 215 217 lv2 [] g1 P
  refine t_1 qlo_217 rfl (pb_goto (pc := 217) (by decide)) ?_
  show t_X d 215 127 lv2 [] g1 P
  refine hC _ _ hJ1 (by rw [show fA g1 = fA g from by unfold fA; rw [a1]]; exact hmb) ?_ l0 l3 l4
  have hA : fA g1 = fA g := by
    unfold fA
    rw [a1]
  have hL : ∀ u, u ≠ e → Lw g1 u = Lw g u := fun u hu => b1 u hu
  have hLe : Lw g1 e = n := v1
  intro s h1 h2 h3
  by_cases q : s = e
  · subst q
    rw [hLe] at h3
    rcases hN h3 with h | ⟨k, k1, k2, k3⟩
    · omega
    · refine ⟨k, k1, by rw [hA]; exact k2, ?_⟩
      have := (ix_g (s := s) (k := k) (by omega) (by omega)).2.2 k2.1
      rw [hL _ (by omega)]
      exact k3
  · rw [hL _ q] at h3
    obtain ⟨k, k1, k2, k3⟩ := hZ s (by omega) h2 h3
    refine ⟨k, k1, by rw [hA]; exact k2, ?_⟩
    have := (ix_g (s := s) (k := k) (by omega) (by omega)).2.2 k2.1
    rw [hL _ (by omega)]
    exact k3
set_option maxHeartbeats 4000000 in
theorem lo_3 {d sM : Nat} (hd : 1 ≤ d) (hs : sM ≤ 12) {h0 : pH} (h71 : fF h0 71 = sM) {mb : Nat → Int} {P : Option pv × pH → Prop} (hP : ∀ g : pH, J_ Wo h0 g → Zp sM g (-1) → P (some (.inr (.inl (Lw g 0))), g)) : ∀ (m : Nat) (x : Int) (g : pH) (lv : List (Nat × pv)), x + 1 ≤ m → -1 ≤ x ∧ x ≤ ((2 ^ sM - 1 : Nat) : Int) → J_ Wo h0 g → fA g 239 = mb → Zp sM g x → px_lg lv 0 = some (pvR 196) → px_lg lv 3 = some (oI ((2 ^ sM - 1 : Nat) : Int)) → px_lg lv 4 = some (oI x) → t_X d 215 127 lv [] g P := by
  have hp := pw_12 hs
  intro m
  induction m with
  | zero =>
    intro x g lv hm hx hJ hmb hZ l0 l3 l4
    have hx : x = -1 := by omega
    refine t_0 qlo_127 rfl (ld_i l4) ?_
    refine tz_lt qlo_129 (by decide) ⟨by omega, by omega⟩ (fun c1 => ?_) (fun c1 => absurd c1 (by omega))
    show t_X d 215 220 lv [] g P
    refine t_0 qlo_220 rfl (ld_a l0) ?_
    refine t_0 qlo_221 rfl (ar_70 hJ.1) ?_
    refine t_0 qlo_224 rfl rfl ?_
    refine t_0 qlo_225 rfl (pq_la el_240 ⟨by decide, by decide⟩) ?_
    refine t_5 qlo_226 rfl rfl ?_
    exact hP _ hJ (by rw [hx] at hZ; exact hZ)
  | succ m ih =>
    intro x g lv hm hx hJ hmb hZ l0 l3 l4
    by_cases hneg : x < 0
    · have hx : x = -1 := by omega
      refine t_0 qlo_127 rfl (ld_i l4) ?_
      refine tz_lt qlo_129 (by decide) ⟨by omega, by omega⟩ (fun c1 => ?_) (fun c1 => absurd c1 (by omega))
      show t_X d 215 220 lv [] g P
      refine t_0 qlo_220 rfl (ld_a l0) ?_
      refine t_0 qlo_221 rfl (ar_70 hJ.1) ?_
      refine t_0 qlo_224 rfl rfl ?_
      refine t_0 qlo_225 rfl (pq_la el_240 ⟨by decide, by decide⟩) ?_
      refine t_5 qlo_226 rfl rfl ?_
      exact hP _ hJ (by rw [hx] at hZ; exact hZ)
    obtain ⟨e, rfl⟩ : ∃ e : Nat, x = e := ⟨x.toNat, by omega⟩
    have he : e ≤ 2 ^ sM - 1 := by omega
    refine t_0 qlo_127 rfl (ld_i l4) ?_
    refine tz_lt qlo_129 (by decide) ⟨by omega, by omega⟩ (fun c1 => absurd c1 (by omega)) (fun c1 => ?_)
    show t_X d 215 132 lv [] g P
    refine t_0 qlo_132 rfl (ld_i l4) ?_
    refine t_0 qlo_134 rfl (ld_i l3) ?_
    refine tb_ne qlo_135 (by decide) ⟨by omega, by omega⟩ ⟨by omega, by omega⟩ (fun c2 => ?_) (fun c2 => ?_)
    · show t_X d 215 142 lv [] g P
      refine t_0 qlo_142 rfl rfl ?_
      refine t_2 qlo_143 rfl (w := (px_s2 lv 5 (.inr (.inl (Int64.ofNat 0))), [])) rfl ?_
      replace l0 : px_lg (px_s2 lv 5 (.inr (.inl (Int64.ofNat 0)))) 0 = some (pvR 196) := s2_ne (by decide) (fun _ => rfl) l0
      replace l3 : px_lg (px_s2 lv 5 (.inr (.inl (Int64.ofNat 0)))) 3 = some (oI (((2 ^ sM - 1 : Nat) : Int))) := s2_ne (by decide) (fun _ => rfl) l3
      replace l4 : px_lg (px_s2 lv 5 (.inr (.inl (Int64.ofNat 0)))) 4 = some (oI ((e : Int))) := s2_ne (by decide) (fun _ => rfl) l4
      have l5 : px_lg (px_s2 lv 5 (.inr (.inl (Int64.ofNat 0)))) 5 = some (.inr (.inl (Int64.ofNat 0))) := s2_eq
      generalize px_s2 lv 5 (.inr (.inl (Int64.ofNat 0))) = lv3 at l0 l3 l4 l5 ⊢
      show t_X d 215 145 lv3 [] g P
      refine t_0 qlo_145 rfl rfl ?_
      refine t_2 qlo_146 rfl (w := (px_s1 lv3 7 (oI (0)), [])) rfl ?_
      replace l0 : px_lg (px_s1 lv3 7 (oI (0))) 0 = some (pvR 196) := s1_ne (by decide) (fun _ => rfl) l0
      replace l3 : px_lg (px_s1 lv3 7 (oI (0))) 3 = some (oI (((2 ^ sM - 1 : Nat) : Int))) := s1_ne (by decide) (fun _ => rfl) l3
      replace l4 : px_lg (px_s1 lv3 7 (oI (0))) 4 = some (oI ((e : Int))) := s1_ne (by decide) (fun _ => rfl) l4
      replace l5 : px_lg (px_s1 lv3 7 (oI (0))) 5 = some (.inr (.inl (Int64.ofNat 0))) := s1_ne (by decide) (fun z => absurd z (by decide)) l5
      have l7 : px_lg (px_s1 lv3 7 (oI (0))) 7 = some (oI (0)) := s1_eq
      generalize px_s1 lv3 7 (oI (0)) = lv4 at l0 l3 l4 l5 l7 ⊢
      show t_X d 215 148 lv4 [] g P
      refine lo_4 hd hs (J_rf hJ.1) (by rw [fF_M hJ.2 Wo_1.2.2.2.1, h71]) (e := e) (by have := pw_12 hs; omega) (fun n9 lv9 hN9 u0 u3 u4 u5 => ?_) sM 0 _ _ (by omega) (by omega) (fun hn => absurd (by decide) hn) l0 l3 l4 l5 l7
      exact lo_5 hs hJ hmb hZ he hN9 u0 u3 u4 u5 (fun g2 lv2 hJ2 hmb2 hZ2 v0 v3 v4 => ih _ _ _ (by omega) (by omega) hJ2 hmb2 hZ2 v0 v3 v4)
    · show t_X d 215 138 lv [] g P
      refine t_0 qlo_138 rfl rfl ?_
      refine t_1 qlo_139 rfl (pb_goto (pc := 139) (by decide)) ?_
      show t_X d 215 143 lv [.inr (.inl (Int64.ofNat 1))] g P
      refine t_2 qlo_143 rfl (w := (px_s2 lv 5 (.inr (.inl (Int64.ofNat 1))), [])) rfl ?_
      replace l0 : px_lg (px_s2 lv 5 (.inr (.inl (Int64.ofNat 1)))) 0 = some (pvR 196) := s2_ne (by decide) (fun _ => rfl) l0
      replace l3 : px_lg (px_s2 lv 5 (.inr (.inl (Int64.ofNat 1)))) 3 = some (oI (((2 ^ sM - 1 : Nat) : Int))) := s2_ne (by decide) (fun _ => rfl) l3
      replace l4 : px_lg (px_s2 lv 5 (.inr (.inl (Int64.ofNat 1)))) 4 = some (oI ((e : Int))) := s2_ne (by decide) (fun _ => rfl) l4
      have l5 : px_lg (px_s2 lv 5 (.inr (.inl (Int64.ofNat 1)))) 5 = some (.inr (.inl (Int64.ofNat 1))) := s2_eq
      generalize px_s2 lv 5 (.inr (.inl (Int64.ofNat 1))) = lv5 at l0 l3 l4 l5 ⊢
      show t_X d 215 145 lv5 [] g P
      refine t_0 qlo_145 rfl rfl ?_
      refine t_2 qlo_146 rfl (w := (px_s1 lv5 7 (oI (0)), [])) rfl ?_
      replace l0 : px_lg (px_s1 lv5 7 (oI (0))) 0 = some (pvR 196) := s1_ne (by decide) (fun _ => rfl) l0
      replace l3 : px_lg (px_s1 lv5 7 (oI (0))) 3 = some (oI (((2 ^ sM - 1 : Nat) : Int))) := s1_ne (by decide) (fun _ => rfl) l3
      replace l4 : px_lg (px_s1 lv5 7 (oI (0))) 4 = some (oI ((e : Int))) := s1_ne (by decide) (fun _ => rfl) l4
      replace l5 : px_lg (px_s1 lv5 7 (oI (0))) 5 = some (.inr (.inl (Int64.ofNat 1))) := s1_ne (by decide) (fun z => absurd z (by decide)) l5
      have l7 : px_lg (px_s1 lv5 7 (oI (0))) 7 = some (oI (0)) := s1_eq
      generalize px_s1 lv5 7 (oI (0)) = lv6 at l0 l3 l4 l5 l7 ⊢
      show t_X d 215 148 lv6 [] g P
      refine lo_4 hd hs (J_rf hJ.1) (by rw [fF_M hJ.2 Wo_1.2.2.2.1, h71]) (e := e) (by have := pw_12 hs; omega) (fun n9 lv9 hN9 u0 u3 u4 u5 => ?_) sM 0 _ _ (by omega) (by omega) (fun hn => Or.inl (by omega)) l0 l3 l4 l5 l7
      exact lo_5 hs hJ hmb hZ he hN9 u0 u3 u4 u5 (fun g2 lv2 hJ2 hmb2 hZ2 v0 v3 v4 => ih _ _ _ (by omega) (by omega) hJ2 hmb2 hZ2 v0 v3 v4)
set_option maxHeartbeats 4000000 in
theorem lo_n {d sM : Nat} (hd : 1 ≤ d) (hs : sM ≤ 12) {h0 : pH} (h71 : fF h0 71 = sM) {a b : Int} (hab : (a = -1) ∨ (-2147483648 ≤ a ∧ a ≤ 2147483647 ∧ 0 ≤ b ∧ b < 12)) {P : Option pv × pH → Prop} (hP : ∀ g : pH, J_ Wo h0 g → Zp sM g (-1) → P (some (.inr (.inl (Lw g 0))), g)) {g : pH} {lv : List (Nat × pv)} (hJ : J_ Wo h0 g) (l0 : px_lg lv 0 = some (pvR 196)) (l1 : px_lg lv 1 = some (oI a)) (l2 : px_lg lv 2 = some (oI b)) : t_X d 215 94 lv [] g P := by
  have hp := pw_12 hs
  have hp1 : 1 ≤ 2 ^ sM := Nat.one_le_two_pow
  have w_a239 := Wo_1.1
  refine t_0 qlo_94 rfl (ld_i l1) ?_
  refine t_0 qlo_95 rfl rfl ?_
  refine tb_eq qlo_96 (by decide) ⟨by omega, by omega⟩ ⟨by omega, by omega⟩ (fun c1 => ?_) (fun c1 => ?_)
  · show t_X d 215 115 lv [] g P
    refine t_0 qlo_115 rfl rfl ?_
    refine t_0 qlo_116 rfl (ld_a l0) ?_
    have r2 := gb_f hJ.1 (y := 71) rfl rfl gf_71
    refine t_0 qlo_117 rfl (pq_gf (y := 71) rfl) ?_
    rw [show fF g 71 = (sM : Int) from by rw [fF_M hJ.2 Wo_1.2.2.2.1, h71]]
    refine t_0 qlo_120 rfl rfl ?_
    refine t_0 qlo_121 rfl rfl ?_
    refine t_0 qlo_122 rfl rfl ?_
    show t_X d 215 123 lv [.inl (((Int32.ofInt (1)) <<< ((Int32.ofInt ((sM : Int))) &&& 31)) - (Int32.ofInt (1)))] g P
    rw [allC hs]
    show t_X d 215 123 lv [oI (((2 ^ sM - 1 : Nat) : Int))] g P
    refine t_2 qlo_123 rfl (w := (px_s1 lv 3 (oI (((2 ^ sM - 1 : Nat) : Int))), [])) rfl ?_
    replace l0 : px_lg (px_s1 lv 3 (oI (((2 ^ sM - 1 : Nat) : Int)))) 0 = some (pvR 196) := s1_ne (by decide) (fun _ => rfl) l0
    replace l1 : px_lg (px_s1 lv 3 (oI (((2 ^ sM - 1 : Nat) : Int)))) 1 = some (oI (a)) := s1_ne (by decide) (fun _ => rfl) l1
    replace l2 : px_lg (px_s1 lv 3 (oI (((2 ^ sM - 1 : Nat) : Int)))) 2 = some (oI (b)) := s1_ne (by decide) (fun _ => rfl) l2
    have l3 : px_lg (px_s1 lv 3 (oI (((2 ^ sM - 1 : Nat) : Int)))) 3 = some (oI (((2 ^ sM - 1 : Nat) : Int))) := s1_eq
    generalize px_s1 lv 3 (oI (((2 ^ sM - 1 : Nat) : Int))) = lv3 at l0 l1 l2 l3 ⊢
    show t_X d 215 124 lv3 [] g P
    refine t_0 qlo_124 rfl (ld_i l3) ?_
    refine t_2 qlo_125 rfl (w := (px_s1 lv3 4 (oI (((2 ^ sM - 1 : Nat) : Int))), [])) rfl ?_
    replace l0 : px_lg (px_s1 lv3 4 (oI (((2 ^ sM - 1 : Nat) : Int)))) 0 = some (pvR 196) := s1_ne (by decide) (fun _ => rfl) l0
    replace l1 : px_lg (px_s1 lv3 4 (oI (((2 ^ sM - 1 : Nat) : Int)))) 1 = some (oI (a)) := s1_ne (by decide) (fun _ => rfl) l1
    replace l2 : px_lg (px_s1 lv3 4 (oI (((2 ^ sM - 1 : Nat) : Int)))) 2 = some (oI (b)) := s1_ne (by decide) (fun _ => rfl) l2
    replace l3 : px_lg (px_s1 lv3 4 (oI (((2 ^ sM - 1 : Nat) : Int)))) 3 = some (oI (((2 ^ sM - 1 : Nat) : Int))) := s1_ne (by decide) (fun _ => rfl) l3
    have l4 : px_lg (px_s1 lv3 4 (oI (((2 ^ sM - 1 : Nat) : Int)))) 4 = some (oI (((2 ^ sM - 1 : Nat) : Int))) := s1_eq
    generalize px_s1 lv3 4 (oI (((2 ^ sM - 1 : Nat) : Int))) = lv4 at l0 l1 l2 l3 l4 ⊢
    show t_X d 215 127 lv4 [] g P
    exact lo_3 hd hs h71 (mb := fA g 239) hP (2 ^ sM) _ _ _ (by omega) (by omega) hJ rfl (fun s h1 h2 => absurd h2 (by omega)) l0 l3 l4
  · show t_X d 215 99 lv [] g P
    refine t_0 qlo_99 rfl (ld_a l0) ?_
    refine t_0 qlo_100 rfl (ar_69 hJ.1) ?_
    refine t_0 qlo_103 rfl (ld_i l2) ?_
    refine t_0 qlo_104 rfl (ld_a l0) ?_
    refine t_0 qlo_105 rfl (ar_69 hJ.1) ?_
    refine t_0 qlo_108 rfl (ld_i l2) ?_
    refine t_0 qlo_109 rfl (pq_ia el_239 rfl ⟨by omega, by omega⟩) ?_
    have r5 := fA_b g 239 b.toNat
    refine t_0 qlo_110 rfl rfl ?_
    refine t_0 qlo_111 rfl (ld_i l1) ?_
    refine t_0 qlo_112 rfl rfl ?_
    refine t_0 qlo_113 rfl rfl ?_
    refine tw_ax qlo_114 hJ el_239 rfl w_a239 ga_239 ⟨by omega, by omega⟩ (fun g6 hJ6 a6 f6 => ?_)
    replace f6 := fF_1 f6
    show t_X d 215 115 lv [] g6 P
    refine t_0 qlo_115 rfl rfl ?_
    refine t_0 qlo_116 rfl (ld_a l0) ?_
    have r7 := gb_f hJ6.1 (y := 71) rfl rfl gf_71
    refine t_0 qlo_117 rfl (pq_gf (y := 71) rfl) ?_
    rw [show fF g6 71 = (sM : Int) from by rw [fF_M hJ6.2 Wo_1.2.2.2.1, h71]]
    refine t_0 qlo_120 rfl rfl ?_
    refine t_0 qlo_121 rfl rfl ?_
    refine t_0 qlo_122 rfl rfl ?_
    show t_X d 215 123 lv [.inl (((Int32.ofInt (1)) <<< ((Int32.ofInt ((sM : Int))) &&& 31)) - (Int32.ofInt (1)))] g6 P
    rw [allC hs]
    show t_X d 215 123 lv [oI (((2 ^ sM - 1 : Nat) : Int))] g6 P
    refine t_2 qlo_123 rfl (w := (px_s1 lv 3 (oI (((2 ^ sM - 1 : Nat) : Int))), [])) rfl ?_
    replace l0 : px_lg (px_s1 lv 3 (oI (((2 ^ sM - 1 : Nat) : Int)))) 0 = some (pvR 196) := s1_ne (by decide) (fun _ => rfl) l0
    replace l1 : px_lg (px_s1 lv 3 (oI (((2 ^ sM - 1 : Nat) : Int)))) 1 = some (oI (a)) := s1_ne (by decide) (fun _ => rfl) l1
    replace l2 : px_lg (px_s1 lv 3 (oI (((2 ^ sM - 1 : Nat) : Int)))) 2 = some (oI (b)) := s1_ne (by decide) (fun _ => rfl) l2
    have l3 : px_lg (px_s1 lv 3 (oI (((2 ^ sM - 1 : Nat) : Int)))) 3 = some (oI (((2 ^ sM - 1 : Nat) : Int))) := s1_eq
    generalize px_s1 lv 3 (oI (((2 ^ sM - 1 : Nat) : Int))) = lv8 at l0 l1 l2 l3 ⊢
    show t_X d 215 124 lv8 [] g6 P
    refine t_0 qlo_124 rfl (ld_i l3) ?_
    refine t_2 qlo_125 rfl (w := (px_s1 lv8 4 (oI (((2 ^ sM - 1 : Nat) : Int))), [])) rfl ?_
    replace l0 : px_lg (px_s1 lv8 4 (oI (((2 ^ sM - 1 : Nat) : Int)))) 0 = some (pvR 196) := s1_ne (by decide) (fun _ => rfl) l0
    replace l1 : px_lg (px_s1 lv8 4 (oI (((2 ^ sM - 1 : Nat) : Int)))) 1 = some (oI (a)) := s1_ne (by decide) (fun _ => rfl) l1
    replace l2 : px_lg (px_s1 lv8 4 (oI (((2 ^ sM - 1 : Nat) : Int)))) 2 = some (oI (b)) := s1_ne (by decide) (fun _ => rfl) l2
    replace l3 : px_lg (px_s1 lv8 4 (oI (((2 ^ sM - 1 : Nat) : Int)))) 3 = some (oI (((2 ^ sM - 1 : Nat) : Int))) := s1_ne (by decide) (fun _ => rfl) l3
    have l4 : px_lg (px_s1 lv8 4 (oI (((2 ^ sM - 1 : Nat) : Int)))) 4 = some (oI (((2 ^ sM - 1 : Nat) : Int))) := s1_eq
    generalize px_s1 lv8 4 (oI (((2 ^ sM - 1 : Nat) : Int))) = lv9 at l0 l1 l2 l3 l4 ⊢
    show t_X d 215 127 lv9 [] g6 P
    exact lo_3 hd hs h71 (mb := fA g6 239) hP (2 ^ sM) _ _ _ (by omega) (by omega) hJ6 rfl (fun s h1 h2 => absurd h2 (by omega)) l0 l3 l4
set_option maxHeartbeats 4000000 in
theorem lo_m {d sM : Nat} (hd : 1 ≤ d) (hs : sM ≤ 12) {h0 : pH} (h71 : fF h0 71 = sM) {a b : Int} (hab : (a = -1) ∨ (-2147483648 ≤ a ∧ a ≤ 2147483647 ∧ 0 ≤ b ∧ b < 12)) {P : Option pv × pH → Prop} (hP : ∀ g : pH, J_ Wo h0 g → Zp sM g (-1) → P (some (.inr (.inl (Lw g 0))), g)) {g : pH} {lv : List (Nat × pv)} (hJ : J_ Wo h0 g) (l0 : px_lg lv 0 = some (pvR 196)) (l1 : px_lg lv 1 = some (oI a)) (l2 : px_lg lv 2 = some (oI b)) : t_X d 215 23 lv [] g P := by
  refine t_0 qlo_23 rfl rfl ?_
  refine t_2 qlo_24 rfl (w := (px_s1 lv 3 (oI (0)), [])) rfl ?_
  replace l0 : px_lg (px_s1 lv 3 (oI (0))) 0 = some (pvR 196) := s1_ne (by decide) (fun _ => rfl) l0
  replace l1 : px_lg (px_s1 lv 3 (oI (0))) 1 = some (oI (a)) := s1_ne (by decide) (fun _ => rfl) l1
  replace l2 : px_lg (px_s1 lv 3 (oI (0))) 2 = some (oI (b)) := s1_ne (by decide) (fun _ => rfl) l2
  have l3 : px_lg (px_s1 lv 3 (oI (0))) 3 = some (oI (0)) := s1_eq
  generalize px_s1 lv 3 (oI (0)) = lv1 at l0 l1 l2 l3 ⊢
  show t_X d 215 25 lv1 [] g P
  exact lo_2 hd (fun g1 lv1 hJ1 u0 u1 u2 => lo_n hd hs h71 hab hP hJ1 u0 u1 u2) 24 0 _ _ (by have := gb_f hJ.1 (y := 22) rfl rfl gf_22; have := fF_M hJ.2 Wo_1.2.2.2.2.1; omega) (by omega) hJ l0 l1 l2 l3
set_option maxHeartbeats 4000000 in
theorem lo_run {d sM : Nat} (hd : 1 ≤ d) (hs : sM ≤ 12) {h0 : pH} (h71 : fF h0 71 = sM) {a b : Int} (hab : (a = -1) ∨ (-2147483648 ≤ a ∧ a ≤ 2147483647 ∧ 0 ≤ b ∧ b < 12)) {P : Option pv × pH → Prop} (hP : ∀ g : pH, J_ Wo h0 g → Zp sM g (-1) → P (some (.inr (.inl (Lw g 0))), g)) {lv : List (Nat × pv)} (hG : g_I eG h0) (l0 : px_lg lv 0 = some (pvR 196)) (l1 : px_lg lv 1 = some (oI a)) (l2 : px_lg lv 2 = some (oI b)) : t_X d 215 0 lv [] h0 P := by
  refine t_0 qlo_0 rfl rfl ?_
  refine t_2 qlo_1 rfl (w := (px_s1 lv 3 (oI (0)), [])) rfl ?_
  replace l0 : px_lg (px_s1 lv 3 (oI (0))) 0 = some (pvR 196) := s1_ne (by decide) (fun _ => rfl) l0
  replace l1 : px_lg (px_s1 lv 3 (oI (0))) 1 = some (oI (a)) := s1_ne (by decide) (fun _ => rfl) l1
  replace l2 : px_lg (px_s1 lv 3 (oI (0))) 2 = some (oI (b)) := s1_ne (by decide) (fun _ => rfl) l2
  have l3 : px_lg (px_s1 lv 3 (oI (0))) 3 = some (oI (0)) := s1_eq
  generalize px_s1 lv 3 (oI (0)) = lv1 at l0 l1 l2 l3 ⊢
  show t_X d 215 2 lv1 [] h0 P
  exact lo_1 (fun g1 lv1 hJ1 u0 u1 u2 => lo_m hd hs h71 hab hP hJ1 u0 u1 u2) 12 0 _ _ (by have := gb_f hG (y := 71) rfl rfl gf_71; omega) (by omega) (J_rf hG) l0 l1 l2 l3
end
section
/-! by hand: spilt, says (printed in part by wip/e2/sp.py) -/
theorem qsp_0 : xe_look (xc 254) 0 = some (.iload_n 1, 1, 0, 0, 0) := by decide +kernel
theorem qsp_1 : xe_look (xc 254) 1 = some (.iconst 2, 1, 0, 0, 0) := by decide +kernel
theorem qsp_2 : xe_look (xc 254) 2 = some (.bipush 12, 2, 0, 0, 0) := by decide +kernel
theorem qsp_4 : xe_look (xc 254) 4 = some (.invokestatic 201, 3, 0, 199, 1131) := by decide +kernel
theorem qsp_7 : xe_look (xc 254) 7 = some (.ifCond .eq 11, 3, 0, 0, 0) := by decide +kernel
theorem qsp_10 : xe_look (xc 254) 10 = some (.iload_n 1, 1, 0, 0, 0) := by decide +kernel
theorem qsp_11 : xe_look (xc 254) 11 = some (.aload_n 0, 1, 0, 0, 0) := by decide +kernel
theorem qsp_12 : xe_look (xc 254) 12 = some (.getfield 194, 3, 12, 17, 1132) := by decide +kernel
theorem qsp_15 : xe_look (xc 254) 15 = some (.if_icmp .le 7, 3, 0, 0, 0) := by decide +kernel
theorem qsp_18 : xe_look (xc 254) 18 = some (.ldc2_w 447, 3, 0, 9223372036854775807, 1185) := by decide +kernel
theorem qsp_21 : xe_look (xc 254) 21 = some (.lreturn, 1, 0, 0, 0) := by decide +kernel
theorem qsp_22 : xe_look (xc 254) 22 = some (.aload_n 0, 1, 0, 0, 0) := by decide +kernel
theorem qsp_23 : xe_look (xc 254) 23 = some (.iconst 0, 1, 0, 0, 0) := by decide +kernel
theorem qsp_24 : xe_look (xc 254) 24 = some (.putfield 194, 3, 12, 17, 1132) := by decide +kernel
theorem qsp_27 : xe_look (xc 254) 27 = some (.aload_n 0, 1, 0, 0, 0) := by decide +kernel
theorem qsp_28 : xe_look (xc 254) 28 = some (.iload_n 1, 1, 0, 0, 0) := by decide +kernel
theorem qsp_29 : xe_look (xc 254) 29 = some (.invokevirtual 497, 3, 0, 261, 1273) := by decide +kernel
theorem qsp_32 : xe_look (xc 254) 32 = some (.ifCond .ne 7, 3, 0, 0, 0) := by decide +kernel
theorem qsp_35 : xe_look (xc 254) 35 = some (.ldc2_w 460, 3, 0, 9223372036854775806, 1274) := by decide +kernel
theorem qsp_38 : xe_look (xc 254) 38 = some (.lreturn, 1, 0, 0, 0) := by decide +kernel
theorem qsp_39 : xe_look (xc 254) 39 = some (.iload_n 2, 1, 0, 0, 0) := by decide +kernel
theorem qsp_40 : xe_look (xc 254) 40 = some (.iconst (-1), 1, 0, 0, 0) := by decide +kernel
theorem qsp_41 : xe_look (xc 254) 41 = some (.iload_n 1, 1, 0, 0, 0) := by decide +kernel
theorem qsp_42 : xe_look (xc 254) 42 = some (.iconst 1, 1, 0, 0, 0) := by decide +kernel
theorem qsp_43 : xe_look (xc 254) 43 = some (.isub, 1, 0, 0, 0) := by decide +kernel
theorem qsp_44 : xe_look (xc 254) 44 = some (.invokestatic 201, 3, 0, 199, 1131) := by decide +kernel
theorem qsp_47 : xe_look (xc 254) 47 = some (.ifCond .ne 7, 3, 0, 0, 0) := by decide +kernel
theorem qsp_50 : xe_look (xc 254) 50 = some (.ldc2_w 500, 3, 0, 9223372036854775805, 1275) := by decide +kernel
theorem qsp_53 : xe_look (xc 254) 53 = some (.lreturn, 1, 0, 0, 0) := by decide +kernel
theorem qsp_54 : xe_look (xc 254) 54 = some (.aload_n 0, 1, 0, 0, 0) := by decide +kernel
theorem qsp_55 : xe_look (xc 254) 55 = some (.iconst (-1), 1, 0, 0, 0) := by decide +kernel
theorem qsp_56 : xe_look (xc 254) 56 = some (.iconst (-1), 1, 0, 0, 0) := by decide +kernel
theorem qsp_57 : xe_look (xc 254) 57 = some (.invokevirtual 502, 3, 0, 215, 1276) := by decide +kernel
theorem qsp_60 : xe_look (xc 254) 60 = some (.lstore_n 3, 1, 0, 0, 0) := by decide +kernel
theorem qsp_61 : xe_look (xc 254) 61 = some (.iload_n 2, 1, 0, 0, 0) := by decide +kernel
theorem qsp_62 : xe_look (xc 254) 62 = some (.iconst (-1), 1, 0, 0, 0) := by decide +kernel
theorem qsp_63 : xe_look (xc 254) 63 = some (.if_icmp .ne 5, 3, 0, 0, 0) := by decide +kernel
theorem qsp_66 : xe_look (xc 254) 66 = some (.lload_n 3, 1, 0, 0, 0) := by decide +kernel
theorem qsp_67 : xe_look (xc 254) 67 = some (.lreturn, 1, 0, 0, 0) := by decide +kernel
theorem qsp_68 : xe_look (xc 254) 68 = some (.lload_n 3, 1, 0, 0, 0) := by decide +kernel
theorem qsp_69 : xe_look (xc 254) 69 = some (.lconst 0, 1, 0, 0, 0) := by decide +kernel
theorem qsp_70 : xe_look (xc 254) 70 = some (.lcmp, 1, 0, 0, 0) := by decide +kernel
theorem qsp_71 : xe_look (xc 254) 71 = some (.ifCond .ne 7, 3, 0, 0, 0) := by decide +kernel
theorem qsp_74 : xe_look (xc 254) 74 = some (.ldc2_w 460, 3, 0, 9223372036854775806, 1274) := by decide +kernel
theorem qsp_77 : xe_look (xc 254) 77 = some (.lreturn, 1, 0, 0, 0) := by decide +kernel
theorem qsp_78 : xe_look (xc 254) 78 = some (.iconst 0, 1, 0, 0, 0) := by decide +kernel
theorem qsp_79 : xe_look (xc 254) 79 = some (.istore 5, 2, 0, 0, 0) := by decide +kernel
theorem qsp_81 : xe_look (xc 254) 81 = some (.iconst 0, 1, 0, 0, 0) := by decide +kernel
theorem qsp_82 : xe_look (xc 254) 82 = some (.istore 6, 2, 0, 0, 0) := by decide +kernel
theorem qsp_84 : xe_look (xc 254) 84 = some (.iconst 0, 1, 0, 0, 0) := by decide +kernel
theorem qsp_85 : xe_look (xc 254) 85 = some (.istore 7, 2, 0, 0, 0) := by decide +kernel
theorem qsp_87 : xe_look (xc 254) 87 = some (.iload 7, 2, 0, 0, 0) := by decide +kernel
theorem qsp_89 : xe_look (xc 254) 89 = some (.iload_n 2, 1, 0, 0, 0) := by decide +kernel
theorem qsp_90 : xe_look (xc 254) 90 = some (.if_icmp .gt 72, 3, 0, 0, 0) := by decide +kernel
theorem qsp_93 : xe_look (xc 254) 93 = some (.iconst 0, 1, 0, 0, 0) := by decide +kernel
theorem qsp_94 : xe_look (xc 254) 94 = some (.istore 6, 2, 0, 0, 0) := by decide +kernel
theorem qsp_96 : xe_look (xc 254) 96 = some (.iload 5, 2, 0, 0, 0) := by decide +kernel
theorem qsp_98 : xe_look (xc 254) 98 = some (.iload 6, 2, 0, 0, 0) := by decide +kernel
theorem qsp_100 : xe_look (xc 254) 100 = some (.invokestatic 187, 3, 0, 196, 1121) := by decide +kernel
theorem qsp_103 : xe_look (xc 254) 103 = some (.ifCond .ne 35, 3, 0, 0, 0) := by decide +kernel
theorem qsp_106 : xe_look (xc 254) 106 = some (.aload_n 0, 1, 0, 0, 0) := by decide +kernel
theorem qsp_107 : xe_look (xc 254) 107 = some (.getfield 138, 3, 12, 69, 1207) := by decide +kernel
theorem qsp_110 : xe_look (xc 254) 110 = some (.iload 6, 2, 0, 0, 0) := by decide +kernel
theorem qsp_112 : xe_look (xc 254) 112 = some (.iaload, 1, 0, 0, 0) := by decide +kernel
theorem qsp_113 : xe_look (xc 254) 113 = some (.iload 5, 2, 0, 0, 0) := by decide +kernel
theorem qsp_115 : xe_look (xc 254) 115 = some (.iconst (-1), 1, 0, 0, 0) := by decide +kernel
theorem qsp_116 : xe_look (xc 254) 116 = some (.ixor, 1, 0, 0, 0) := by decide +kernel
theorem qsp_117 : xe_look (xc 254) 117 = some (.iand, 1, 0, 0, 0) := by decide +kernel
theorem qsp_118 : xe_look (xc 254) 118 = some (.ifCond .ne 20, 3, 0, 0, 0) := by decide +kernel
theorem qsp_121 : xe_look (xc 254) 121 = some (.aload_n 0, 1, 0, 0, 0) := by decide +kernel
theorem qsp_122 : xe_look (xc 254) 122 = some (.getfield 141, 3, 12, 70, 1208) := by decide +kernel
theorem qsp_125 : xe_look (xc 254) 125 = some (.iload 5, 2, 0, 0, 0) := by decide +kernel
theorem qsp_127 : xe_look (xc 254) 127 = some (.iconst 1, 1, 0, 0, 0) := by decide +kernel
theorem qsp_128 : xe_look (xc 254) 128 = some (.iload 6, 2, 0, 0, 0) := by decide +kernel
theorem qsp_130 : xe_look (xc 254) 130 = some (.ishl, 1, 0, 0, 0) := by decide +kernel
theorem qsp_131 : xe_look (xc 254) 131 = some (.ior, 1, 0, 0, 0) := by decide +kernel
theorem qsp_132 : xe_look (xc 254) 132 = some (.laload, 1, 0, 0, 0) := by decide +kernel
theorem qsp_133 : xe_look (xc 254) 133 = some (.lconst 0, 1, 0, 0, 0) := by decide +kernel
theorem qsp_134 : xe_look (xc 254) 134 = some (.lcmp, 1, 0, 0, 0) := by decide +kernel
theorem qsp_135 : xe_look (xc 254) 135 = some (.ifCond .ne 12, 3, 0, 0, 0) := by decide +kernel
theorem qsp_138 : xe_look (xc 254) 138 = some (.iload 6, 2, 0, 0, 0) := by decide +kernel
theorem qsp_140 : xe_look (xc 254) 140 = some (.iconst 1, 1, 0, 0, 0) := by decide +kernel
theorem qsp_141 : xe_look (xc 254) 141 = some (.iadd, 1, 0, 0, 0) := by decide +kernel
theorem qsp_142 : xe_look (xc 254) 142 = some (.istore 6, 2, 0, 0, 0) := by decide +kernel
theorem qsp_144 : xe_look (xc 254) 144 = some (.goto (-48), 3, 0, 0, 0) := by decide +kernel
theorem qsp_147 : xe_look (xc 254) 147 = some (.iload 5, 2, 0, 0, 0) := by decide +kernel
theorem qsp_149 : xe_look (xc 254) 149 = some (.iconst 1, 1, 0, 0, 0) := by decide +kernel
theorem qsp_150 : xe_look (xc 254) 150 = some (.iload 6, 2, 0, 0, 0) := by decide +kernel
theorem qsp_152 : xe_look (xc 254) 152 = some (.ishl, 1, 0, 0, 0) := by decide +kernel
theorem qsp_153 : xe_look (xc 254) 153 = some (.ior, 1, 0, 0, 0) := by decide +kernel
theorem qsp_154 : xe_look (xc 254) 154 = some (.istore 5, 2, 0, 0, 0) := by decide +kernel
theorem qsp_156 : xe_look (xc 254) 156 = some (.iinc 7 1, 3, 0, 0, 0) := by decide +kernel
theorem qsp_159 : xe_look (xc 254) 159 = some (.goto (-72), 3, 0, 0, 0) := by decide +kernel
theorem qsp_162 : xe_look (xc 254) 162 = some (.aload_n 0, 1, 0, 0, 0) := by decide +kernel
theorem qsp_163 : xe_look (xc 254) 163 = some (.getfield 135, 3, 12, 68, 1206) := by decide +kernel
theorem qsp_166 : xe_look (xc 254) 166 = some (.iload 6, 2, 0, 0, 0) := by decide +kernel
theorem qsp_168 : xe_look (xc 254) 168 = some (.iaload, 1, 0, 0, 0) := by decide +kernel
theorem qsp_169 : xe_look (xc 254) 169 = some (.i2l, 1, 0, 0, 0) := by decide +kernel
theorem qsp_170 : xe_look (xc 254) 170 = some (.lreturn, 1, 0, 0, 0) := by decide +kernel
theorem qsy_0 : xe_look (xc 243) 0 = some (.iload_n 1, 1, 0, 0, 0) := by decide +kernel
theorem qsy_1 : xe_look (xc 243) 1 = some (.iconst 2, 1, 0, 0, 0) := by decide +kernel
theorem qsy_2 : xe_look (xc 243) 2 = some (.bipush 12, 2, 0, 0, 0) := by decide +kernel
theorem qsy_4 : xe_look (xc 243) 4 = some (.invokestatic 201, 3, 0, 199, 1131) := by decide +kernel
theorem qsy_7 : xe_look (xc 243) 7 = some (.ifCond .eq 21, 3, 0, 0, 0) := by decide +kernel
theorem qsy_10 : xe_look (xc 243) 10 = some (.iload 4, 2, 0, 0, 0) := by decide +kernel
theorem qsy_12 : xe_look (xc 243) 12 = some (.iconst 0, 1, 0, 0, 0) := by decide +kernel
theorem qsy_13 : xe_look (xc 243) 13 = some (.iconst 3, 1, 0, 0, 0) := by decide +kernel
theorem qsy_14 : xe_look (xc 243) 14 = some (.invokestatic 201, 3, 0, 199, 1131) := by decide +kernel
theorem qsy_17 : xe_look (xc 243) 17 = some (.ifCond .eq 11, 3, 0, 0, 0) := by decide +kernel
theorem qsy_20 : xe_look (xc 243) 20 = some (.iload_n 1, 1, 0, 0, 0) := by decide +kernel
theorem qsy_21 : xe_look (xc 243) 21 = some (.aload_n 0, 1, 0, 0, 0) := by decide +kernel
theorem qsy_22 : xe_look (xc 243) 22 = some (.getfield 194, 3, 12, 17, 1132) := by decide +kernel
theorem qsy_25 : xe_look (xc 243) 25 = some (.if_icmp .le 7, 3, 0, 0, 0) := by decide +kernel
theorem qsy_28 : xe_look (xc 243) 28 = some (.ldc2_w 447, 3, 0, 9223372036854775807, 1185) := by decide +kernel
theorem qsy_31 : xe_look (xc 243) 31 = some (.lreturn, 1, 0, 0, 0) := by decide +kernel
theorem qsy_32 : xe_look (xc 243) 32 = some (.aload_n 0, 1, 0, 0, 0) := by decide +kernel
theorem qsy_33 : xe_look (xc 243) 33 = some (.iconst 0, 1, 0, 0, 0) := by decide +kernel
theorem qsy_34 : xe_look (xc 243) 34 = some (.putfield 194, 3, 12, 17, 1132) := by decide +kernel
theorem qsy_37 : xe_look (xc 243) 37 = some (.aload_n 0, 1, 0, 0, 0) := by decide +kernel
theorem qsy_38 : xe_look (xc 243) 38 = some (.iload_n 1, 1, 0, 0, 0) := by decide +kernel
theorem qsy_39 : xe_look (xc 243) 39 = some (.invokevirtual 497, 3, 0, 261, 1273) := by decide +kernel
theorem qsy_42 : xe_look (xc 243) 42 = some (.ifCond .ne 7, 3, 0, 0, 0) := by decide +kernel
theorem qsy_45 : xe_look (xc 243) 45 = some (.ldc2_w 460, 3, 0, 9223372036854775806, 1274) := by decide +kernel
theorem qsy_48 : xe_look (xc 243) 48 = some (.lreturn, 1, 0, 0, 0) := by decide +kernel
theorem qsy_49 : xe_look (xc 243) 49 = some (.iload 4, 2, 0, 0, 0) := by decide +kernel
theorem qsy_51 : xe_look (xc 243) 51 = some (.ifCond .ne 47, 3, 0, 0, 0) := by decide +kernel
theorem qsy_54 : xe_look (xc 243) 54 = some (.aload_n 0, 1, 0, 0, 0) := by decide +kernel
theorem qsy_55 : xe_look (xc 243) 55 = some (.iload_n 2, 1, 0, 0, 0) := by decide +kernel
theorem qsy_56 : xe_look (xc 243) 56 = some (.invokevirtual 494, 3, 0, 255, 1236) := by decide +kernel
theorem qsy_59 : xe_look (xc 243) 59 = some (.iconst (-1), 1, 0, 0, 0) := by decide +kernel
theorem qsy_60 : xe_look (xc 243) 60 = some (.if_icmp .eq 17, 3, 0, 0, 0) := by decide +kernel
theorem qsy_63 : xe_look (xc 243) 63 = some (.aload_n 0, 1, 0, 0, 0) := by decide +kernel
theorem qsy_64 : xe_look (xc 243) 64 = some (.iload_n 3, 1, 0, 0, 0) := by decide +kernel
theorem qsy_65 : xe_look (xc 243) 65 = some (.invokevirtual 494, 3, 0, 255, 1236) := by decide +kernel
theorem qsy_68 : xe_look (xc 243) 68 = some (.iconst (-1), 1, 0, 0, 0) := by decide +kernel
theorem qsy_69 : xe_look (xc 243) 69 = some (.if_icmp .eq 8, 3, 0, 0, 0) := by decide +kernel
theorem qsy_72 : xe_look (xc 243) 72 = some (.iload_n 2, 1, 0, 0, 0) := by decide +kernel
theorem qsy_73 : xe_look (xc 243) 73 = some (.iload_n 3, 1, 0, 0, 0) := by decide +kernel
theorem qsy_74 : xe_look (xc 243) 74 = some (.if_icmp .ne 9, 3, 0, 0, 0) := by decide +kernel
theorem qsy_77 : xe_look (xc 243) 77 = some (.ldc2_w 500, 3, 0, 9223372036854775805, 1275) := by decide +kernel
theorem qsy_80 : xe_look (xc 243) 80 = some (.goto 17, 3, 0, 0, 0) := by decide +kernel
theorem qsy_83 : xe_look (xc 243) 83 = some (.aload_n 0, 1, 0, 0, 0) := by decide +kernel
theorem qsy_84 : xe_look (xc 243) 84 = some (.aload_n 0, 1, 0, 0, 0) := by decide +kernel
theorem qsy_85 : xe_look (xc 243) 85 = some (.iload_n 2, 1, 0, 0, 0) := by decide +kernel
theorem qsy_86 : xe_look (xc 243) 86 = some (.invokevirtual 494, 3, 0, 255, 1236) := by decide +kernel
theorem qsy_89 : xe_look (xc 243) 89 = some (.aload_n 0, 1, 0, 0, 0) := by decide +kernel
theorem qsy_90 : xe_look (xc 243) 90 = some (.iload_n 3, 1, 0, 0, 0) := by decide +kernel
theorem qsy_91 : xe_look (xc 243) 91 = some (.invokevirtual 494, 3, 0, 255, 1236) := by decide +kernel
theorem qsy_94 : xe_look (xc 243) 94 = some (.invokevirtual 502, 3, 0, 215, 1276) := by decide +kernel
theorem qsy_97 : xe_look (xc 243) 97 = some (.lreturn, 1, 0, 0, 0) := by decide +kernel
theorem qsy_98 : xe_look (xc 243) 98 = some (.aload_n 0, 1, 0, 0, 0) := by decide +kernel
theorem qsy_99 : xe_look (xc 243) 99 = some (.iconst (-1), 1, 0, 0, 0) := by decide +kernel
theorem qsy_100 : xe_look (xc 243) 100 = some (.iconst (-1), 1, 0, 0, 0) := by decide +kernel
theorem qsy_101 : xe_look (xc 243) 101 = some (.invokevirtual 502, 3, 0, 215, 1276) := by decide +kernel
theorem qsy_104 : xe_look (xc 243) 104 = some (.lstore 5, 2, 0, 0, 0) := by decide +kernel
theorem qsy_106 : xe_look (xc 243) 106 = some (.lconst 0, 1, 0, 0, 0) := by decide +kernel
theorem qsy_107 : xe_look (xc 243) 107 = some (.lstore 7, 2, 0, 0, 0) := by decide +kernel
theorem qsy_109 : xe_look (xc 243) 109 = some (.iconst (-1), 1, 0, 0, 0) := by decide +kernel
theorem qsy_110 : xe_look (xc 243) 110 = some (.istore 9, 2, 0, 0, 0) := by decide +kernel
theorem qsy_112 : xe_look (xc 243) 112 = some (.iconst (-1), 1, 0, 0, 0) := by decide +kernel
theorem qsy_113 : xe_look (xc 243) 113 = some (.istore 10, 2, 0, 0, 0) := by decide +kernel
theorem qsy_115 : xe_look (xc 243) 115 = some (.iconst 0, 1, 0, 0, 0) := by decide +kernel
theorem qsy_116 : xe_look (xc 243) 116 = some (.istore 11, 2, 0, 0, 0) := by decide +kernel
theorem qsy_118 : xe_look (xc 243) 118 = some (.iload 11, 2, 0, 0, 0) := by decide +kernel
theorem qsy_120 : xe_look (xc 243) 120 = some (.iload_n 1, 1, 0, 0, 0) := by decide +kernel
theorem qsy_121 : xe_look (xc 243) 121 = some (.if_icmp .ge 83, 3, 0, 0, 0) := by decide +kernel
theorem qsy_124 : xe_look (xc 243) 124 = some (.iload 11, 2, 0, 0, 0) := by decide +kernel
theorem qsy_126 : xe_look (xc 243) 126 = some (.iconst 1, 1, 0, 0, 0) := by decide +kernel
theorem qsy_127 : xe_look (xc 243) 127 = some (.iadd, 1, 0, 0, 0) := by decide +kernel
theorem qsy_128 : xe_look (xc 243) 128 = some (.istore 12, 2, 0, 0, 0) := by decide +kernel
theorem qsy_130 : xe_look (xc 243) 130 = some (.iload 12, 2, 0, 0, 0) := by decide +kernel
theorem qsy_132 : xe_look (xc 243) 132 = some (.iload_n 1, 1, 0, 0, 0) := by decide +kernel
theorem qsy_133 : xe_look (xc 243) 133 = some (.if_icmp .ge 65, 3, 0, 0, 0) := by decide +kernel
theorem qsy_136 : xe_look (xc 243) 136 = some (.aload_n 0, 1, 0, 0, 0) := by decide +kernel
theorem qsy_137 : xe_look (xc 243) 137 = some (.iload 11, 2, 0, 0, 0) := by decide +kernel
theorem qsy_139 : xe_look (xc 243) 139 = some (.iload 12, 2, 0, 0, 0) := by decide +kernel
theorem qsy_141 : xe_look (xc 243) 141 = some (.invokevirtual 502, 3, 0, 215, 1276) := by decide +kernel
theorem qsy_144 : xe_look (xc 243) 144 = some (.lstore 13, 2, 0, 0, 0) := by decide +kernel
theorem qsy_146 : xe_look (xc 243) 146 = some (.lload 13, 2, 0, 0, 0) := by decide +kernel
theorem qsy_148 : xe_look (xc 243) 148 = some (.lload 5, 2, 0, 0, 0) := by decide +kernel
theorem qsy_150 : xe_look (xc 243) 150 = some (.lload 13, 2, 0, 0, 0) := by decide +kernel
theorem qsy_152 : xe_look (xc 243) 152 = some (.lsub, 1, 0, 0, 0) := by decide +kernel
theorem qsy_153 : xe_look (xc 243) 153 = some (.lcmp, 1, 0, 0, 0) := by decide +kernel
theorem qsy_154 : xe_look (xc 243) 154 = some (.ifCond .ge 8, 3, 0, 0, 0) := by decide +kernel
theorem qsy_157 : xe_look (xc 243) 157 = some (.lload 13, 2, 0, 0, 0) := by decide +kernel
theorem qsy_159 : xe_look (xc 243) 159 = some (.goto 8, 3, 0, 0, 0) := by decide +kernel
theorem qsy_162 : xe_look (xc 243) 162 = some (.lload 5, 2, 0, 0, 0) := by decide +kernel
theorem qsy_164 : xe_look (xc 243) 164 = some (.lload 13, 2, 0, 0, 0) := by decide +kernel
theorem qsy_166 : xe_look (xc 243) 166 = some (.lsub, 1, 0, 0, 0) := by decide +kernel
theorem qsy_167 : xe_look (xc 243) 167 = some (.lstore 15, 2, 0, 0, 0) := by decide +kernel
theorem qsy_169 : xe_look (xc 243) 169 = some (.lload 15, 2, 0, 0, 0) := by decide +kernel
theorem qsy_171 : xe_look (xc 243) 171 = some (.lload 7, 2, 0, 0, 0) := by decide +kernel
theorem qsy_173 : xe_look (xc 243) 173 = some (.lcmp, 1, 0, 0, 0) := by decide +kernel
theorem qsy_174 : xe_look (xc 243) 174 = some (.ifCond .gt 6, 3, 0, 0, 0) := by decide +kernel
theorem qsy_177 : xe_look (xc 243) 177 = some (.goto 15, 3, 0, 0, 0) := by decide +kernel
theorem qsy_180 : xe_look (xc 243) 180 = some (.lload 15, 2, 0, 0, 0) := by decide +kernel
theorem qsy_182 : xe_look (xc 243) 182 = some (.lstore 7, 2, 0, 0, 0) := by decide +kernel
theorem qsy_184 : xe_look (xc 243) 184 = some (.iload 11, 2, 0, 0, 0) := by decide +kernel
theorem qsy_186 : xe_look (xc 243) 186 = some (.istore 9, 2, 0, 0, 0) := by decide +kernel
theorem qsy_188 : xe_look (xc 243) 188 = some (.iload 12, 2, 0, 0, 0) := by decide +kernel
theorem qsy_190 : xe_look (xc 243) 190 = some (.istore 10, 2, 0, 0, 0) := by decide +kernel
theorem qsy_192 : xe_look (xc 243) 192 = some (.iinc 12 1, 3, 0, 0, 0) := by decide +kernel
theorem qsy_195 : xe_look (xc 243) 195 = some (.goto (-65), 3, 0, 0, 0) := by decide +kernel
theorem qsy_198 : xe_look (xc 243) 198 = some (.iinc 11 1, 3, 0, 0, 0) := by decide +kernel
theorem qsy_201 : xe_look (xc 243) 201 = some (.goto (-83), 3, 0, 0, 0) := by decide +kernel
theorem qsy_204 : xe_look (xc 243) 204 = some (.iload 9, 2, 0, 0, 0) := by decide +kernel
theorem qsy_206 : xe_look (xc 243) 206 = some (.iconst (-1), 1, 0, 0, 0) := by decide +kernel
theorem qsy_207 : xe_look (xc 243) 207 = some (.if_icmp .ne 9, 3, 0, 0, 0) := by decide +kernel
theorem qsy_210 : xe_look (xc 243) 210 = some (.ldc2_w 460, 3, 0, 9223372036854775806, 1274) := by decide +kernel
theorem qsy_213 : xe_look (xc 243) 213 = some (.goto 39, 3, 0, 0, 0) := by decide +kernel
theorem qsy_216 : xe_look (xc 243) 216 = some (.iload 4, 2, 0, 0, 0) := by decide +kernel
theorem qsy_218 : xe_look (xc 243) 218 = some (.iconst 1, 1, 0, 0, 0) := by decide +kernel
theorem qsy_219 : xe_look (xc 243) 219 = some (.if_icmp .ne 14, 3, 0, 0, 0) := by decide +kernel
theorem qsy_222 : xe_look (xc 243) 222 = some (.aload_n 0, 1, 0, 0, 0) := by decide +kernel
theorem qsy_223 : xe_look (xc 243) 223 = some (.getfield 135, 3, 12, 68, 1206) := by decide +kernel
theorem qsy_226 : xe_look (xc 243) 226 = some (.iload 9, 2, 0, 0, 0) := by decide +kernel
theorem qsy_228 : xe_look (xc 243) 228 = some (.iaload, 1, 0, 0, 0) := by decide +kernel
theorem qsy_229 : xe_look (xc 243) 229 = some (.i2l, 1, 0, 0, 0) := by decide +kernel
theorem qsy_230 : xe_look (xc 243) 230 = some (.goto 22, 3, 0, 0, 0) := by decide +kernel
theorem qsy_233 : xe_look (xc 243) 233 = some (.iload 4, 2, 0, 0, 0) := by decide +kernel
theorem qsy_235 : xe_look (xc 243) 235 = some (.iconst 2, 1, 0, 0, 0) := by decide +kernel
theorem qsy_236 : xe_look (xc 243) 236 = some (.if_icmp .ne 14, 3, 0, 0, 0) := by decide +kernel
theorem qsy_239 : xe_look (xc 243) 239 = some (.aload_n 0, 1, 0, 0, 0) := by decide +kernel
theorem qsy_240 : xe_look (xc 243) 240 = some (.getfield 135, 3, 12, 68, 1206) := by decide +kernel
theorem qsy_243 : xe_look (xc 243) 243 = some (.iload 10, 2, 0, 0, 0) := by decide +kernel
theorem qsy_245 : xe_look (xc 243) 245 = some (.iaload, 1, 0, 0, 0) := by decide +kernel
theorem qsy_246 : xe_look (xc 243) 246 = some (.i2l, 1, 0, 0, 0) := by decide +kernel
theorem qsy_247 : xe_look (xc 243) 247 = some (.goto 5, 3, 0, 0, 0) := by decide +kernel
theorem qsy_250 : xe_look (xc 243) 250 = some (.lload 7, 2, 0, 0, 0) := by decide +kernel
theorem qsy_252 : xe_look (xc 243) 252 = some (.lreturn, 1, 0, 0, 0) := by decide +kernel
theorem gf_17 : eG (cn 196 + 17) = (0, 260, []) := by decide +kernel
def Ws : Nat := kk_185.2.2.2.1 ||| (Wo ||| 2 ^ (cn 196 + 17))
theorem Ws_1 : Ws.testBit (cn 196 + 17) = true ∧ Ws &&& eDX = 0 ∧ kk_185.2.2.2.1 &&& Ws = kk_185.2.2.2.1 ∧ Wo &&& Ws = Wo := by decide +kernel
theorem lg_0 {a : Int64} : lg_cmp a (Int64.ofNat 0) = 0 ↔ a = 0 := by
  constructor
  · intro h
    have h1 := (lg_cmp_v a (Int64.ofNat 0)).2.mp (by rw [h]; decide)
    have h2 : (Int64.ofNat 0).toInt = 0 := by decide
    exact Int64.toInt_inj.mp (by rw [show (0 : Int64).toInt = 0 by decide]; omega)
  · intro h
    subst h
    decide
theorem ix_o {s k : Nat} (hs : s < 4096) (hk : k < 12) : ixC s k = Int32.ofInt ((s ||| 2 ^ k : Nat) : Int) := by
  have h2 : s ||| 2 ^ k < 4096 := Nat.or_lt_two_pow (n := 12) hs (Nat.pow_lt_pow_right (by decide) hk)
  exact Int32.toInt_inj.mp (by rw [ix_t hs hk, oT (by omega) (by omega)])
def cntB (e : Nat) : Nat := cnt (fun i => e.testBit i) 12
theorem cntA {m : Nat} (hm : m ≤ 12) : cntB (2 ^ m - 1) = m := by
  have : ∀ m, m < 13 → cntB (2 ^ m - 1) = m := by decide +kernel
  exact this m (by omega)
theorem cntO {e k : Nat} (hk : k < 12) : cntB (e ||| 2 ^ k) ≤ cntB e + 1 := by
  have := cnt_set (f := fun i => e.testBit i) (g := fun i => (e ||| 2 ^ k).testBit i) (v := k) (n := 12) (fun j hj => by
    show (e ||| 2 ^ k).testBit j = (e.testBit j || decide (j = k))
    rw [Nat.testBit_or, Nat.testBit_two_pow]
    congr 1
    exact decide_eq_decide.mpr ⟨fun h => h.symm, fun h => h.symm⟩)
  rw [if_pos hk] at this
  exact this
set_option maxHeartbeats 4000000 in
theorem sp_k {d sM : Nat} (hd : 1 ≤ d) (hs : sM ≤ 12) {g : pH} (hJ : J_ 0 g g) {e q ks : Nat} {w : Int} (he : e < 4096) (hk : ks < sM ∧ okC (fA g 239) e ks ∧ Lw g (ixC e ks).toInt.toNat ≠ 0) {P : Option pv × pH → Prop} (hC : ∀ (k : Nat) (lv : List (Nat × pv)), k < sM → okC (fA g 239) e k → Lw g (ixC e k).toInt.toNat ≠ 0 → px_lg lv 0 = some (pvR 196) → px_lg lv 2 = some (oI w) → px_lg lv 5 = some (oI (e : Int)) → px_lg lv 6 = some (oI (k : Int)) → px_lg lv 7 = some (oI (q : Int)) → t_X d 254 147 lv [] g P) : ∀ (m k : Nat) (lv : List (Nat × pv)), ks - k ≤ m → k ≤ ks → px_lg lv 0 = some (pvR 196) → px_lg lv 2 = some (oI w) → px_lg lv 5 = some (oI (e : Int)) → px_lg lv 6 = some (oI (k : Int)) → px_lg lv 7 = some (oI (q : Int)) → t_X d 254 96 lv [] g P := by
  intro m
  induction m with
  | zero =>
    intro k lv hm hkk l0 l2 l5 l6 l7
    obtain rfl : k = ks := by omega
    have hx := ix_g (s := e) (k := k) he (by omega)
    refine t_0 qsp_96 rfl (ld_i l5) ?_
    refine t_0 qsp_98 rfl (ld_i l6) ?_
    refine t_3 qsp_100 rfl (ar := ([oI ((e : Int)), oI ((k : Int))], [])) (pcal_s ⟨Or.inl rfl, rfl, Nat.le_of_ble_eq_true rfl⟩) ⟨by omega, Nat.le_of_ble_eq_true rfl, Nat.le_of_ble_eq_true rfl, rfl⟩ ?_
    refine has_run (fun t1 => ?_) (fun t1 => ?_)
    · show t_X d 254 103 lv [oI (1)] g P
      refine tz_ne qsp_103 (by decide) ⟨by omega, by omega⟩ (fun c2 => ?_) (fun c2 => absurd c2 (by omega))
      show t_X d 254 138 lv [] g P
      exact False.elim (hk.2.1.1 t1)
    · show t_X d 254 103 lv [oI (0)] g P
      refine tz_ne qsp_103 (by decide) ⟨by omega, by omega⟩ (fun c3 => absurd c3 (by omega)) (fun c3 => ?_)
      show t_X d 254 106 lv [] g P
      refine t_0 qsp_106 rfl (ld_a l0) ?_
      refine t_0 qsp_107 rfl (ar_69 hJ.1) ?_
      refine t_0 qsp_110 rfl (ld_i l6) ?_
      refine t_0 qsp_112 rfl (pq_ia el_239 rfl ⟨by omega, by omega⟩) ?_
      show t_X d 254 113 lv [oI (fA g 239 k)] g P
      have r4 := fA_b g 239 k
      refine t_0 qsp_113 rfl (ld_i l5) ?_
      refine t_0 qsp_115 rfl rfl ?_
      refine t_0 qsp_116 rfl rfl ?_
      refine t_0 qsp_117 rfl rfl ?_
      refine tx_ne qsp_118 (by decide) (fun c5 => ?_) (fun c5 => ?_)
      · show t_X d 254 138 lv [] g P
        exact False.elim (c5 hk.2.1.2)
      · show t_X d 254 121 lv [] g P
        refine t_0 qsp_121 rfl (ld_a l0) ?_
        refine t_0 qsp_122 rfl (ar_70 hJ.1) ?_
        refine t_0 qsp_125 rfl (ld_i l5) ?_
        refine t_0 qsp_127 rfl rfl ?_
        refine t_0 qsp_128 rfl (ld_i l6) ?_
        refine t_0 qsp_130 rfl rfl ?_
        refine t_0 qsp_131 rfl rfl ?_
        refine t_0 qsp_132 rfl (pq_la el_240 ⟨hx.1, hx.2.1⟩) ?_
        refine t_0 qsp_133 rfl rfl ?_
        refine t_0 qsp_134 rfl rfl ?_
        refine tx_ne qsp_135 (by decide) (fun c6 => ?_) (fun c6 => ?_)
        · show t_X d 254 147 lv [] g P
          exact hC k _ (by omega) ⟨t1, c5⟩ (fun z => c6 (lg_0.mpr z)) l0 l2 l5 l6 l7
        · show t_X d 254 138 lv [] g P
          exact False.elim (hk.2.2 (lg_0.mp c6))
  | succ m ih =>
    intro k lv hm hkk l0 l2 l5 l6 l7
    have hx := ix_g (s := e) (k := k) he (by omega)
    refine t_0 qsp_96 rfl (ld_i l5) ?_
    refine t_0 qsp_98 rfl (ld_i l6) ?_
    refine t_3 qsp_100 rfl (ar := ([oI ((e : Int)), oI ((k : Int))], [])) (pcal_s ⟨Or.inl rfl, rfl, Nat.le_of_ble_eq_true rfl⟩) ⟨by omega, Nat.le_of_ble_eq_true rfl, Nat.le_of_ble_eq_true rfl, rfl⟩ ?_
    refine has_run (fun t1 => ?_) (fun t1 => ?_)
    · show t_X d 254 103 lv [oI (1)] g P
      refine tz_ne qsp_103 (by decide) ⟨by omega, by omega⟩ (fun c2 => ?_) (fun c2 => absurd c2 (by omega))
      show t_X d 254 138 lv [] g P
      refine t_0 qsp_138 rfl (ld_i l6) ?_
      refine t_0 qsp_140 rfl rfl ?_
      refine t_0 qsp_141 rfl pq_add ?_
      refine t_2 qsp_142 rfl (w := (px_s1 lv 6 (oI ((k : Int) + 1)), [])) rfl ?_
      replace l0 : px_lg (px_s1 lv 6 (oI ((k : Int) + 1))) 0 = some (pvR 196) := s1_ne (by decide) (fun _ => rfl) l0
      replace l2 : px_lg (px_s1 lv 6 (oI ((k : Int) + 1))) 2 = some (oI (w)) := s1_ne (by decide) (fun _ => rfl) l2
      replace l5 : px_lg (px_s1 lv 6 (oI ((k : Int) + 1))) 5 = some (oI ((e : Int))) := s1_ne (by decide) (fun _ => rfl) l5
      replace l7 : px_lg (px_s1 lv 6 (oI ((k : Int) + 1))) 7 = some (oI ((q : Int))) := s1_ne (by decide) (fun _ => rfl) l7
      have l6 : px_lg (px_s1 lv 6 (oI ((k : Int) + 1))) 6 = some (oI ((k : Int) + 1)) := s1_eq
      generalize px_s1 lv 6 (oI ((k : Int) + 1)) = lv3 at l0 l2 l5 l7 l6 ⊢
      show t_X d 254 144 lv3 [] g P
      refine t_1 qsp_144 rfl (pb_goto (pc := 144) (by decide)) ?_
      show t_X d 254 96 lv3 [] g P
      have hne : k ≠ ks := fun z => by
        subst z
        exact hk.2.1.1 t1
      exact ih (k + 1) _ (by omega) (by omega) l0 l2 l5 l6 l7
    · show t_X d 254 103 lv [oI (0)] g P
      refine tz_ne qsp_103 (by decide) ⟨by omega, by omega⟩ (fun c4 => absurd c4 (by omega)) (fun c4 => ?_)
      show t_X d 254 106 lv [] g P
      refine t_0 qsp_106 rfl (ld_a l0) ?_
      refine t_0 qsp_107 rfl (ar_69 hJ.1) ?_
      refine t_0 qsp_110 rfl (ld_i l6) ?_
      refine t_0 qsp_112 rfl (pq_ia el_239 rfl ⟨by omega, by omega⟩) ?_
      show t_X d 254 113 lv [oI (fA g 239 k)] g P
      have r5 := fA_b g 239 k
      refine t_0 qsp_113 rfl (ld_i l5) ?_
      refine t_0 qsp_115 rfl rfl ?_
      refine t_0 qsp_116 rfl rfl ?_
      refine t_0 qsp_117 rfl rfl ?_
      refine tx_ne qsp_118 (by decide) (fun c6 => ?_) (fun c6 => ?_)
      · show t_X d 254 138 lv [] g P
        refine t_0 qsp_138 rfl (ld_i l6) ?_
        refine t_0 qsp_140 rfl rfl ?_
        refine t_0 qsp_141 rfl pq_add ?_
        refine t_2 qsp_142 rfl (w := (px_s1 lv 6 (oI ((k : Int) + 1)), [])) rfl ?_
        replace l0 : px_lg (px_s1 lv 6 (oI ((k : Int) + 1))) 0 = some (pvR 196) := s1_ne (by decide) (fun _ => rfl) l0
        replace l2 : px_lg (px_s1 lv 6 (oI ((k : Int) + 1))) 2 = some (oI (w)) := s1_ne (by decide) (fun _ => rfl) l2
        replace l5 : px_lg (px_s1 lv 6 (oI ((k : Int) + 1))) 5 = some (oI ((e : Int))) := s1_ne (by decide) (fun _ => rfl) l5
        replace l7 : px_lg (px_s1 lv 6 (oI ((k : Int) + 1))) 7 = some (oI ((q : Int))) := s1_ne (by decide) (fun _ => rfl) l7
        have l6 : px_lg (px_s1 lv 6 (oI ((k : Int) + 1))) 6 = some (oI ((k : Int) + 1)) := s1_eq
        generalize px_s1 lv 6 (oI ((k : Int) + 1)) = lv7 at l0 l2 l5 l7 l6 ⊢
        show t_X d 254 144 lv7 [] g P
        refine t_1 qsp_144 rfl (pb_goto (pc := 144) (by decide)) ?_
        show t_X d 254 96 lv7 [] g P
        have hne : k ≠ ks := fun z => by
          subst z
          exact c6 hk.2.1.2
        exact ih (k + 1) _ (by omega) (by omega) l0 l2 l5 l6 l7
      · show t_X d 254 121 lv [] g P
        refine t_0 qsp_121 rfl (ld_a l0) ?_
        refine t_0 qsp_122 rfl (ar_70 hJ.1) ?_
        refine t_0 qsp_125 rfl (ld_i l5) ?_
        refine t_0 qsp_127 rfl rfl ?_
        refine t_0 qsp_128 rfl (ld_i l6) ?_
        refine t_0 qsp_130 rfl rfl ?_
        refine t_0 qsp_131 rfl rfl ?_
        refine t_0 qsp_132 rfl (pq_la el_240 ⟨hx.1, hx.2.1⟩) ?_
        refine t_0 qsp_133 rfl rfl ?_
        refine t_0 qsp_134 rfl rfl ?_
        refine tx_ne qsp_135 (by decide) (fun c8 => ?_) (fun c8 => ?_)
        · show t_X d 254 147 lv [] g P
          exact hC k _ (by omega) ⟨t1, c6⟩ (fun z => c8 (lg_0.mpr z)) l0 l2 l5 l6 l7
        · show t_X d 254 138 lv [] g P
          refine t_0 qsp_138 rfl (ld_i l6) ?_
          refine t_0 qsp_140 rfl rfl ?_
          refine t_0 qsp_141 rfl pq_add ?_
          refine t_2 qsp_142 rfl (w := (px_s1 lv 6 (oI ((k : Int) + 1)), [])) rfl ?_
          replace l0 : px_lg (px_s1 lv 6 (oI ((k : Int) + 1))) 0 = some (pvR 196) := s1_ne (by decide) (fun _ => rfl) l0
          replace l2 : px_lg (px_s1 lv 6 (oI ((k : Int) + 1))) 2 = some (oI (w)) := s1_ne (by decide) (fun _ => rfl) l2
          replace l5 : px_lg (px_s1 lv 6 (oI ((k : Int) + 1))) 5 = some (oI ((e : Int))) := s1_ne (by decide) (fun _ => rfl) l5
          replace l7 : px_lg (px_s1 lv 6 (oI ((k : Int) + 1))) 7 = some (oI ((q : Int))) := s1_ne (by decide) (fun _ => rfl) l7
          have l6 : px_lg (px_s1 lv 6 (oI ((k : Int) + 1))) 6 = some (oI ((k : Int) + 1)) := s1_eq
          generalize px_s1 lv 6 (oI ((k : Int) + 1)) = lv9 at l0 l2 l5 l7 l6 ⊢
          show t_X d 254 144 lv9 [] g P
          refine t_1 qsp_144 rfl (pb_goto (pc := 144) (by decide)) ?_
          show t_X d 254 96 lv9 [] g P
          have hne : k ≠ ks := fun z => by
            subst z
            exact hk.2.2 (lg_0.mp c8)
          exact ih (k + 1) _ (by omega) (by omega) l0 l2 l5 l6 l7
theorem sp_n {d sM : Nat} (hs2 : sM ≤ 12) {g : pH} {e q k : Nat} {w : Int} (he : e < 4096) (hk : k < sM) {P : Option pv × pH → Prop} {lv : List (Nat × pv)} (l0 : px_lg lv 0 = some (pvR 196)) (l2 : px_lg lv 2 = some (oI w)) (l5 : px_lg lv 5 = some (oI (e : Int))) (l6 : px_lg lv 6 = some (oI (k : Int))) (l7 : px_lg lv 7 = some (oI (q : Int))) (hC : ∀ lv : List (Nat × pv), px_lg lv 0 = some (pvR 196) → px_lg lv 2 = some (oI w) → px_lg lv 5 = some (oI ((e ||| 2 ^ k : Nat) : Int)) → px_lg lv 6 = some (oI (k : Int)) → px_lg lv 7 = some (oI ((q + 1 : Nat) : Int)) → t_X d 254 87 lv [] g P) : t_X d 254 147 lv [] g P := by
  refine t_0 qsp_147 rfl (ld_i l5) ?_
  refine t_0 qsp_149 rfl rfl ?_
  refine t_0 qsp_150 rfl (ld_i l6) ?_
  refine t_0 qsp_152 rfl rfl ?_
  refine t_0 qsp_153 rfl rfl ?_
  show t_X d 254 154 lv [.inl ((Int32.ofInt ((e : Int))) ||| ((Int32.ofInt (1)) <<< ((Int32.ofInt ((k : Int))) &&& 31)))] g P
  rw [show (Int32.ofInt ((e : Int))) ||| ((Int32.ofInt (1)) <<< ((Int32.ofInt ((k : Int))) &&& 31)) = Int32.ofInt ((e ||| 2 ^ k : Nat) : Int) from ix_o (by omega) (by omega)]
  show t_X d 254 154 lv [oI (((e ||| 2 ^ k : Nat) : Int))] g P
  refine t_2 qsp_154 rfl (w := (px_s1 lv 5 (oI (((e ||| 2 ^ k : Nat) : Int))), [])) rfl ?_
  replace l0 : px_lg (px_s1 lv 5 (oI (((e ||| 2 ^ k : Nat) : Int)))) 0 = some (pvR 196) := s1_ne (by decide) (fun _ => rfl) l0
  replace l2 : px_lg (px_s1 lv 5 (oI (((e ||| 2 ^ k : Nat) : Int)))) 2 = some (oI (w)) := s1_ne (by decide) (fun _ => rfl) l2
  replace l6 : px_lg (px_s1 lv 5 (oI (((e ||| 2 ^ k : Nat) : Int)))) 6 = some (oI ((k : Int))) := s1_ne (by decide) (fun _ => rfl) l6
  replace l7 : px_lg (px_s1 lv 5 (oI (((e ||| 2 ^ k : Nat) : Int)))) 7 = some (oI ((q : Int))) := s1_ne (by decide) (fun _ => rfl) l7
  have l5 : px_lg (px_s1 lv 5 (oI (((e ||| 2 ^ k : Nat) : Int)))) 5 = some (oI (((e ||| 2 ^ k : Nat) : Int))) := s1_eq
  generalize px_s1 lv 5 (oI (((e ||| 2 ^ k : Nat) : Int))) = lv1 at l0 l2 l6 l7 l5 ⊢
  show t_X d 254 156 lv1 [] g P
  refine t_2 qsp_156 rfl (w := (px_s1 lv1 7 (oI ((q : Int) + 1)), [])) (pq_inc l7 (by decide)) ?_
  replace l0 : px_lg (px_s1 lv1 7 (oI ((q : Int) + 1))) 0 = some (pvR 196) := s1_ne (by decide) (fun _ => rfl) l0
  replace l2 : px_lg (px_s1 lv1 7 (oI ((q : Int) + 1))) 2 = some (oI (w)) := s1_ne (by decide) (fun _ => rfl) l2
  replace l6 : px_lg (px_s1 lv1 7 (oI ((q : Int) + 1))) 6 = some (oI ((k : Int))) := s1_ne (by decide) (fun _ => rfl) l6
  replace l5 : px_lg (px_s1 lv1 7 (oI ((q : Int) + 1))) 5 = some (oI (((e ||| 2 ^ k : Nat) : Int))) := s1_ne (by decide) (fun _ => rfl) l5
  have l7 : px_lg (px_s1 lv1 7 (oI ((q : Int) + 1))) 7 = some (oI ((q : Int) + 1)) := s1_eq
  generalize px_s1 lv1 7 (oI ((q : Int) + 1)) = lv2 at l0 l2 l6 l5 l7 ⊢
  show t_X d 254 159 lv2 [] g P
  refine t_1 qsp_159 rfl (pb_goto (pc := 159) (by decide)) ?_
  show t_X d 254 87 lv2 [] g P
  exact hC _ l0 l2 l5 l6 l7
set_option maxHeartbeats 4000000 in
theorem sp_q {d sM : Nat} (hd : 1 ≤ d) (hs2 : sM ≤ 12) {g : pH} (hJ : J_ 0 g g) {w : Int} (hw : -1 ≤ w ∧ w < sM) (hZ : Zp sM g (-1)) {P : Option pv × pH → Prop} (hP : ∀ z : Int64, P (some (.inr (.inl z)), g)) : ∀ (m q e k : Nat) (lv : List (Nat × pv)), w + 1 - q ≤ m → (q : Int) ≤ w + 1 → cntB e ≤ q → e < 2 ^ sM ∧ k < 12 → Lw g e ≠ 0 → px_lg lv 0 = some (pvR 196) → px_lg lv 2 = some (oI w) → px_lg lv 5 = some (oI (e : Int)) → px_lg lv 6 = some (oI (k : Int)) → px_lg lv 7 = some (oI (q : Int)) → t_X d 254 87 lv [] g P := by
  have hp := pw_12 hs2
  intro m
  induction m with
  | zero =>
    intro q e k lv hm hq hc he hL l0 l2 l5 l6 l7
    refine t_0 qsp_87 rfl (ld_i l7) ?_
    refine t_0 qsp_89 rfl (ld_i l2) ?_
    refine tb_gt qsp_90 (by decide) ⟨by omega, by omega⟩ ⟨by omega, by omega⟩ (fun c1 => ?_) (fun c1 => absurd c1 (by omega))
    show t_X d 254 162 lv [] g P
    refine t_0 qsp_162 rfl (ld_a l0) ?_
    refine t_0 qsp_163 rfl (ar_68 hJ.1) ?_
    refine t_0 qsp_166 rfl (ld_i l6) ?_
    refine t_0 qsp_168 rfl (pq_ia el_238 rfl ⟨by omega, by omega⟩) ?_
    show t_X d 254 169 lv [oI (fA g 238 k)] g P
    have r2 := gb_a hJ.1 el_238 (j := k) (by omega) ga_238
    refine t_0 qsp_169 rfl rfl ?_
    refine t_5 qsp_170 rfl rfl ?_
    exact hP _
  | succ m ih =>
    intro q e k lv hm hq hc he hL l0 l2 l5 l6 l7
    by_cases hgt : w < q
    · refine t_0 qsp_87 rfl (ld_i l7) ?_
      refine t_0 qsp_89 rfl (ld_i l2) ?_
      refine tb_gt qsp_90 (by decide) ⟨by omega, by omega⟩ ⟨by omega, by omega⟩ (fun c1 => ?_) (fun c1 => absurd c1 (by omega))
      show t_X d 254 162 lv [] g P
      refine t_0 qsp_162 rfl (ld_a l0) ?_
      refine t_0 qsp_163 rfl (ar_68 hJ.1) ?_
      refine t_0 qsp_166 rfl (ld_i l6) ?_
      refine t_0 qsp_168 rfl (pq_ia el_238 rfl ⟨by omega, by omega⟩) ?_
      show t_X d 254 169 lv [oI (fA g 238 k)] g P
      have r2 := gb_a hJ.1 el_238 (j := k) (by omega) ga_238
      refine t_0 qsp_169 rfl rfl ?_
      refine t_5 qsp_170 rfl rfl ?_
      exact hP _
    have hA : e ≠ 2 ^ sM - 1 := fun z => by
      have := cntA hs2
      rw [← z] at this
      omega
    have hk1 : e < 4096 := by omega
    refine t_0 qsp_87 rfl (ld_i l7) ?_
    refine t_0 qsp_89 rfl (ld_i l2) ?_
    refine tb_gt qsp_90 (by decide) ⟨by omega, by omega⟩ ⟨by omega, by omega⟩ (fun c1 => absurd c1 (by omega)) (fun c1 => ?_)
    show t_X d 254 93 lv [] g P
    refine t_0 qsp_93 rfl rfl ?_
    refine t_2 qsp_94 rfl (w := (px_s1 lv 6 (oI (0)), [])) rfl ?_
    replace l0 : px_lg (px_s1 lv 6 (oI (0))) 0 = some (pvR 196) := s1_ne (by decide) (fun _ => rfl) l0
    replace l2 : px_lg (px_s1 lv 6 (oI (0))) 2 = some (oI (w)) := s1_ne (by decide) (fun _ => rfl) l2
    replace l5 : px_lg (px_s1 lv 6 (oI (0))) 5 = some (oI ((e : Int))) := s1_ne (by decide) (fun _ => rfl) l5
    replace l7 : px_lg (px_s1 lv 6 (oI (0))) 7 = some (oI ((q : Int))) := s1_ne (by decide) (fun _ => rfl) l7
    have l6 : px_lg (px_s1 lv 6 (oI (0))) 6 = some (oI (0)) := s1_eq
    generalize px_s1 lv 6 (oI (0)) = lv2 at l0 l2 l5 l7 l6 ⊢
    show t_X d 254 96 lv2 [] g P
    obtain ⟨ks, hks⟩ := hZ e (by omega) (by omega) hL
    refine sp_k hd hs2 hJ (by omega) hks (fun k9 lv9 h1 h2 h3 u0 u2 u5 u6 u7 => ?_) ks 0 _ (by omega) (by omega) l0 l2 l5 l6 l7
    exact sp_n hs2 hk1 h1 u0 u2 u5 u6 u7 (fun lv8 v0 v2 v5 v6 v7 => ih (q + 1) (e ||| 2 ^ k9) k9 _ (by omega) (by omega) (by have := cntO (e := e) (k := k9) (by omega); omega) ⟨Nat.or_lt_two_pow he.1 (Nat.pow_lt_pow_right (by decide) h1), by omega⟩ (by rw [ix_t (by omega) (by omega)] at h3; exact h3) v0 v2 v5 v6 v7)
set_option maxHeartbeats 8000000 in
theorem sp_run {d : Nat} (hd : 8 ≤ d) {g : pH} (hG : g_I eG g) {n w : Int} (hn : -2147483648 ≤ n ∧ n ≤ 2147483647) (hw : -2147483648 ≤ w ∧ w ≤ 2147483647) {P : Option pv × pH → Prop} (hP : ∀ (g1 : pH) (z : Int64), J_ Ws g g1 → P (some (.inr (.inl z)), g1)) {lv : List (Nat × pv)} (l0 : px_lg lv 0 = some (pvR 196)) (l1 : px_lg lv 1 = some (oI n)) (l2 : px_lg lv 2 = some (oI w)) : t_X d 254 0 lv [] g P := by
  have w_17 := Ws_1.1
  have hJ0 : J_ Ws g g := J_rf hG
  refine t_0 qsp_0 rfl (ld_i l1) ?_
  refine t_0 qsp_1 rfl rfl ?_
  refine t_0 qsp_2 rfl (pq_b (by decide)) ?_
  refine t_3 qsp_4 rfl (ar := ([oI (n), oI (2), oI (12)], [])) (pcal_s ⟨Or.inl rfl, rfl, Nat.le_of_ble_eq_true rfl⟩) ⟨by omega, Nat.le_of_ble_eq_true rfl, Nat.le_of_ble_eq_true rfl, rfl⟩ ?_
  refine in_run ⟨by omega, by omega⟩ ⟨by omega, by omega⟩ ⟨by omega, by omega⟩ rfl rfl rfl (fun t1 => ?_) (fun t1 => ?_)
  · show t_X d 254 7 lv [oI (1)] g P
    refine tz_eq qsp_7 (by decide) ⟨by omega, by omega⟩ (fun c2 => absurd c2 (by omega)) (fun c2 => ?_)
    show t_X d 254 10 lv [] g P
    refine t_0 qsp_10 rfl (ld_i l1) ?_
    refine t_0 qsp_11 rfl (ld_a l0) ?_
    have r3 := gb_f hJ0.1 (y := 17) rfl rfl gf_17
    refine t_0 qsp_12 rfl (pq_gf (y := 17) rfl) ?_
    refine tb_le qsp_15 (by decide) ⟨by omega, by omega⟩ ⟨by omega, by omega⟩ (fun c4 => ?_) (fun c4 => ?_)
    · show t_X d 254 22 lv [] g P
      refine t_0 qsp_22 rfl (ld_a l0) ?_
      refine t_0 qsp_23 rfl rfl ?_
      refine tw_f qsp_24 rfl hJ0 w_17 gf_17 (by decide) ⟨by omega, by omega⟩ (fun g5 hJ5 v5 f5 a5 => ?_)
      replace a5 := fA_2 a5
      show t_X d 254 27 lv [] g5 P
      refine t_0 qsp_27 rfl (ld_a l0) ?_
      refine t_0 qsp_28 rfl (ld_i l1) ?_
      refine t_3 qsp_29 rfl (ar := ([pvR 196, oI (n)], [])) (pcal_v1 rfl rfl el_196) ⟨by omega, Nat.le_of_ble_eq_true rfl, Nat.le_of_ble_eq_true rfl, rfl⟩ ?_
      refine ts_run (by omega) hJ5.1 (by rw [oT (by omega) (by omega)]; omega) rfl rfl (fun g6 hA6 => ?_) (fun g6 hA6 e6 => ?_)
      · have hJ6 := J_up Ws_1.2.2.1 hJ5 hA6
        show t_X d 254 32 lv [oI (0)] g6 P
        refine tz_ne qsp_32 (by decide) ⟨by omega, by omega⟩ (fun c7 => absurd c7 (by omega)) (fun c7 => ?_)
        show t_X d 254 35 lv [] g6 P
        refine t_0 qsp_35 rfl rfl ?_
        refine t_5 qsp_38 rfl rfl ?_
        exact hP _ _ hJ6
      · have hJ6 := J_up Ws_1.2.2.1 hJ5 hA6
        have h71 : fF g6 71 = (n.toNat : Int) := by
          show (g6.1 196 71).toInt = _
          rw [e6, oT (by omega) (by omega)]
          omega
        show t_X d 254 32 lv [oI (1)] g6 P
        refine tz_ne qsp_32 (by decide) ⟨by omega, by omega⟩ (fun c8 => ?_) (fun c8 => absurd c8 (by omega))
        show t_X d 254 39 lv [] g6 P
        refine t_0 qsp_39 rfl (ld_i l2) ?_
        have hs2 : n.toNat ≤ 12 := by omega
        refine t_0 qsp_40 rfl rfl ?_
        refine t_0 qsp_41 rfl (ld_i l1) ?_
        refine t_0 qsp_42 rfl rfl ?_
        refine t_0 qsp_43 rfl pq_sub ?_
        refine t_3 qsp_44 rfl (ar := ([oI (w), oI ((-1)), oI (n - 1)], [])) (pcal_s ⟨Or.inl rfl, rfl, Nat.le_of_ble_eq_true rfl⟩) ⟨by omega, Nat.le_of_ble_eq_true rfl, Nat.le_of_ble_eq_true rfl, rfl⟩ ?_
        refine in_run ⟨by omega, by omega⟩ ⟨by omega, by omega⟩ ⟨by omega, by omega⟩ rfl rfl rfl (fun t9 => ?_) (fun t9 => ?_)
        · show t_X d 254 47 lv [oI (1)] g6 P
          refine tz_ne qsp_47 (by decide) ⟨by omega, by omega⟩ (fun c10 => ?_) (fun c10 => absurd c10 (by omega))
          show t_X d 254 54 lv [] g6 P
          refine t_0 qsp_54 rfl (ld_a l0) ?_
          refine t_0 qsp_55 rfl rfl ?_
          refine t_0 qsp_56 rfl rfl ?_
          refine t_3 qsp_57 rfl (ar := ([pvR 196, oI ((-1)), oI ((-1))], [])) (pcal_v2 rfl rfl el_196) ⟨by omega, Nat.le_of_ble_eq_true rfl, Nat.le_of_ble_eq_true rfl, rfl⟩ ?_
          refine lo_run (by omega) hs2 h71 (Or.inl rfl) (fun g11 hA11 hZ11 => ?_) hJ6.1 rfl rfl rfl
          have hJ11 := J_up Ws_1.2.2.2 hJ6 hA11
          show t_X d 254 60 lv [.inr (.inl (Lw g11 0))] g11 P
          refine t_2 qsp_60 rfl (w := (px_s2 lv 3 (.inr (.inl (Lw g11 0))), [])) rfl ?_
          replace l0 : px_lg (px_s2 lv 3 (.inr (.inl (Lw g11 0)))) 0 = some (pvR 196) := s2_ne (by decide) (fun _ => rfl) l0
          replace l1 : px_lg (px_s2 lv 3 (.inr (.inl (Lw g11 0)))) 1 = some (oI (n)) := s2_ne (by decide) (fun _ => rfl) l1
          replace l2 : px_lg (px_s2 lv 3 (.inr (.inl (Lw g11 0)))) 2 = some (oI (w)) := s2_ne (by decide) (fun _ => rfl) l2
          have l3 : px_lg (px_s2 lv 3 (.inr (.inl (Lw g11 0)))) 3 = some (.inr (.inl (Lw g11 0))) := s2_eq
          generalize px_s2 lv 3 (.inr (.inl (Lw g11 0))) = lv12 at l0 l1 l2 l3 ⊢
          show t_X d 254 61 lv12 [] g11 P
          refine t_0 qsp_61 rfl (ld_i l2) ?_
          refine t_0 qsp_62 rfl rfl ?_
          refine tb_ne qsp_63 (by decide) ⟨by omega, by omega⟩ ⟨by omega, by omega⟩ (fun c13 => ?_) (fun c13 => ?_)
          · show t_X d 254 68 lv12 [] g11 P
            refine t_0 qsp_68 rfl (ld_l l3) ?_
            refine t_0 qsp_69 rfl rfl ?_
            refine t_0 qsp_70 rfl rfl ?_
            refine tx_ne qsp_71 (by decide) (fun c14 => ?_) (fun c14 => ?_)
            · show t_X d 254 78 lv12 [] g11 P
              refine t_0 qsp_78 rfl rfl ?_
              refine t_2 qsp_79 rfl (w := (px_s1 lv12 5 (oI (0)), [])) rfl ?_
              replace l0 : px_lg (px_s1 lv12 5 (oI (0))) 0 = some (pvR 196) := s1_ne (by decide) (fun _ => rfl) l0
              replace l1 : px_lg (px_s1 lv12 5 (oI (0))) 1 = some (oI (n)) := s1_ne (by decide) (fun _ => rfl) l1
              replace l2 : px_lg (px_s1 lv12 5 (oI (0))) 2 = some (oI (w)) := s1_ne (by decide) (fun _ => rfl) l2
              replace l3 : px_lg (px_s1 lv12 5 (oI (0))) 3 = some (.inr (.inl (Lw g11 0))) := s1_ne (by decide) (fun z => absurd z (by decide)) l3
              have l5 : px_lg (px_s1 lv12 5 (oI (0))) 5 = some (oI (0)) := s1_eq
              generalize px_s1 lv12 5 (oI (0)) = lv15 at l0 l1 l2 l3 l5 ⊢
              show t_X d 254 81 lv15 [] g11 P
              refine t_0 qsp_81 rfl rfl ?_
              refine t_2 qsp_82 rfl (w := (px_s1 lv15 6 (oI (0)), [])) rfl ?_
              replace l0 : px_lg (px_s1 lv15 6 (oI (0))) 0 = some (pvR 196) := s1_ne (by decide) (fun _ => rfl) l0
              replace l1 : px_lg (px_s1 lv15 6 (oI (0))) 1 = some (oI (n)) := s1_ne (by decide) (fun _ => rfl) l1
              replace l2 : px_lg (px_s1 lv15 6 (oI (0))) 2 = some (oI (w)) := s1_ne (by decide) (fun _ => rfl) l2
              replace l3 : px_lg (px_s1 lv15 6 (oI (0))) 3 = some (.inr (.inl (Lw g11 0))) := s1_ne (by decide) (fun z => absurd z (by decide)) l3
              replace l5 : px_lg (px_s1 lv15 6 (oI (0))) 5 = some (oI (0)) := s1_ne (by decide) (fun _ => rfl) l5
              have l6 : px_lg (px_s1 lv15 6 (oI (0))) 6 = some (oI (0)) := s1_eq
              generalize px_s1 lv15 6 (oI (0)) = lv16 at l0 l1 l2 l3 l5 l6 ⊢
              show t_X d 254 84 lv16 [] g11 P
              refine t_0 qsp_84 rfl rfl ?_
              refine t_2 qsp_85 rfl (w := (px_s1 lv16 7 (oI (0)), [])) rfl ?_
              replace l0 : px_lg (px_s1 lv16 7 (oI (0))) 0 = some (pvR 196) := s1_ne (by decide) (fun _ => rfl) l0
              replace l1 : px_lg (px_s1 lv16 7 (oI (0))) 1 = some (oI (n)) := s1_ne (by decide) (fun _ => rfl) l1
              replace l2 : px_lg (px_s1 lv16 7 (oI (0))) 2 = some (oI (w)) := s1_ne (by decide) (fun _ => rfl) l2
              replace l3 : px_lg (px_s1 lv16 7 (oI (0))) 3 = some (.inr (.inl (Lw g11 0))) := s1_ne (by decide) (fun z => absurd z (by decide)) l3
              replace l5 : px_lg (px_s1 lv16 7 (oI (0))) 5 = some (oI (0)) := s1_ne (by decide) (fun _ => rfl) l5
              replace l6 : px_lg (px_s1 lv16 7 (oI (0))) 6 = some (oI (0)) := s1_ne (by decide) (fun _ => rfl) l6
              have l7 : px_lg (px_s1 lv16 7 (oI (0))) 7 = some (oI (0)) := s1_eq
              generalize px_s1 lv16 7 (oI (0)) = lv17 at l0 l1 l2 l3 l5 l6 l7 ⊢
              show t_X d 254 87 lv17 [] g11 P
              exact sp_q (by omega) hs2 (J_rf hJ11.1) (w := w) (by omega) hZ11 (fun z => hP _ z hJ11) (w + 1).toNat 0 0 0 _ (by omega) (by omega) (by decide) ⟨Nat.two_pow_pos _, by decide⟩ (fun z => c14 (lg_0.mpr z)) l0 l2 l5 l6 l7
            · show t_X d 254 74 lv12 [] g11 P
              refine t_0 qsp_74 rfl rfl ?_
              refine t_5 qsp_77 rfl rfl ?_
              exact hP _ _ hJ11
          · show t_X d 254 66 lv12 [] g11 P
            refine t_0 qsp_66 rfl (ld_l l3) ?_
            refine t_5 qsp_67 rfl rfl ?_
            exact hP _ _ hJ11
        · show t_X d 254 47 lv [oI (0)] g6 P
          refine tz_ne qsp_47 (by decide) ⟨by omega, by omega⟩ (fun c18 => absurd c18 (by omega)) (fun c18 => ?_)
          show t_X d 254 50 lv [] g6 P
          refine t_0 qsp_50 rfl rfl ?_
          refine t_5 qsp_53 rfl rfl ?_
          exact hP _ _ hJ6
    · show t_X d 254 18 lv [] g P
      refine t_0 qsp_18 rfl rfl ?_
      refine t_5 qsp_21 rfl rfl ?_
      exact hP _ _ hJ0
  · show t_X d 254 7 lv [oI (0)] g P
    refine tz_eq qsp_7 (by decide) ⟨by omega, by omega⟩ (fun c19 => ?_) (fun c19 => absurd c19 (by omega))
    show t_X d 254 18 lv [] g P
    refine t_0 qsp_18 rfl rfl ?_
    refine t_5 qsp_21 rfl rfl ?_
    exact hP _ _ hJ0
set_option maxHeartbeats 8000000 in
theorem sy_b {d : Nat} (hd : 4 ≤ d) {h0 : pH} {n w : Int} (hn : 2 ≤ n ∧ n ≤ 12) {all : Int64} {a : Nat} (ha : (a : Int) < n) {P : Option pv × pH → Prop} (hC : ∀ (g : pH) (most : Int64) (f s : Int) (lv : List (Nat × pv)), (f = -1 ∧ s = -1) ∨ (0 ≤ f ∧ f < 12 ∧ 0 ≤ s ∧ s < 12) → J_ Ws h0 g → fF g 71 = (n.toNat : Int) → px_lg lv 0 = some (pvR 196) → px_lg lv 1 = some (oI n) → px_lg lv 4 = some (oI w) → px_lg lv 5 = some (.inr (.inl all)) → px_lg lv 7 = some (.inr (.inl most)) → px_lg lv 9 = some (oI f) → px_lg lv 10 = some (oI s) → px_lg lv 11 = some (oI (a : Int)) → t_X d 243 198 lv [] g P) : ∀ (m b : Nat) (g : pH) (most : Int64) (f s : Int) (lv : List (Nat × pv)), n - b ≤ m → (b : Int) ≤ 12 → (f = -1 ∧ s = -1) ∨ (0 ≤ f ∧ f < 12 ∧ 0 ≤ s ∧ s < 12) → J_ Ws h0 g → fF g 71 = (n.toNat : Int) → px_lg lv 0 = some (pvR 196) → px_lg lv 1 = some (oI n) → px_lg lv 4 = some (oI w) → px_lg lv 5 = some (.inr (.inl all)) → px_lg lv 7 = some (.inr (.inl most)) → px_lg lv 9 = some (oI f) → px_lg lv 10 = some (oI s) → px_lg lv 11 = some (oI (a : Int)) → px_lg lv 12 = some (oI (b : Int)) → t_X d 243 130 lv [] g P := by
  have hs2 : n.toNat ≤ 12 := by omega
  intro m
  induction m with
  | zero =>
    intro b g most f s lv hm hb hf hJ h71 l0 l1 l4 l5 l7 l9 l10 l11 l12
    refine t_0 qsy_130 rfl (ld_i l12) ?_
    refine t_0 qsy_132 rfl (ld_i l1) ?_
    refine tb_ge qsy_133 (by decide) ⟨by omega, by omega⟩ ⟨by omega, by omega⟩ (fun c1 => ?_) (fun c1 => absurd c1 (by omega))
    show t_X d 243 198 lv [] g P
    exact hC _ _ _ _ _ hf hJ h71 l0 l1 l4 l5 l7 l9 l10 l11
  | succ m ih =>
    intro b g most f s lv hm hb hf hJ h71 l0 l1 l4 l5 l7 l9 l10 l11 l12
    refine t_0 qsy_130 rfl (ld_i l12) ?_
    refine t_0 qsy_132 rfl (ld_i l1) ?_
    refine tb_ge qsy_133 (by decide) ⟨by omega, by omega⟩ ⟨by omega, by omega⟩ (fun c1 => ?_) (fun c1 => ?_)
    · show t_X d 243 198 lv [] g P
      exact hC _ _ _ _ _ hf hJ h71 l0 l1 l4 l5 l7 l9 l10 l11
    · show t_X d 243 136 lv [] g P
      refine t_0 qsy_136 rfl (ld_a l0) ?_
      refine t_0 qsy_137 rfl (ld_i l11) ?_
      refine t_0 qsy_139 rfl (ld_i l12) ?_
      refine t_3 qsy_141 rfl (ar := ([pvR 196, oI ((a : Int)), oI ((b : Int))], [])) (pcal_v2 rfl rfl el_196) ⟨by omega, Nat.le_of_ble_eq_true rfl, Nat.le_of_ble_eq_true rfl, rfl⟩ ?_
      refine lo_run (by omega) hs2 h71 (Or.inr ⟨by omega, by omega, by omega, by omega⟩) (fun g2 hA2 hZ2 => ?_) hJ.1 rfl rfl rfl
      have hJ2 := J_up Ws_1.2.2.2 hJ hA2
      show t_X d 243 144 lv [.inr (.inl (Lw g2 0))] g2 P
      refine t_2 qsy_144 rfl (w := (px_s2 lv 13 (.inr (.inl (Lw g2 0))), [])) rfl ?_
      replace l0 : px_lg (px_s2 lv 13 (.inr (.inl (Lw g2 0)))) 0 = some (pvR 196) := s2_ne (by decide) (fun _ => rfl) l0
      replace l1 : px_lg (px_s2 lv 13 (.inr (.inl (Lw g2 0)))) 1 = some (oI (n)) := s2_ne (by decide) (fun _ => rfl) l1
      replace l4 : px_lg (px_s2 lv 13 (.inr (.inl (Lw g2 0)))) 4 = some (oI (w)) := s2_ne (by decide) (fun _ => rfl) l4
      replace l5 : px_lg (px_s2 lv 13 (.inr (.inl (Lw g2 0)))) 5 = some (.inr (.inl (all))) := s2_ne (by decide) (fun z => absurd z (by decide)) l5
      replace l7 : px_lg (px_s2 lv 13 (.inr (.inl (Lw g2 0)))) 7 = some (.inr (.inl (most))) := s2_ne (by decide) (fun z => absurd z (by decide)) l7
      replace l9 : px_lg (px_s2 lv 13 (.inr (.inl (Lw g2 0)))) 9 = some (oI (f)) := s2_ne (by decide) (fun _ => rfl) l9
      replace l10 : px_lg (px_s2 lv 13 (.inr (.inl (Lw g2 0)))) 10 = some (oI (s)) := s2_ne (by decide) (fun _ => rfl) l10
      replace l11 : px_lg (px_s2 lv 13 (.inr (.inl (Lw g2 0)))) 11 = some (oI ((a : Int))) := s2_ne (by decide) (fun _ => rfl) l11
      replace l12 : px_lg (px_s2 lv 13 (.inr (.inl (Lw g2 0)))) 12 = some (oI ((b : Int))) := s2_ne (by decide) (fun _ => rfl) l12
      have l13 : px_lg (px_s2 lv 13 (.inr (.inl (Lw g2 0)))) 13 = some (.inr (.inl (Lw g2 0))) := s2_eq
      generalize px_s2 lv 13 (.inr (.inl (Lw g2 0))) = lv3 at l0 l1 l4 l5 l7 l9 l10 l11 l12 l13 ⊢
      show t_X d 243 146 lv3 [] g2 P
      refine t_0 qsy_146 rfl (ld_l l13) ?_
      refine t_0 qsy_148 rfl (ld_l l5) ?_
      refine t_0 qsy_150 rfl (ld_l l13) ?_
      refine t_0 qsy_152 rfl rfl ?_
      refine t_0 qsy_153 rfl rfl ?_
      refine tx_ge qsy_154 (by decide) (fun c4 => ?_) (fun c4 => ?_)
      · show t_X d 243 162 lv3 [] g2 P
        refine t_0 qsy_162 rfl (ld_l l5) ?_
        refine t_0 qsy_164 rfl (ld_l l13) ?_
        refine t_0 qsy_166 rfl rfl ?_
        refine t_2 qsy_167 rfl (w := (px_s2 lv3 15 (.inr (.inl ((all) - (Lw g2 0)))), [])) rfl ?_
        replace l0 : px_lg (px_s2 lv3 15 (.inr (.inl ((all) - (Lw g2 0))))) 0 = some (pvR 196) := s2_ne (by decide) (fun _ => rfl) l0
        replace l1 : px_lg (px_s2 lv3 15 (.inr (.inl ((all) - (Lw g2 0))))) 1 = some (oI (n)) := s2_ne (by decide) (fun _ => rfl) l1
        replace l4 : px_lg (px_s2 lv3 15 (.inr (.inl ((all) - (Lw g2 0))))) 4 = some (oI (w)) := s2_ne (by decide) (fun _ => rfl) l4
        replace l5 : px_lg (px_s2 lv3 15 (.inr (.inl ((all) - (Lw g2 0))))) 5 = some (.inr (.inl (all))) := s2_ne (by decide) (fun z => absurd z (by decide)) l5
        replace l7 : px_lg (px_s2 lv3 15 (.inr (.inl ((all) - (Lw g2 0))))) 7 = some (.inr (.inl (most))) := s2_ne (by decide) (fun z => absurd z (by decide)) l7
        replace l9 : px_lg (px_s2 lv3 15 (.inr (.inl ((all) - (Lw g2 0))))) 9 = some (oI (f)) := s2_ne (by decide) (fun _ => rfl) l9
        replace l10 : px_lg (px_s2 lv3 15 (.inr (.inl ((all) - (Lw g2 0))))) 10 = some (oI (s)) := s2_ne (by decide) (fun _ => rfl) l10
        replace l11 : px_lg (px_s2 lv3 15 (.inr (.inl ((all) - (Lw g2 0))))) 11 = some (oI ((a : Int))) := s2_ne (by decide) (fun _ => rfl) l11
        replace l12 : px_lg (px_s2 lv3 15 (.inr (.inl ((all) - (Lw g2 0))))) 12 = some (oI ((b : Int))) := s2_ne (by decide) (fun _ => rfl) l12
        replace l13 : px_lg (px_s2 lv3 15 (.inr (.inl ((all) - (Lw g2 0))))) 13 = some (.inr (.inl (Lw g2 0))) := s2_ne (by decide) (fun z => absurd z (by decide)) l13
        have l15 : px_lg (px_s2 lv3 15 (.inr (.inl ((all) - (Lw g2 0))))) 15 = some (.inr (.inl ((all) - (Lw g2 0)))) := s2_eq
        generalize px_s2 lv3 15 (.inr (.inl ((all) - (Lw g2 0)))) = lv5 at l0 l1 l4 l5 l7 l9 l10 l11 l12 l13 l15 ⊢
        show t_X d 243 169 lv5 [] g2 P
        refine t_0 qsy_169 rfl (ld_l l15) ?_
        refine t_0 qsy_171 rfl (ld_l l7) ?_
        refine t_0 qsy_173 rfl rfl ?_
        refine tx_gt qsy_174 (by decide) (fun c6 => ?_) (fun c6 => ?_)
        · show t_X d 243 180 lv5 [] g2 P
          refine t_0 qsy_180 rfl (ld_l l15) ?_
          refine t_2 qsy_182 rfl (w := (px_s2 lv5 7 (.inr (.inl ((all) - (Lw g2 0)))), [])) rfl ?_
          replace l0 : px_lg (px_s2 lv5 7 (.inr (.inl ((all) - (Lw g2 0))))) 0 = some (pvR 196) := s2_ne (by decide) (fun _ => rfl) l0
          replace l1 : px_lg (px_s2 lv5 7 (.inr (.inl ((all) - (Lw g2 0))))) 1 = some (oI (n)) := s2_ne (by decide) (fun _ => rfl) l1
          replace l4 : px_lg (px_s2 lv5 7 (.inr (.inl ((all) - (Lw g2 0))))) 4 = some (oI (w)) := s2_ne (by decide) (fun _ => rfl) l4
          replace l5 : px_lg (px_s2 lv5 7 (.inr (.inl ((all) - (Lw g2 0))))) 5 = some (.inr (.inl (all))) := s2_ne (by decide) (fun z => absurd z (by decide)) l5
          replace l9 : px_lg (px_s2 lv5 7 (.inr (.inl ((all) - (Lw g2 0))))) 9 = some (oI (f)) := s2_ne (by decide) (fun _ => rfl) l9
          replace l10 : px_lg (px_s2 lv5 7 (.inr (.inl ((all) - (Lw g2 0))))) 10 = some (oI (s)) := s2_ne (by decide) (fun _ => rfl) l10
          replace l11 : px_lg (px_s2 lv5 7 (.inr (.inl ((all) - (Lw g2 0))))) 11 = some (oI ((a : Int))) := s2_ne (by decide) (fun _ => rfl) l11
          replace l12 : px_lg (px_s2 lv5 7 (.inr (.inl ((all) - (Lw g2 0))))) 12 = some (oI ((b : Int))) := s2_ne (by decide) (fun _ => rfl) l12
          replace l13 : px_lg (px_s2 lv5 7 (.inr (.inl ((all) - (Lw g2 0))))) 13 = some (.inr (.inl (Lw g2 0))) := s2_ne (by decide) (fun z => absurd z (by decide)) l13
          replace l15 : px_lg (px_s2 lv5 7 (.inr (.inl ((all) - (Lw g2 0))))) 15 = some (.inr (.inl ((all) - (Lw g2 0)))) := s2_ne (by decide) (fun z => absurd z (by decide)) l15
          have l7 : px_lg (px_s2 lv5 7 (.inr (.inl ((all) - (Lw g2 0))))) 7 = some (.inr (.inl ((all) - (Lw g2 0)))) := s2_eq
          generalize px_s2 lv5 7 (.inr (.inl ((all) - (Lw g2 0)))) = lv7 at l0 l1 l4 l5 l9 l10 l11 l12 l13 l15 l7 ⊢
          show t_X d 243 184 lv7 [] g2 P
          refine t_0 qsy_184 rfl (ld_i l11) ?_
          refine t_2 qsy_186 rfl (w := (px_s1 lv7 9 (oI ((a : Int))), [])) rfl ?_
          replace l0 : px_lg (px_s1 lv7 9 (oI ((a : Int)))) 0 = some (pvR 196) := s1_ne (by decide) (fun _ => rfl) l0
          replace l1 : px_lg (px_s1 lv7 9 (oI ((a : Int)))) 1 = some (oI (n)) := s1_ne (by decide) (fun _ => rfl) l1
          replace l4 : px_lg (px_s1 lv7 9 (oI ((a : Int)))) 4 = some (oI (w)) := s1_ne (by decide) (fun _ => rfl) l4
          replace l5 : px_lg (px_s1 lv7 9 (oI ((a : Int)))) 5 = some (.inr (.inl (all))) := s1_ne (by decide) (fun z => absurd z (by decide)) l5
          replace l10 : px_lg (px_s1 lv7 9 (oI ((a : Int)))) 10 = some (oI (s)) := s1_ne (by decide) (fun _ => rfl) l10
          replace l11 : px_lg (px_s1 lv7 9 (oI ((a : Int)))) 11 = some (oI ((a : Int))) := s1_ne (by decide) (fun _ => rfl) l11
          replace l12 : px_lg (px_s1 lv7 9 (oI ((a : Int)))) 12 = some (oI ((b : Int))) := s1_ne (by decide) (fun _ => rfl) l12
          replace l13 : px_lg (px_s1 lv7 9 (oI ((a : Int)))) 13 = some (.inr (.inl (Lw g2 0))) := s1_ne (by decide) (fun z => absurd z (by decide)) l13
          replace l15 : px_lg (px_s1 lv7 9 (oI ((a : Int)))) 15 = some (.inr (.inl ((all) - (Lw g2 0)))) := s1_ne (by decide) (fun z => absurd z (by decide)) l15
          replace l7 : px_lg (px_s1 lv7 9 (oI ((a : Int)))) 7 = some (.inr (.inl ((all) - (Lw g2 0)))) := s1_ne (by decide) (fun z => absurd z (by decide)) l7
          have l9 : px_lg (px_s1 lv7 9 (oI ((a : Int)))) 9 = some (oI ((a : Int))) := s1_eq
          generalize px_s1 lv7 9 (oI ((a : Int))) = lv8 at l0 l1 l4 l5 l10 l11 l12 l13 l15 l7 l9 ⊢
          show t_X d 243 188 lv8 [] g2 P
          refine t_0 qsy_188 rfl (ld_i l12) ?_
          refine t_2 qsy_190 rfl (w := (px_s1 lv8 10 (oI ((b : Int))), [])) rfl ?_
          replace l0 : px_lg (px_s1 lv8 10 (oI ((b : Int)))) 0 = some (pvR 196) := s1_ne (by decide) (fun _ => rfl) l0
          replace l1 : px_lg (px_s1 lv8 10 (oI ((b : Int)))) 1 = some (oI (n)) := s1_ne (by decide) (fun _ => rfl) l1
          replace l4 : px_lg (px_s1 lv8 10 (oI ((b : Int)))) 4 = some (oI (w)) := s1_ne (by decide) (fun _ => rfl) l4
          replace l5 : px_lg (px_s1 lv8 10 (oI ((b : Int)))) 5 = some (.inr (.inl (all))) := s1_ne (by decide) (fun z => absurd z (by decide)) l5
          replace l11 : px_lg (px_s1 lv8 10 (oI ((b : Int)))) 11 = some (oI ((a : Int))) := s1_ne (by decide) (fun _ => rfl) l11
          replace l12 : px_lg (px_s1 lv8 10 (oI ((b : Int)))) 12 = some (oI ((b : Int))) := s1_ne (by decide) (fun _ => rfl) l12
          replace l13 : px_lg (px_s1 lv8 10 (oI ((b : Int)))) 13 = some (.inr (.inl (Lw g2 0))) := s1_ne (by decide) (fun z => absurd z (by decide)) l13
          replace l15 : px_lg (px_s1 lv8 10 (oI ((b : Int)))) 15 = some (.inr (.inl ((all) - (Lw g2 0)))) := s1_ne (by decide) (fun z => absurd z (by decide)) l15
          replace l7 : px_lg (px_s1 lv8 10 (oI ((b : Int)))) 7 = some (.inr (.inl ((all) - (Lw g2 0)))) := s1_ne (by decide) (fun z => absurd z (by decide)) l7
          replace l9 : px_lg (px_s1 lv8 10 (oI ((b : Int)))) 9 = some (oI ((a : Int))) := s1_ne (by decide) (fun _ => rfl) l9
          have l10 : px_lg (px_s1 lv8 10 (oI ((b : Int)))) 10 = some (oI ((b : Int))) := s1_eq
          generalize px_s1 lv8 10 (oI ((b : Int))) = lv9 at l0 l1 l4 l5 l11 l12 l13 l15 l7 l9 l10 ⊢
          show t_X d 243 192 lv9 [] g2 P
          refine t_2 qsy_192 rfl (w := (px_s1 lv9 12 (oI ((b : Int) + 1)), [])) (pq_inc l12 (by decide)) ?_
          replace l0 : px_lg (px_s1 lv9 12 (oI ((b : Int) + 1))) 0 = some (pvR 196) := s1_ne (by decide) (fun _ => rfl) l0
          replace l1 : px_lg (px_s1 lv9 12 (oI ((b : Int) + 1))) 1 = some (oI (n)) := s1_ne (by decide) (fun _ => rfl) l1
          replace l4 : px_lg (px_s1 lv9 12 (oI ((b : Int) + 1))) 4 = some (oI (w)) := s1_ne (by decide) (fun _ => rfl) l4
          replace l5 : px_lg (px_s1 lv9 12 (oI ((b : Int) + 1))) 5 = some (.inr (.inl (all))) := s1_ne (by decide) (fun z => absurd z (by decide)) l5
          replace l11 : px_lg (px_s1 lv9 12 (oI ((b : Int) + 1))) 11 = some (oI ((a : Int))) := s1_ne (by decide) (fun _ => rfl) l11
          replace l13 : px_lg (px_s1 lv9 12 (oI ((b : Int) + 1))) 13 = some (.inr (.inl (Lw g2 0))) := s1_ne (by decide) (fun z => absurd z (by decide)) l13
          replace l15 : px_lg (px_s1 lv9 12 (oI ((b : Int) + 1))) 15 = some (.inr (.inl ((all) - (Lw g2 0)))) := s1_ne (by decide) (fun z => absurd z (by decide)) l15
          replace l7 : px_lg (px_s1 lv9 12 (oI ((b : Int) + 1))) 7 = some (.inr (.inl ((all) - (Lw g2 0)))) := s1_ne (by decide) (fun z => absurd z (by decide)) l7
          replace l9 : px_lg (px_s1 lv9 12 (oI ((b : Int) + 1))) 9 = some (oI ((a : Int))) := s1_ne (by decide) (fun _ => rfl) l9
          replace l10 : px_lg (px_s1 lv9 12 (oI ((b : Int) + 1))) 10 = some (oI ((b : Int))) := s1_ne (by decide) (fun _ => rfl) l10
          have l12 : px_lg (px_s1 lv9 12 (oI ((b : Int) + 1))) 12 = some (oI ((b : Int) + 1)) := s1_eq
          generalize px_s1 lv9 12 (oI ((b : Int) + 1)) = lv10 at l0 l1 l4 l5 l11 l13 l15 l7 l9 l10 l12 ⊢
          show t_X d 243 195 lv10 [] g2 P
          refine t_1 qsy_195 rfl (pb_goto (pc := 195) (by decide)) ?_
          show t_X d 243 130 lv10 [] g2 P
          exact ih (b + 1) _ _ _ _ _ (by omega) (by omega) (by omega) hJ2 (by rw [fF_M hA2.2 Wo_1.2.2.2.1, h71]) l0 l1 l4 l5 l7 l9 l10 l11 l12
        · show t_X d 243 177 lv5 [] g2 P
          refine t_1 qsy_177 rfl (pb_goto (pc := 177) (by decide)) ?_
          show t_X d 243 192 lv5 [] g2 P
          refine t_2 qsy_192 rfl (w := (px_s1 lv5 12 (oI ((b : Int) + 1)), [])) (pq_inc l12 (by decide)) ?_
          replace l0 : px_lg (px_s1 lv5 12 (oI ((b : Int) + 1))) 0 = some (pvR 196) := s1_ne (by decide) (fun _ => rfl) l0
          replace l1 : px_lg (px_s1 lv5 12 (oI ((b : Int) + 1))) 1 = some (oI (n)) := s1_ne (by decide) (fun _ => rfl) l1
          replace l4 : px_lg (px_s1 lv5 12 (oI ((b : Int) + 1))) 4 = some (oI (w)) := s1_ne (by decide) (fun _ => rfl) l4
          replace l5 : px_lg (px_s1 lv5 12 (oI ((b : Int) + 1))) 5 = some (.inr (.inl (all))) := s1_ne (by decide) (fun z => absurd z (by decide)) l5
          replace l7 : px_lg (px_s1 lv5 12 (oI ((b : Int) + 1))) 7 = some (.inr (.inl (most))) := s1_ne (by decide) (fun z => absurd z (by decide)) l7
          replace l9 : px_lg (px_s1 lv5 12 (oI ((b : Int) + 1))) 9 = some (oI (f)) := s1_ne (by decide) (fun _ => rfl) l9
          replace l10 : px_lg (px_s1 lv5 12 (oI ((b : Int) + 1))) 10 = some (oI (s)) := s1_ne (by decide) (fun _ => rfl) l10
          replace l11 : px_lg (px_s1 lv5 12 (oI ((b : Int) + 1))) 11 = some (oI ((a : Int))) := s1_ne (by decide) (fun _ => rfl) l11
          replace l13 : px_lg (px_s1 lv5 12 (oI ((b : Int) + 1))) 13 = some (.inr (.inl (Lw g2 0))) := s1_ne (by decide) (fun z => absurd z (by decide)) l13
          replace l15 : px_lg (px_s1 lv5 12 (oI ((b : Int) + 1))) 15 = some (.inr (.inl ((all) - (Lw g2 0)))) := s1_ne (by decide) (fun z => absurd z (by decide)) l15
          have l12 : px_lg (px_s1 lv5 12 (oI ((b : Int) + 1))) 12 = some (oI ((b : Int) + 1)) := s1_eq
          generalize px_s1 lv5 12 (oI ((b : Int) + 1)) = lv11 at l0 l1 l4 l5 l7 l9 l10 l11 l13 l15 l12 ⊢
          show t_X d 243 195 lv11 [] g2 P
          refine t_1 qsy_195 rfl (pb_goto (pc := 195) (by decide)) ?_
          show t_X d 243 130 lv11 [] g2 P
          exact ih (b + 1) _ _ _ _ _ (by omega) (by omega) (by omega) hJ2 (by rw [fF_M hA2.2 Wo_1.2.2.2.1, h71]) l0 l1 l4 l5 l7 l9 l10 l11 l12
      · show t_X d 243 157 lv3 [] g2 P
        refine t_0 qsy_157 rfl (ld_l l13) ?_
        refine t_1 qsy_159 rfl (pb_goto (pc := 159) (by decide)) ?_
        show t_X d 243 167 lv3 [.inr (.inl (Lw g2 0))] g2 P
        refine t_2 qsy_167 rfl (w := (px_s2 lv3 15 (.inr (.inl (Lw g2 0))), [])) rfl ?_
        replace l0 : px_lg (px_s2 lv3 15 (.inr (.inl (Lw g2 0)))) 0 = some (pvR 196) := s2_ne (by decide) (fun _ => rfl) l0
        replace l1 : px_lg (px_s2 lv3 15 (.inr (.inl (Lw g2 0)))) 1 = some (oI (n)) := s2_ne (by decide) (fun _ => rfl) l1
        replace l4 : px_lg (px_s2 lv3 15 (.inr (.inl (Lw g2 0)))) 4 = some (oI (w)) := s2_ne (by decide) (fun _ => rfl) l4
        replace l5 : px_lg (px_s2 lv3 15 (.inr (.inl (Lw g2 0)))) 5 = some (.inr (.inl (all))) := s2_ne (by decide) (fun z => absurd z (by decide)) l5
        replace l7 : px_lg (px_s2 lv3 15 (.inr (.inl (Lw g2 0)))) 7 = some (.inr (.inl (most))) := s2_ne (by decide) (fun z => absurd z (by decide)) l7
        replace l9 : px_lg (px_s2 lv3 15 (.inr (.inl (Lw g2 0)))) 9 = some (oI (f)) := s2_ne (by decide) (fun _ => rfl) l9
        replace l10 : px_lg (px_s2 lv3 15 (.inr (.inl (Lw g2 0)))) 10 = some (oI (s)) := s2_ne (by decide) (fun _ => rfl) l10
        replace l11 : px_lg (px_s2 lv3 15 (.inr (.inl (Lw g2 0)))) 11 = some (oI ((a : Int))) := s2_ne (by decide) (fun _ => rfl) l11
        replace l12 : px_lg (px_s2 lv3 15 (.inr (.inl (Lw g2 0)))) 12 = some (oI ((b : Int))) := s2_ne (by decide) (fun _ => rfl) l12
        replace l13 : px_lg (px_s2 lv3 15 (.inr (.inl (Lw g2 0)))) 13 = some (.inr (.inl (Lw g2 0))) := s2_ne (by decide) (fun z => absurd z (by decide)) l13
        have l15 : px_lg (px_s2 lv3 15 (.inr (.inl (Lw g2 0)))) 15 = some (.inr (.inl (Lw g2 0))) := s2_eq
        generalize px_s2 lv3 15 (.inr (.inl (Lw g2 0))) = lv12 at l0 l1 l4 l5 l7 l9 l10 l11 l12 l13 l15 ⊢
        show t_X d 243 169 lv12 [] g2 P
        refine t_0 qsy_169 rfl (ld_l l15) ?_
        refine t_0 qsy_171 rfl (ld_l l7) ?_
        refine t_0 qsy_173 rfl rfl ?_
        refine tx_gt qsy_174 (by decide) (fun c13 => ?_) (fun c13 => ?_)
        · show t_X d 243 180 lv12 [] g2 P
          refine t_0 qsy_180 rfl (ld_l l15) ?_
          refine t_2 qsy_182 rfl (w := (px_s2 lv12 7 (.inr (.inl (Lw g2 0))), [])) rfl ?_
          replace l0 : px_lg (px_s2 lv12 7 (.inr (.inl (Lw g2 0)))) 0 = some (pvR 196) := s2_ne (by decide) (fun _ => rfl) l0
          replace l1 : px_lg (px_s2 lv12 7 (.inr (.inl (Lw g2 0)))) 1 = some (oI (n)) := s2_ne (by decide) (fun _ => rfl) l1
          replace l4 : px_lg (px_s2 lv12 7 (.inr (.inl (Lw g2 0)))) 4 = some (oI (w)) := s2_ne (by decide) (fun _ => rfl) l4
          replace l5 : px_lg (px_s2 lv12 7 (.inr (.inl (Lw g2 0)))) 5 = some (.inr (.inl (all))) := s2_ne (by decide) (fun z => absurd z (by decide)) l5
          replace l9 : px_lg (px_s2 lv12 7 (.inr (.inl (Lw g2 0)))) 9 = some (oI (f)) := s2_ne (by decide) (fun _ => rfl) l9
          replace l10 : px_lg (px_s2 lv12 7 (.inr (.inl (Lw g2 0)))) 10 = some (oI (s)) := s2_ne (by decide) (fun _ => rfl) l10
          replace l11 : px_lg (px_s2 lv12 7 (.inr (.inl (Lw g2 0)))) 11 = some (oI ((a : Int))) := s2_ne (by decide) (fun _ => rfl) l11
          replace l12 : px_lg (px_s2 lv12 7 (.inr (.inl (Lw g2 0)))) 12 = some (oI ((b : Int))) := s2_ne (by decide) (fun _ => rfl) l12
          replace l13 : px_lg (px_s2 lv12 7 (.inr (.inl (Lw g2 0)))) 13 = some (.inr (.inl (Lw g2 0))) := s2_ne (by decide) (fun z => absurd z (by decide)) l13
          replace l15 : px_lg (px_s2 lv12 7 (.inr (.inl (Lw g2 0)))) 15 = some (.inr (.inl (Lw g2 0))) := s2_ne (by decide) (fun z => absurd z (by decide)) l15
          have l7 : px_lg (px_s2 lv12 7 (.inr (.inl (Lw g2 0)))) 7 = some (.inr (.inl (Lw g2 0))) := s2_eq
          generalize px_s2 lv12 7 (.inr (.inl (Lw g2 0))) = lv14 at l0 l1 l4 l5 l9 l10 l11 l12 l13 l15 l7 ⊢
          show t_X d 243 184 lv14 [] g2 P
          refine t_0 qsy_184 rfl (ld_i l11) ?_
          refine t_2 qsy_186 rfl (w := (px_s1 lv14 9 (oI ((a : Int))), [])) rfl ?_
          replace l0 : px_lg (px_s1 lv14 9 (oI ((a : Int)))) 0 = some (pvR 196) := s1_ne (by decide) (fun _ => rfl) l0
          replace l1 : px_lg (px_s1 lv14 9 (oI ((a : Int)))) 1 = some (oI (n)) := s1_ne (by decide) (fun _ => rfl) l1
          replace l4 : px_lg (px_s1 lv14 9 (oI ((a : Int)))) 4 = some (oI (w)) := s1_ne (by decide) (fun _ => rfl) l4
          replace l5 : px_lg (px_s1 lv14 9 (oI ((a : Int)))) 5 = some (.inr (.inl (all))) := s1_ne (by decide) (fun z => absurd z (by decide)) l5
          replace l10 : px_lg (px_s1 lv14 9 (oI ((a : Int)))) 10 = some (oI (s)) := s1_ne (by decide) (fun _ => rfl) l10
          replace l11 : px_lg (px_s1 lv14 9 (oI ((a : Int)))) 11 = some (oI ((a : Int))) := s1_ne (by decide) (fun _ => rfl) l11
          replace l12 : px_lg (px_s1 lv14 9 (oI ((a : Int)))) 12 = some (oI ((b : Int))) := s1_ne (by decide) (fun _ => rfl) l12
          replace l13 : px_lg (px_s1 lv14 9 (oI ((a : Int)))) 13 = some (.inr (.inl (Lw g2 0))) := s1_ne (by decide) (fun z => absurd z (by decide)) l13
          replace l15 : px_lg (px_s1 lv14 9 (oI ((a : Int)))) 15 = some (.inr (.inl (Lw g2 0))) := s1_ne (by decide) (fun z => absurd z (by decide)) l15
          replace l7 : px_lg (px_s1 lv14 9 (oI ((a : Int)))) 7 = some (.inr (.inl (Lw g2 0))) := s1_ne (by decide) (fun z => absurd z (by decide)) l7
          have l9 : px_lg (px_s1 lv14 9 (oI ((a : Int)))) 9 = some (oI ((a : Int))) := s1_eq
          generalize px_s1 lv14 9 (oI ((a : Int))) = lv15 at l0 l1 l4 l5 l10 l11 l12 l13 l15 l7 l9 ⊢
          show t_X d 243 188 lv15 [] g2 P
          refine t_0 qsy_188 rfl (ld_i l12) ?_
          refine t_2 qsy_190 rfl (w := (px_s1 lv15 10 (oI ((b : Int))), [])) rfl ?_
          replace l0 : px_lg (px_s1 lv15 10 (oI ((b : Int)))) 0 = some (pvR 196) := s1_ne (by decide) (fun _ => rfl) l0
          replace l1 : px_lg (px_s1 lv15 10 (oI ((b : Int)))) 1 = some (oI (n)) := s1_ne (by decide) (fun _ => rfl) l1
          replace l4 : px_lg (px_s1 lv15 10 (oI ((b : Int)))) 4 = some (oI (w)) := s1_ne (by decide) (fun _ => rfl) l4
          replace l5 : px_lg (px_s1 lv15 10 (oI ((b : Int)))) 5 = some (.inr (.inl (all))) := s1_ne (by decide) (fun z => absurd z (by decide)) l5
          replace l11 : px_lg (px_s1 lv15 10 (oI ((b : Int)))) 11 = some (oI ((a : Int))) := s1_ne (by decide) (fun _ => rfl) l11
          replace l12 : px_lg (px_s1 lv15 10 (oI ((b : Int)))) 12 = some (oI ((b : Int))) := s1_ne (by decide) (fun _ => rfl) l12
          replace l13 : px_lg (px_s1 lv15 10 (oI ((b : Int)))) 13 = some (.inr (.inl (Lw g2 0))) := s1_ne (by decide) (fun z => absurd z (by decide)) l13
          replace l15 : px_lg (px_s1 lv15 10 (oI ((b : Int)))) 15 = some (.inr (.inl (Lw g2 0))) := s1_ne (by decide) (fun z => absurd z (by decide)) l15
          replace l7 : px_lg (px_s1 lv15 10 (oI ((b : Int)))) 7 = some (.inr (.inl (Lw g2 0))) := s1_ne (by decide) (fun z => absurd z (by decide)) l7
          replace l9 : px_lg (px_s1 lv15 10 (oI ((b : Int)))) 9 = some (oI ((a : Int))) := s1_ne (by decide) (fun _ => rfl) l9
          have l10 : px_lg (px_s1 lv15 10 (oI ((b : Int)))) 10 = some (oI ((b : Int))) := s1_eq
          generalize px_s1 lv15 10 (oI ((b : Int))) = lv16 at l0 l1 l4 l5 l11 l12 l13 l15 l7 l9 l10 ⊢
          show t_X d 243 192 lv16 [] g2 P
          refine t_2 qsy_192 rfl (w := (px_s1 lv16 12 (oI ((b : Int) + 1)), [])) (pq_inc l12 (by decide)) ?_
          replace l0 : px_lg (px_s1 lv16 12 (oI ((b : Int) + 1))) 0 = some (pvR 196) := s1_ne (by decide) (fun _ => rfl) l0
          replace l1 : px_lg (px_s1 lv16 12 (oI ((b : Int) + 1))) 1 = some (oI (n)) := s1_ne (by decide) (fun _ => rfl) l1
          replace l4 : px_lg (px_s1 lv16 12 (oI ((b : Int) + 1))) 4 = some (oI (w)) := s1_ne (by decide) (fun _ => rfl) l4
          replace l5 : px_lg (px_s1 lv16 12 (oI ((b : Int) + 1))) 5 = some (.inr (.inl (all))) := s1_ne (by decide) (fun z => absurd z (by decide)) l5
          replace l11 : px_lg (px_s1 lv16 12 (oI ((b : Int) + 1))) 11 = some (oI ((a : Int))) := s1_ne (by decide) (fun _ => rfl) l11
          replace l13 : px_lg (px_s1 lv16 12 (oI ((b : Int) + 1))) 13 = some (.inr (.inl (Lw g2 0))) := s1_ne (by decide) (fun z => absurd z (by decide)) l13
          replace l15 : px_lg (px_s1 lv16 12 (oI ((b : Int) + 1))) 15 = some (.inr (.inl (Lw g2 0))) := s1_ne (by decide) (fun z => absurd z (by decide)) l15
          replace l7 : px_lg (px_s1 lv16 12 (oI ((b : Int) + 1))) 7 = some (.inr (.inl (Lw g2 0))) := s1_ne (by decide) (fun z => absurd z (by decide)) l7
          replace l9 : px_lg (px_s1 lv16 12 (oI ((b : Int) + 1))) 9 = some (oI ((a : Int))) := s1_ne (by decide) (fun _ => rfl) l9
          replace l10 : px_lg (px_s1 lv16 12 (oI ((b : Int) + 1))) 10 = some (oI ((b : Int))) := s1_ne (by decide) (fun _ => rfl) l10
          have l12 : px_lg (px_s1 lv16 12 (oI ((b : Int) + 1))) 12 = some (oI ((b : Int) + 1)) := s1_eq
          generalize px_s1 lv16 12 (oI ((b : Int) + 1)) = lv17 at l0 l1 l4 l5 l11 l13 l15 l7 l9 l10 l12 ⊢
          show t_X d 243 195 lv17 [] g2 P
          refine t_1 qsy_195 rfl (pb_goto (pc := 195) (by decide)) ?_
          show t_X d 243 130 lv17 [] g2 P
          exact ih (b + 1) _ _ _ _ _ (by omega) (by omega) (by omega) hJ2 (by rw [fF_M hA2.2 Wo_1.2.2.2.1, h71]) l0 l1 l4 l5 l7 l9 l10 l11 l12
        · show t_X d 243 177 lv12 [] g2 P
          refine t_1 qsy_177 rfl (pb_goto (pc := 177) (by decide)) ?_
          show t_X d 243 192 lv12 [] g2 P
          refine t_2 qsy_192 rfl (w := (px_s1 lv12 12 (oI ((b : Int) + 1)), [])) (pq_inc l12 (by decide)) ?_
          replace l0 : px_lg (px_s1 lv12 12 (oI ((b : Int) + 1))) 0 = some (pvR 196) := s1_ne (by decide) (fun _ => rfl) l0
          replace l1 : px_lg (px_s1 lv12 12 (oI ((b : Int) + 1))) 1 = some (oI (n)) := s1_ne (by decide) (fun _ => rfl) l1
          replace l4 : px_lg (px_s1 lv12 12 (oI ((b : Int) + 1))) 4 = some (oI (w)) := s1_ne (by decide) (fun _ => rfl) l4
          replace l5 : px_lg (px_s1 lv12 12 (oI ((b : Int) + 1))) 5 = some (.inr (.inl (all))) := s1_ne (by decide) (fun z => absurd z (by decide)) l5
          replace l7 : px_lg (px_s1 lv12 12 (oI ((b : Int) + 1))) 7 = some (.inr (.inl (most))) := s1_ne (by decide) (fun z => absurd z (by decide)) l7
          replace l9 : px_lg (px_s1 lv12 12 (oI ((b : Int) + 1))) 9 = some (oI (f)) := s1_ne (by decide) (fun _ => rfl) l9
          replace l10 : px_lg (px_s1 lv12 12 (oI ((b : Int) + 1))) 10 = some (oI (s)) := s1_ne (by decide) (fun _ => rfl) l10
          replace l11 : px_lg (px_s1 lv12 12 (oI ((b : Int) + 1))) 11 = some (oI ((a : Int))) := s1_ne (by decide) (fun _ => rfl) l11
          replace l13 : px_lg (px_s1 lv12 12 (oI ((b : Int) + 1))) 13 = some (.inr (.inl (Lw g2 0))) := s1_ne (by decide) (fun z => absurd z (by decide)) l13
          replace l15 : px_lg (px_s1 lv12 12 (oI ((b : Int) + 1))) 15 = some (.inr (.inl (Lw g2 0))) := s1_ne (by decide) (fun z => absurd z (by decide)) l15
          have l12 : px_lg (px_s1 lv12 12 (oI ((b : Int) + 1))) 12 = some (oI ((b : Int) + 1)) := s1_eq
          generalize px_s1 lv12 12 (oI ((b : Int) + 1)) = lv18 at l0 l1 l4 l5 l7 l9 l10 l11 l13 l15 l12 ⊢
          show t_X d 243 195 lv18 [] g2 P
          refine t_1 qsy_195 rfl (pb_goto (pc := 195) (by decide)) ?_
          show t_X d 243 130 lv18 [] g2 P
          exact ih (b + 1) _ _ _ _ _ (by omega) (by omega) (by omega) hJ2 (by rw [fF_M hA2.2 Wo_1.2.2.2.1, h71]) l0 l1 l4 l5 l7 l9 l10 l11 l12
set_option maxHeartbeats 8000000 in
theorem sy_a {d : Nat} (hd : 4 ≤ d) {h0 : pH} {n w : Int} (hw : -2147483648 ≤ w ∧ w ≤ 2147483647) (hn : 2 ≤ n ∧ n ≤ 12) {all : Int64} {P : Option pv × pH → Prop} (hP : ∀ (g : pH) (z : Int64), J_ Ws h0 g → P (some (.inr (.inl z)), g)) : ∀ (m a : Nat) (g : pH) (most : Int64) (f s : Int) (lv : List (Nat × pv)), n - a ≤ m → (a : Int) ≤ n → (f = -1 ∧ s = -1) ∨ (0 ≤ f ∧ f < 12 ∧ 0 ≤ s ∧ s < 12) → J_ Ws h0 g → fF g 71 = (n.toNat : Int) → px_lg lv 0 = some (pvR 196) → px_lg lv 1 = some (oI n) → px_lg lv 4 = some (oI w) → px_lg lv 5 = some (.inr (.inl all)) → px_lg lv 7 = some (.inr (.inl most)) → px_lg lv 9 = some (oI f) → px_lg lv 10 = some (oI s) → px_lg lv 11 = some (oI (a : Int)) → t_X d 243 118 lv [] g P := by
  intro m
  induction m with
  | zero =>
    intro a g most f s lv hm ha hf hJ h71 l0 l1 l4 l5 l7 l9 l10 l11
    refine t_0 qsy_118 rfl (ld_i l11) ?_
    refine t_0 qsy_120 rfl (ld_i l1) ?_
    refine tb_ge qsy_121 (by decide) ⟨by omega, by omega⟩ ⟨by omega, by omega⟩ (fun c1 => ?_) (fun c1 => absurd c1 (by omega))
    show t_X d 243 204 lv [] g P
    refine t_0 qsy_204 rfl (ld_i l9) ?_
    refine t_0 qsy_206 rfl rfl ?_
    refine tb_ne qsy_207 (by decide) ⟨by omega, by omega⟩ ⟨by omega, by omega⟩ (fun c2 => ?_) (fun c2 => ?_)
    · show t_X d 243 216 lv [] g P
      refine t_0 qsy_216 rfl (ld_i l4) ?_
      refine t_0 qsy_218 rfl rfl ?_
      refine tb_ne qsy_219 (by decide) ⟨by omega, by omega⟩ ⟨by omega, by omega⟩ (fun c3 => ?_) (fun c3 => ?_)
      · show t_X d 243 233 lv [] g P
        refine t_0 qsy_233 rfl (ld_i l4) ?_
        refine t_0 qsy_235 rfl rfl ?_
        refine tb_ne qsy_236 (by decide) ⟨by omega, by omega⟩ ⟨by omega, by omega⟩ (fun c4 => ?_) (fun c4 => ?_)
        · show t_X d 243 250 lv [] g P
          refine t_0 qsy_250 rfl (ld_l l7) ?_
          refine t_5 qsy_252 rfl rfl ?_
          exact hP _ _ hJ
        · show t_X d 243 239 lv [] g P
          refine t_0 qsy_239 rfl (ld_a l0) ?_
          refine t_0 qsy_240 rfl (ar_68 hJ.1) ?_
          refine t_0 qsy_243 rfl (ld_i l10) ?_
          refine t_0 qsy_245 rfl (pq_ia el_238 rfl ⟨by omega, by omega⟩) ?_
          have r5 := gb_a hJ.1 el_238 (j := s.toNat) (by omega) ga_238
          refine t_0 qsy_246 rfl rfl ?_
          refine t_1 qsy_247 rfl (pb_goto (pc := 247) (by decide)) ?_
          show t_X d 243 252 lv [.inr (.inl (Int32.toInt64 (Int32.ofInt (fA g 238 s.toNat))))] g P
          refine t_5 qsy_252 rfl rfl ?_
          exact hP _ _ hJ
      · show t_X d 243 222 lv [] g P
        refine t_0 qsy_222 rfl (ld_a l0) ?_
        refine t_0 qsy_223 rfl (ar_68 hJ.1) ?_
        refine t_0 qsy_226 rfl (ld_i l9) ?_
        refine t_0 qsy_228 rfl (pq_ia el_238 rfl ⟨by omega, by omega⟩) ?_
        have r6 := gb_a hJ.1 el_238 (j := f.toNat) (by omega) ga_238
        refine t_0 qsy_229 rfl rfl ?_
        refine t_1 qsy_230 rfl (pb_goto (pc := 230) (by decide)) ?_
        show t_X d 243 252 lv [.inr (.inl (Int32.toInt64 (Int32.ofInt (fA g 238 f.toNat))))] g P
        refine t_5 qsy_252 rfl rfl ?_
        exact hP _ _ hJ
    · show t_X d 243 210 lv [] g P
      refine t_0 qsy_210 rfl rfl ?_
      refine t_1 qsy_213 rfl (pb_goto (pc := 213) (by decide)) ?_
      show t_X d 243 252 lv [.inr (.inl (xe_k 9223372036854775806))] g P
      refine t_5 qsy_252 rfl rfl ?_
      exact hP _ _ hJ
  | succ m ih =>
    intro a g most f s lv hm ha hf hJ h71 l0 l1 l4 l5 l7 l9 l10 l11
    by_cases hge : n ≤ a
    · refine t_0 qsy_118 rfl (ld_i l11) ?_
      refine t_0 qsy_120 rfl (ld_i l1) ?_
      refine tb_ge qsy_121 (by decide) ⟨by omega, by omega⟩ ⟨by omega, by omega⟩ (fun c1 => ?_) (fun c1 => absurd c1 (by omega))
      show t_X d 243 204 lv [] g P
      refine t_0 qsy_204 rfl (ld_i l9) ?_
      refine t_0 qsy_206 rfl rfl ?_
      refine tb_ne qsy_207 (by decide) ⟨by omega, by omega⟩ ⟨by omega, by omega⟩ (fun c2 => ?_) (fun c2 => ?_)
      · show t_X d 243 216 lv [] g P
        refine t_0 qsy_216 rfl (ld_i l4) ?_
        refine t_0 qsy_218 rfl rfl ?_
        refine tb_ne qsy_219 (by decide) ⟨by omega, by omega⟩ ⟨by omega, by omega⟩ (fun c3 => ?_) (fun c3 => ?_)
        · show t_X d 243 233 lv [] g P
          refine t_0 qsy_233 rfl (ld_i l4) ?_
          refine t_0 qsy_235 rfl rfl ?_
          refine tb_ne qsy_236 (by decide) ⟨by omega, by omega⟩ ⟨by omega, by omega⟩ (fun c4 => ?_) (fun c4 => ?_)
          · show t_X d 243 250 lv [] g P
            refine t_0 qsy_250 rfl (ld_l l7) ?_
            refine t_5 qsy_252 rfl rfl ?_
            exact hP _ _ hJ
          · show t_X d 243 239 lv [] g P
            refine t_0 qsy_239 rfl (ld_a l0) ?_
            refine t_0 qsy_240 rfl (ar_68 hJ.1) ?_
            refine t_0 qsy_243 rfl (ld_i l10) ?_
            refine t_0 qsy_245 rfl (pq_ia el_238 rfl ⟨by omega, by omega⟩) ?_
            have r5 := gb_a hJ.1 el_238 (j := s.toNat) (by omega) ga_238
            refine t_0 qsy_246 rfl rfl ?_
            refine t_1 qsy_247 rfl (pb_goto (pc := 247) (by decide)) ?_
            show t_X d 243 252 lv [.inr (.inl (Int32.toInt64 (Int32.ofInt (fA g 238 s.toNat))))] g P
            refine t_5 qsy_252 rfl rfl ?_
            exact hP _ _ hJ
        · show t_X d 243 222 lv [] g P
          refine t_0 qsy_222 rfl (ld_a l0) ?_
          refine t_0 qsy_223 rfl (ar_68 hJ.1) ?_
          refine t_0 qsy_226 rfl (ld_i l9) ?_
          refine t_0 qsy_228 rfl (pq_ia el_238 rfl ⟨by omega, by omega⟩) ?_
          have r6 := gb_a hJ.1 el_238 (j := f.toNat) (by omega) ga_238
          refine t_0 qsy_229 rfl rfl ?_
          refine t_1 qsy_230 rfl (pb_goto (pc := 230) (by decide)) ?_
          show t_X d 243 252 lv [.inr (.inl (Int32.toInt64 (Int32.ofInt (fA g 238 f.toNat))))] g P
          refine t_5 qsy_252 rfl rfl ?_
          exact hP _ _ hJ
      · show t_X d 243 210 lv [] g P
        refine t_0 qsy_210 rfl rfl ?_
        refine t_1 qsy_213 rfl (pb_goto (pc := 213) (by decide)) ?_
        show t_X d 243 252 lv [.inr (.inl (xe_k 9223372036854775806))] g P
        refine t_5 qsy_252 rfl rfl ?_
        exact hP _ _ hJ
    refine t_0 qsy_118 rfl (ld_i l11) ?_
    refine t_0 qsy_120 rfl (ld_i l1) ?_
    refine tb_ge qsy_121 (by decide) ⟨by omega, by omega⟩ ⟨by omega, by omega⟩ (fun c1 => absurd c1 (by omega)) (fun c1 => ?_)
    show t_X d 243 124 lv [] g P
    refine t_0 qsy_124 rfl (ld_i l11) ?_
    refine t_0 qsy_126 rfl rfl ?_
    refine t_0 qsy_127 rfl pq_add ?_
    refine t_2 qsy_128 rfl (w := (px_s1 lv 12 (oI ((a : Int) + 1)), [])) rfl ?_
    replace l0 : px_lg (px_s1 lv 12 (oI ((a : Int) + 1))) 0 = some (pvR 196) := s1_ne (by decide) (fun _ => rfl) l0
    replace l1 : px_lg (px_s1 lv 12 (oI ((a : Int) + 1))) 1 = some (oI (n)) := s1_ne (by decide) (fun _ => rfl) l1
    replace l4 : px_lg (px_s1 lv 12 (oI ((a : Int) + 1))) 4 = some (oI (w)) := s1_ne (by decide) (fun _ => rfl) l4
    replace l5 : px_lg (px_s1 lv 12 (oI ((a : Int) + 1))) 5 = some (.inr (.inl (all))) := s1_ne (by decide) (fun z => absurd z (by decide)) l5
    replace l7 : px_lg (px_s1 lv 12 (oI ((a : Int) + 1))) 7 = some (.inr (.inl (most))) := s1_ne (by decide) (fun z => absurd z (by decide)) l7
    replace l9 : px_lg (px_s1 lv 12 (oI ((a : Int) + 1))) 9 = some (oI (f)) := s1_ne (by decide) (fun _ => rfl) l9
    replace l10 : px_lg (px_s1 lv 12 (oI ((a : Int) + 1))) 10 = some (oI (s)) := s1_ne (by decide) (fun _ => rfl) l10
    replace l11 : px_lg (px_s1 lv 12 (oI ((a : Int) + 1))) 11 = some (oI ((a : Int))) := s1_ne (by decide) (fun _ => rfl) l11
    have l12 : px_lg (px_s1 lv 12 (oI ((a : Int) + 1))) 12 = some (oI ((a : Int) + 1)) := s1_eq
    generalize px_s1 lv 12 (oI ((a : Int) + 1)) = lv2 at l0 l1 l4 l5 l7 l9 l10 l11 l12 ⊢
    show t_X d 243 130 lv2 [] g P
    refine sy_b hd hn (a := a) (by omega) (fun g9 most9 f9 s9 lv9 hf9 hJ9 k9 u0 u1 u4 u5 u7 u9 u10 u11 => ?_) 12 (a + 1) _ _ _ _ _ (by omega) (by omega) hf hJ h71 l0 l1 l4 l5 l7 l9 l10 l11 l12
    refine t_2 qsy_198 rfl (w := (px_s1 lv9 11 (oI ((a : Int) + 1)), [])) (pq_inc u11 (by decide)) ?_
    refine t_1 qsy_201 rfl (pb_goto (pc := 201) (by decide)) ?_
    show t_X d 243 118 _ [] g9 P
    exact ih (a + 1) _ _ _ _ _ (by omega) (by omega) hf9 hJ9 k9 (s1_ne (by decide) (fun _ => rfl) u0) (s1_ne (by decide) (fun _ => rfl) u1) (s1_ne (by decide) (fun _ => rfl) u4) (s1_ne (by decide) (fun z => absurd z (by decide)) u5) (s1_ne (by decide) (fun z => absurd z (by decide)) u7) (s1_ne (by decide) (fun _ => rfl) u9) (s1_ne (by decide) (fun _ => rfl) u10) s1_eq
set_option maxHeartbeats 8000000 in
theorem sy_run {d : Nat} (hd : 8 ≤ d) {g : pH} (hG : g_I eG g) {n i j w : Int} (hn : -2147483648 ≤ n ∧ n ≤ 2147483647) (hi : -2147483648 ≤ i ∧ i ≤ 2147483647) (hj : -2147483648 ≤ j ∧ j ≤ 2147483647) (hw : -2147483648 ≤ w ∧ w ≤ 2147483647) {P : Option pv × pH → Prop} (hP : ∀ (g1 : pH) (z : Int64), J_ Ws g g1 → P (some (.inr (.inl z)), g1)) {lv : List (Nat × pv)} (l0 : px_lg lv 0 = some (pvR 196)) (l1 : px_lg lv 1 = some (oI n)) (l2 : px_lg lv 2 = some (oI i)) (l3 : px_lg lv 3 = some (oI j)) (l4 : px_lg lv 4 = some (oI w)) : t_X d 243 0 lv [] g P := by
  have w_17 := Ws_1.1
  have hJ0 : J_ Ws g g := J_rf hG
  refine t_0 qsy_0 rfl (ld_i l1) ?_
  refine t_0 qsy_1 rfl rfl ?_
  refine t_0 qsy_2 rfl (pq_b (by decide)) ?_
  refine t_3 qsy_4 rfl (ar := ([oI (n), oI (2), oI (12)], [])) (pcal_s ⟨Or.inl rfl, rfl, Nat.le_of_ble_eq_true rfl⟩) ⟨by omega, Nat.le_of_ble_eq_true rfl, Nat.le_of_ble_eq_true rfl, rfl⟩ ?_
  refine in_run ⟨by omega, by omega⟩ ⟨by omega, by omega⟩ ⟨by omega, by omega⟩ rfl rfl rfl (fun t1 => ?_) (fun t1 => ?_)
  · show t_X d 243 7 lv [oI (1)] g P
    refine tz_eq qsy_7 (by decide) ⟨by omega, by omega⟩ (fun c2 => absurd c2 (by omega)) (fun c2 => ?_)
    show t_X d 243 10 lv [] g P
    refine t_0 qsy_10 rfl (ld_i l4) ?_
    refine t_0 qsy_12 rfl rfl ?_
    refine t_0 qsy_13 rfl rfl ?_
    refine t_3 qsy_14 rfl (ar := ([oI (w), oI (0), oI (3)], [])) (pcal_s ⟨Or.inl rfl, rfl, Nat.le_of_ble_eq_true rfl⟩) ⟨by omega, Nat.le_of_ble_eq_true rfl, Nat.le_of_ble_eq_true rfl, rfl⟩ ?_
    refine in_run ⟨by omega, by omega⟩ ⟨by omega, by omega⟩ ⟨by omega, by omega⟩ rfl rfl rfl (fun t3 => ?_) (fun t3 => ?_)
    · show t_X d 243 17 lv [oI (1)] g P
      refine tz_eq qsy_17 (by decide) ⟨by omega, by omega⟩ (fun c4 => absurd c4 (by omega)) (fun c4 => ?_)
      show t_X d 243 20 lv [] g P
      refine t_0 qsy_20 rfl (ld_i l1) ?_
      refine t_0 qsy_21 rfl (ld_a l0) ?_
      have r5 := gb_f hJ0.1 (y := 17) rfl rfl gf_17
      refine t_0 qsy_22 rfl (pq_gf (y := 17) rfl) ?_
      refine tb_le qsy_25 (by decide) ⟨by omega, by omega⟩ ⟨by omega, by omega⟩ (fun c6 => ?_) (fun c6 => ?_)
      · show t_X d 243 32 lv [] g P
        refine t_0 qsy_32 rfl (ld_a l0) ?_
        refine t_0 qsy_33 rfl rfl ?_
        refine tw_f qsy_34 rfl hJ0 w_17 gf_17 (by decide) ⟨by omega, by omega⟩ (fun g7 hJ7 v7 f7 a7 => ?_)
        replace a7 := fA_2 a7
        show t_X d 243 37 lv [] g7 P
        refine t_0 qsy_37 rfl (ld_a l0) ?_
        refine t_0 qsy_38 rfl (ld_i l1) ?_
        refine t_3 qsy_39 rfl (ar := ([pvR 196, oI (n)], [])) (pcal_v1 rfl rfl el_196) ⟨by omega, Nat.le_of_ble_eq_true rfl, Nat.le_of_ble_eq_true rfl, rfl⟩ ?_
        refine ts_run (by omega) hJ7.1 (by rw [oT (by omega) (by omega)]; omega) rfl rfl (fun g8 hA8 => ?_) (fun g8 hA8 e8 => ?_)
        · have hJ8 := J_up Ws_1.2.2.1 hJ7 hA8
          show t_X d 243 42 lv [oI (0)] g8 P
          refine tz_ne qsy_42 (by decide) ⟨by omega, by omega⟩ (fun c9 => absurd c9 (by omega)) (fun c9 => ?_)
          show t_X d 243 45 lv [] g8 P
          refine t_0 qsy_45 rfl rfl ?_
          refine t_5 qsy_48 rfl rfl ?_
          exact hP _ _ hJ8
        · have hJ8 := J_up Ws_1.2.2.1 hJ7 hA8
          have h71 : fF g8 71 = (n.toNat : Int) := by
            show (g8.1 196 71).toInt = _
            rw [e8, oT (by omega) (by omega)]
            omega
          show t_X d 243 42 lv [oI (1)] g8 P
          refine tz_ne qsy_42 (by decide) ⟨by omega, by omega⟩ (fun c10 => ?_) (fun c10 => absurd c10 (by omega))
          show t_X d 243 49 lv [] g8 P
          have hs2 : n.toNat ≤ 12 := by omega
          refine t_0 qsy_49 rfl (ld_i l4) ?_
          refine tz_ne qsy_51 (by decide) ⟨by omega, by omega⟩ (fun c11 => ?_) (fun c11 => ?_)
          · show t_X d 243 98 lv [] g8 P
            refine t_0 qsy_98 rfl (ld_a l0) ?_
            refine t_0 qsy_99 rfl rfl ?_
            refine t_0 qsy_100 rfl rfl ?_
            refine t_3 qsy_101 rfl (ar := ([pvR 196, oI ((-1)), oI ((-1))], [])) (pcal_v2 rfl rfl el_196) ⟨by omega, Nat.le_of_ble_eq_true rfl, Nat.le_of_ble_eq_true rfl, rfl⟩ ?_
            refine lo_run (by omega) hs2 h71 (Or.inl rfl) (fun g12 hA12 hZ12 => ?_) hJ8.1 rfl rfl rfl
            have hJ12 := J_up Ws_1.2.2.2 hJ8 hA12
            show t_X d 243 104 lv [.inr (.inl (Lw g12 0))] g12 P
            refine t_2 qsy_104 rfl (w := (px_s2 lv 5 (.inr (.inl (Lw g12 0))), [])) rfl ?_
            replace l0 : px_lg (px_s2 lv 5 (.inr (.inl (Lw g12 0)))) 0 = some (pvR 196) := s2_ne (by decide) (fun _ => rfl) l0
            replace l1 : px_lg (px_s2 lv 5 (.inr (.inl (Lw g12 0)))) 1 = some (oI (n)) := s2_ne (by decide) (fun _ => rfl) l1
            replace l2 : px_lg (px_s2 lv 5 (.inr (.inl (Lw g12 0)))) 2 = some (oI (i)) := s2_ne (by decide) (fun _ => rfl) l2
            replace l3 : px_lg (px_s2 lv 5 (.inr (.inl (Lw g12 0)))) 3 = some (oI (j)) := s2_ne (by decide) (fun _ => rfl) l3
            replace l4 : px_lg (px_s2 lv 5 (.inr (.inl (Lw g12 0)))) 4 = some (oI (w)) := s2_ne (by decide) (fun _ => rfl) l4
            have l5 : px_lg (px_s2 lv 5 (.inr (.inl (Lw g12 0)))) 5 = some (.inr (.inl (Lw g12 0))) := s2_eq
            generalize px_s2 lv 5 (.inr (.inl (Lw g12 0))) = lv13 at l0 l1 l2 l3 l4 l5 ⊢
            show t_X d 243 106 lv13 [] g12 P
            refine t_0 qsy_106 rfl rfl ?_
            refine t_2 qsy_107 rfl (w := (px_s2 lv13 7 (.inr (.inl (Int64.ofNat 0))), [])) rfl ?_
            replace l0 : px_lg (px_s2 lv13 7 (.inr (.inl (Int64.ofNat 0)))) 0 = some (pvR 196) := s2_ne (by decide) (fun _ => rfl) l0
            replace l1 : px_lg (px_s2 lv13 7 (.inr (.inl (Int64.ofNat 0)))) 1 = some (oI (n)) := s2_ne (by decide) (fun _ => rfl) l1
            replace l2 : px_lg (px_s2 lv13 7 (.inr (.inl (Int64.ofNat 0)))) 2 = some (oI (i)) := s2_ne (by decide) (fun _ => rfl) l2
            replace l3 : px_lg (px_s2 lv13 7 (.inr (.inl (Int64.ofNat 0)))) 3 = some (oI (j)) := s2_ne (by decide) (fun _ => rfl) l3
            replace l4 : px_lg (px_s2 lv13 7 (.inr (.inl (Int64.ofNat 0)))) 4 = some (oI (w)) := s2_ne (by decide) (fun _ => rfl) l4
            replace l5 : px_lg (px_s2 lv13 7 (.inr (.inl (Int64.ofNat 0)))) 5 = some (.inr (.inl (Lw g12 0))) := s2_ne (by decide) (fun z => absurd z (by decide)) l5
            have l7 : px_lg (px_s2 lv13 7 (.inr (.inl (Int64.ofNat 0)))) 7 = some (.inr (.inl (Int64.ofNat 0))) := s2_eq
            generalize px_s2 lv13 7 (.inr (.inl (Int64.ofNat 0))) = lv14 at l0 l1 l2 l3 l4 l5 l7 ⊢
            show t_X d 243 109 lv14 [] g12 P
            refine t_0 qsy_109 rfl rfl ?_
            refine t_2 qsy_110 rfl (w := (px_s1 lv14 9 (oI ((-1))), [])) rfl ?_
            replace l0 : px_lg (px_s1 lv14 9 (oI ((-1)))) 0 = some (pvR 196) := s1_ne (by decide) (fun _ => rfl) l0
            replace l1 : px_lg (px_s1 lv14 9 (oI ((-1)))) 1 = some (oI (n)) := s1_ne (by decide) (fun _ => rfl) l1
            replace l2 : px_lg (px_s1 lv14 9 (oI ((-1)))) 2 = some (oI (i)) := s1_ne (by decide) (fun _ => rfl) l2
            replace l3 : px_lg (px_s1 lv14 9 (oI ((-1)))) 3 = some (oI (j)) := s1_ne (by decide) (fun _ => rfl) l3
            replace l4 : px_lg (px_s1 lv14 9 (oI ((-1)))) 4 = some (oI (w)) := s1_ne (by decide) (fun _ => rfl) l4
            replace l5 : px_lg (px_s1 lv14 9 (oI ((-1)))) 5 = some (.inr (.inl (Lw g12 0))) := s1_ne (by decide) (fun z => absurd z (by decide)) l5
            replace l7 : px_lg (px_s1 lv14 9 (oI ((-1)))) 7 = some (.inr (.inl (Int64.ofNat 0))) := s1_ne (by decide) (fun z => absurd z (by decide)) l7
            have l9 : px_lg (px_s1 lv14 9 (oI ((-1)))) 9 = some (oI ((-1))) := s1_eq
            generalize px_s1 lv14 9 (oI ((-1))) = lv15 at l0 l1 l2 l3 l4 l5 l7 l9 ⊢
            show t_X d 243 112 lv15 [] g12 P
            refine t_0 qsy_112 rfl rfl ?_
            refine t_2 qsy_113 rfl (w := (px_s1 lv15 10 (oI ((-1))), [])) rfl ?_
            replace l0 : px_lg (px_s1 lv15 10 (oI ((-1)))) 0 = some (pvR 196) := s1_ne (by decide) (fun _ => rfl) l0
            replace l1 : px_lg (px_s1 lv15 10 (oI ((-1)))) 1 = some (oI (n)) := s1_ne (by decide) (fun _ => rfl) l1
            replace l2 : px_lg (px_s1 lv15 10 (oI ((-1)))) 2 = some (oI (i)) := s1_ne (by decide) (fun _ => rfl) l2
            replace l3 : px_lg (px_s1 lv15 10 (oI ((-1)))) 3 = some (oI (j)) := s1_ne (by decide) (fun _ => rfl) l3
            replace l4 : px_lg (px_s1 lv15 10 (oI ((-1)))) 4 = some (oI (w)) := s1_ne (by decide) (fun _ => rfl) l4
            replace l5 : px_lg (px_s1 lv15 10 (oI ((-1)))) 5 = some (.inr (.inl (Lw g12 0))) := s1_ne (by decide) (fun z => absurd z (by decide)) l5
            replace l7 : px_lg (px_s1 lv15 10 (oI ((-1)))) 7 = some (.inr (.inl (Int64.ofNat 0))) := s1_ne (by decide) (fun z => absurd z (by decide)) l7
            replace l9 : px_lg (px_s1 lv15 10 (oI ((-1)))) 9 = some (oI ((-1))) := s1_ne (by decide) (fun _ => rfl) l9
            have l10 : px_lg (px_s1 lv15 10 (oI ((-1)))) 10 = some (oI ((-1))) := s1_eq
            generalize px_s1 lv15 10 (oI ((-1))) = lv16 at l0 l1 l2 l3 l4 l5 l7 l9 l10 ⊢
            show t_X d 243 115 lv16 [] g12 P
            refine t_0 qsy_115 rfl rfl ?_
            refine t_2 qsy_116 rfl (w := (px_s1 lv16 11 (oI (0)), [])) rfl ?_
            replace l0 : px_lg (px_s1 lv16 11 (oI (0))) 0 = some (pvR 196) := s1_ne (by decide) (fun _ => rfl) l0
            replace l1 : px_lg (px_s1 lv16 11 (oI (0))) 1 = some (oI (n)) := s1_ne (by decide) (fun _ => rfl) l1
            replace l2 : px_lg (px_s1 lv16 11 (oI (0))) 2 = some (oI (i)) := s1_ne (by decide) (fun _ => rfl) l2
            replace l3 : px_lg (px_s1 lv16 11 (oI (0))) 3 = some (oI (j)) := s1_ne (by decide) (fun _ => rfl) l3
            replace l4 : px_lg (px_s1 lv16 11 (oI (0))) 4 = some (oI (w)) := s1_ne (by decide) (fun _ => rfl) l4
            replace l5 : px_lg (px_s1 lv16 11 (oI (0))) 5 = some (.inr (.inl (Lw g12 0))) := s1_ne (by decide) (fun z => absurd z (by decide)) l5
            replace l7 : px_lg (px_s1 lv16 11 (oI (0))) 7 = some (.inr (.inl (Int64.ofNat 0))) := s1_ne (by decide) (fun z => absurd z (by decide)) l7
            replace l9 : px_lg (px_s1 lv16 11 (oI (0))) 9 = some (oI ((-1))) := s1_ne (by decide) (fun _ => rfl) l9
            replace l10 : px_lg (px_s1 lv16 11 (oI (0))) 10 = some (oI ((-1))) := s1_ne (by decide) (fun _ => rfl) l10
            have l11 : px_lg (px_s1 lv16 11 (oI (0))) 11 = some (oI (0)) := s1_eq
            generalize px_s1 lv16 11 (oI (0)) = lv17 at l0 l1 l2 l3 l4 l5 l7 l9 l10 l11 ⊢
            show t_X d 243 118 lv17 [] g12 P
            exact sy_a (by omega) hw (by omega) hP 12 0 _ _ (-1) (-1) _ (by omega) (by omega) (Or.inl ⟨rfl, rfl⟩) hJ12 (by rw [fF_M hA12.2 Wo_1.2.2.2.1, h71]) l0 l1 l4 l5 l7 l9 l10 l11
          · show t_X d 243 54 lv [] g8 P
            refine t_0 qsy_54 rfl (ld_a l0) ?_
            refine t_0 qsy_55 rfl (ld_i l2) ?_
            refine t_3 qsy_56 rfl (ar := ([pvR 196, oI (i)], [])) (pcal_v1 rfl rfl el_196) ⟨by omega, Nat.le_of_ble_eq_true rfl, Nat.le_of_ble_eq_true rfl, rfl⟩ ?_
            refine sa_run hJ8.1 ⟨by omega, by omega⟩ (fun z18 hz18 => ?_) rfl rfl
            have hy18 : -1 ≤ z18 ∧ z18 < 12 := by
              rcases hz18 with h | h
              · omega
              · have := gb_f hJ8.1 (y := 71) rfl rfl gf_71
                omega
            show t_X d 243 59 lv [oI (z18)] g8 P
            refine t_0 qsy_59 rfl rfl ?_
            refine tb_eq qsy_60 (by decide) ⟨by omega, by omega⟩ ⟨by omega, by omega⟩ (fun c19 => ?_) (fun c19 => ?_)
            · show t_X d 243 77 lv [] g8 P
              refine t_0 qsy_77 rfl rfl ?_
              refine t_1 qsy_80 rfl (pb_goto (pc := 80) (by decide)) ?_
              show t_X d 243 97 lv [.inr (.inl (xe_k 9223372036854775805))] g8 P
              refine t_5 qsy_97 rfl rfl ?_
              exact hP _ _ hJ8
            · show t_X d 243 63 lv [] g8 P
              refine t_0 qsy_63 rfl (ld_a l0) ?_
              refine t_0 qsy_64 rfl (ld_i l3) ?_
              refine t_3 qsy_65 rfl (ar := ([pvR 196, oI (j)], [])) (pcal_v1 rfl rfl el_196) ⟨by omega, Nat.le_of_ble_eq_true rfl, Nat.le_of_ble_eq_true rfl, rfl⟩ ?_
              refine sa_run hJ8.1 ⟨by omega, by omega⟩ (fun z20 hz20 => ?_) rfl rfl
              have hy20 : -1 ≤ z20 ∧ z20 < 12 := by
                rcases hz20 with h | h
                · omega
                · have := gb_f hJ8.1 (y := 71) rfl rfl gf_71
                  omega
              show t_X d 243 68 lv [oI (z20)] g8 P
              refine t_0 qsy_68 rfl rfl ?_
              refine tb_eq qsy_69 (by decide) ⟨by omega, by omega⟩ ⟨by omega, by omega⟩ (fun c21 => ?_) (fun c21 => ?_)
              · show t_X d 243 77 lv [] g8 P
                refine t_0 qsy_77 rfl rfl ?_
                refine t_1 qsy_80 rfl (pb_goto (pc := 80) (by decide)) ?_
                show t_X d 243 97 lv [.inr (.inl (xe_k 9223372036854775805))] g8 P
                refine t_5 qsy_97 rfl rfl ?_
                exact hP _ _ hJ8
              · show t_X d 243 72 lv [] g8 P
                refine t_0 qsy_72 rfl (ld_i l2) ?_
                refine t_0 qsy_73 rfl (ld_i l3) ?_
                refine tb_ne qsy_74 (by decide) ⟨by omega, by omega⟩ ⟨by omega, by omega⟩ (fun c22 => ?_) (fun c22 => ?_)
                · show t_X d 243 83 lv [] g8 P
                  refine t_0 qsy_83 rfl (ld_a l0) ?_
                  refine t_0 qsy_84 rfl (ld_a l0) ?_
                  refine t_0 qsy_85 rfl (ld_i l2) ?_
                  refine t_3 qsy_86 rfl (ar := ([pvR 196, oI (i)], [pvR 196])) (pcal_v1 rfl rfl el_196) ⟨by omega, Nat.le_of_ble_eq_true rfl, Nat.le_of_ble_eq_true rfl, rfl⟩ ?_
                  refine sa_run hJ8.1 ⟨by omega, by omega⟩ (fun z23 hz23 => ?_) rfl rfl
                  have hy23 : -1 ≤ z23 ∧ z23 < 12 := by
                    rcases hz23 with h | h
                    · omega
                    · have := gb_f hJ8.1 (y := 71) rfl rfl gf_71
                      omega
                  have hn23 : 0 ≤ z23 := by
                    rcases hz23 with h | h
                    · rcases hz18 with u | u
                      · omega
                      · exact absurd u.2.2 (h.2 z18.toNat (by omega))
                    · exact h.1
                  show t_X d 243 89 lv [oI (z23), pvR 196] g8 P
                  refine t_0 qsy_89 rfl (ld_a l0) ?_
                  refine t_0 qsy_90 rfl (ld_i l3) ?_
                  refine t_3 qsy_91 rfl (ar := ([pvR 196, oI (j)], [oI (z23), pvR 196])) (pcal_v1 rfl rfl el_196) ⟨by omega, Nat.le_of_ble_eq_true rfl, Nat.le_of_ble_eq_true rfl, rfl⟩ ?_
                  refine sa_run hJ8.1 ⟨by omega, by omega⟩ (fun z24 hz24 => ?_) rfl rfl
                  have hy24 : -1 ≤ z24 ∧ z24 < 12 := by
                    rcases hz24 with h | h
                    · omega
                    · have := gb_f hJ8.1 (y := 71) rfl rfl gf_71
                      omega
                  have hn24 : 0 ≤ z24 := by
                    rcases hz24 with h | h
                    · rcases hz20 with u | u
                      · omega
                      · exact absurd u.2.2 (h.2 z20.toNat (by omega))
                    · exact h.1
                  show t_X d 243 94 lv [oI (z24), oI (z23), pvR 196] g8 P
                  refine t_3 qsy_94 rfl (ar := ([pvR 196, oI (z23), oI (z24)], [])) (pcal_v2 rfl rfl el_196) ⟨by omega, Nat.le_of_ble_eq_true rfl, Nat.le_of_ble_eq_true rfl, rfl⟩ ?_
                  refine lo_run (by omega) hs2 h71 (Or.inr ⟨by omega, by omega, by omega, by omega⟩) (fun g25 hA25 hZ25 => ?_) hJ8.1 rfl rfl rfl
                  have hJ25 := J_up Ws_1.2.2.2 hJ8 hA25
                  show t_X d 243 97 lv [.inr (.inl (Lw g25 0))] g25 P
                  refine t_5 qsy_97 rfl rfl ?_
                  exact hP _ _ hJ25
                · show t_X d 243 77 lv [] g8 P
                  refine t_0 qsy_77 rfl rfl ?_
                  refine t_1 qsy_80 rfl (pb_goto (pc := 80) (by decide)) ?_
                  show t_X d 243 97 lv [.inr (.inl (xe_k 9223372036854775805))] g8 P
                  refine t_5 qsy_97 rfl rfl ?_
                  exact hP _ _ hJ8
      · show t_X d 243 28 lv [] g P
        refine t_0 qsy_28 rfl rfl ?_
        refine t_5 qsy_31 rfl rfl ?_
        exact hP _ _ hJ0
    · show t_X d 243 17 lv [oI (0)] g P
      refine tz_eq qsy_17 (by decide) ⟨by omega, by omega⟩ (fun c26 => ?_) (fun c26 => absurd c26 (by omega))
      show t_X d 243 28 lv [] g P
      refine t_0 qsy_28 rfl rfl ?_
      refine t_5 qsy_31 rfl rfl ?_
      exact hP _ _ hJ0
  · show t_X d 243 7 lv [oI (0)] g P
    refine tz_eq qsy_7 (by decide) ⟨by omega, by omega⟩ (fun c27 => ?_) (fun c27 => absurd c27 (by omega))
    show t_X d 243 28 lv [] g P
    refine t_0 qsy_28 rfl rfl ?_
    refine t_5 qsy_31 rfl rfl ?_
    exact hP _ _ hJ0
end
section
/-! by hand: readers, what they share (printed in part by wip/e2/tr.py) -/
theorem qdi_0 : xe_look (xc 203) 0 = some (.aload_n 0, 1, 0, 0, 0) := by decide +kernel
theorem qdi_1 : xe_look (xc 203) 1 = some (.invokevirtual 252, 3, 0, 198, 1137) := by decide +kernel
theorem qdi_4 : xe_look (xc 203) 4 = some (.bipush 48, 2, 0, 0, 0) := by decide +kernel
theorem qdi_6 : xe_look (xc 203) 6 = some (.if_icmp .lt 16, 3, 0, 0, 0) := by decide +kernel
theorem qdi_9 : xe_look (xc 203) 9 = some (.aload_n 0, 1, 0, 0, 0) := by decide +kernel
theorem qdi_10 : xe_look (xc 203) 10 = some (.invokevirtual 252, 3, 0, 198, 1137) := by decide +kernel
theorem qdi_13 : xe_look (xc 203) 13 = some (.bipush 57, 2, 0, 0, 0) := by decide +kernel
theorem qdi_15 : xe_look (xc 203) 15 = some (.if_icmp .gt 7, 3, 0, 0, 0) := by decide +kernel
theorem qdi_18 : xe_look (xc 203) 18 = some (.iconst 1, 1, 0, 0, 0) := by decide +kernel
theorem qdi_19 : xe_look (xc 203) 19 = some (.goto 4, 3, 0, 0, 0) := by decide +kernel
theorem qdi_22 : xe_look (xc 203) 22 = some (.iconst 0, 1, 0, 0, 0) := by decide +kernel
theorem qdi_23 : xe_look (xc 203) 23 = some (.ireturn, 1, 0, 0, 0) := by decide +kernel
theorem qhe_0 : xe_look (xc 198) 0 = some (.aload_n 0, 1, 0, 0, 0) := by decide +kernel
theorem qhe_1 : xe_look (xc 198) 1 = some (.getfield 242, 3, 12, 18, 1135) := by decide +kernel
theorem qhe_4 : xe_look (xc 198) 4 = some (.aload_n 0, 1, 0, 0, 0) := by decide +kernel
theorem qhe_5 : xe_look (xc 198) 5 = some (.getfield 277, 3, 12, 19, 1190) := by decide +kernel
theorem qhe_8 : xe_look (xc 198) 8 = some (.if_icmp .ge 19, 3, 0, 0, 0) := by decide +kernel
theorem qhe_11 : xe_look (xc 198) 11 = some (.aload_n 0, 1, 0, 0, 0) := by decide +kernel
theorem qhe_12 : xe_look (xc 198) 12 = some (.getfield 53, 3, 12, 16, 1134) := by decide +kernel
theorem qhe_15 : xe_look (xc 198) 15 = some (.aload_n 0, 1, 0, 0, 0) := by decide +kernel
theorem qhe_16 : xe_look (xc 198) 16 = some (.getfield 242, 3, 12, 18, 1135) := by decide +kernel
theorem qhe_19 : xe_look (xc 198) 19 = some (.baload, 1, 0, 0, 0) := by decide +kernel
theorem qhe_20 : xe_look (xc 198) 20 = some (.sipush 255, 3, 0, 0, 0) := by decide +kernel
theorem qhe_23 : xe_look (xc 198) 23 = some (.iand, 1, 0, 0, 0) := by decide +kernel
theorem qhe_24 : xe_look (xc 198) 24 = some (.goto 4, 3, 0, 0, 0) := by decide +kernel
theorem qhe_27 : xe_look (xc 198) 27 = some (.iconst (-1), 1, 0, 0, 0) := by decide +kernel
theorem qhe_28 : xe_look (xc 198) 28 = some (.ireturn, 1, 0, 0, 0) := by decide +kernel
theorem qtk_0 : xe_look (xc 260) 0 = some (.aload_n 0, 1, 0, 0, 0) := by decide +kernel
theorem qtk_1 : xe_look (xc 260) 1 = some (.invokevirtual 252, 3, 0, 198, 1137) := by decide +kernel
theorem qtk_4 : xe_look (xc 260) 4 = some (.iload_n 1, 1, 0, 0, 0) := by decide +kernel
theorem qtk_5 : xe_look (xc 260) 5 = some (.if_icmp .eq 13, 3, 0, 0, 0) := by decide +kernel
theorem qtk_8 : xe_look (xc 260) 8 = some (.aload_n 0, 1, 0, 0, 0) := by decide +kernel
theorem qtk_9 : xe_look (xc 260) 9 = some (.iconst 1, 1, 0, 0, 0) := by decide +kernel
theorem qtk_10 : xe_look (xc 260) 10 = some (.aload_n 0, 1, 0, 0, 0) := by decide +kernel
theorem qtk_11 : xe_look (xc 260) 11 = some (.getfield 242, 3, 12, 18, 1135) := by decide +kernel
theorem qtk_14 : xe_look (xc 260) 14 = some (.invokevirtual 256, 3, 0, 274, 1138) := by decide +kernel
theorem qtk_17 : xe_look (xc 260) 17 = some (.ireturn, 1, 0, 0, 0) := by decide +kernel
theorem qtk_18 : xe_look (xc 260) 18 = some (.aload_n 0, 1, 0, 0, 0) := by decide +kernel
theorem qtk_19 : xe_look (xc 260) 19 = some (.aload_n 0, 1, 0, 0, 0) := by decide +kernel
theorem qtk_20 : xe_look (xc 260) 20 = some (.getfield 242, 3, 12, 18, 1135) := by decide +kernel
theorem qtk_23 : xe_look (xc 260) 23 = some (.iconst 1, 1, 0, 0, 0) := by decide +kernel
theorem qtk_24 : xe_look (xc 260) 24 = some (.iadd, 1, 0, 0, 0) := by decide +kernel
theorem qtk_25 : xe_look (xc 260) 25 = some (.putfield 242, 3, 12, 18, 1135) := by decide +kernel
theorem qtk_28 : xe_look (xc 260) 28 = some (.iconst 1, 1, 0, 0, 0) := by decide +kernel
theorem qtk_29 : xe_look (xc 260) 29 = some (.ireturn, 1, 0, 0, 0) := by decide +kernel
theorem qwr_0 : xe_look (xc 274) 0 = some (.aload_n 0, 1, 0, 0, 0) := by decide +kernel
theorem qwr_1 : xe_look (xc 274) 1 = some (.sipush (-1000), 3, 0, 0, 0) := by decide +kernel
theorem qwr_4 : xe_look (xc 274) 4 = some (.iload_n 1, 1, 0, 0, 0) := by decide +kernel
theorem qwr_5 : xe_look (xc 274) 5 = some (.imul, 1, 0, 0, 0) := by decide +kernel
theorem qwr_6 : xe_look (xc 274) 6 = some (.iload_n 2, 1, 0, 0, 0) := by decide +kernel
theorem qwr_7 : xe_look (xc 274) 7 = some (.isub, 1, 0, 0, 0) := by decide +kernel
theorem qwr_8 : xe_look (xc 274) 8 = some (.putfield 286, 3, 12, 20, 1233) := by decide +kernel
theorem qwr_11 : xe_look (xc 274) 11 = some (.iconst 0, 1, 0, 0, 0) := by decide +kernel
theorem qwr_12 : xe_look (xc 274) 12 = some (.ireturn, 1, 0, 0, 0) := by decide +kernel
theorem gf_18 : eG (cn 196 + 18) = ((-2147483648), 2147483647, []) := by decide +kernel
theorem gf_20 : eG (cn 196 + 20) = ((-2147483648), 2147483647, []) := by decide +kernel
def hV (g : pH) : Int := if fF g 18 < fF g 19 then ((Int32.ofInt (fA g 211 (fF g 18).toNat)) &&& (Int32.ofInt 255)).toInt else -1
theorem hV_b (g : pH) : -1 ≤ hV g ∧ hV g ≤ 255 := by
  unfold hV
  split
  · have := eo_and_r (x := Int32.ofInt (fA g 211 (fF g 18).toNat)) (y := Int32.ofInt 255) (by decide)
    have e : (Int32.ofInt 255).toInt = 255 := by decide
    omega
  · omega
theorem hV_n (g : pH) : -1 < hV g → fF g 18 < fF g 19 := by
  intro h
  unfold hV at h
  split at h
  · assumption
  · omega
theorem hV_e {g g1 : pH} (h1 : fF g1 18 = fF g 18) (h2 : fF g1 19 = fF g 19) (h3 : fA g1 211 = fA g 211) : hV g1 = hV g := by
  unfold hV
  rw [h1, h2, h3]
theorem he_run {d : Nat} {g : pH} (hG : g_I eG g) (h0 : 0 ≤ fF g 18) (h1 : fF g 19 ≤ 240) {P : Option pv × pH → Prop} (hP : P (some (oI (hV g)), g)) {lv : List (Nat × pv)} (l0 : px_lg lv 0 = some (pvR 196)) : t_X d 198 0 lv [] g P := by
  have hJ : J_ 0 g g := J_rf hG
  refine t_0 qhe_0 rfl (ld_a l0) ?_
  have r1 := fF_b g 18
  refine t_0 qhe_1 rfl (pq_gf (y := 18) rfl) ?_
  refine t_0 qhe_4 rfl (ld_a l0) ?_
  have r2 := fF_b g 19
  refine t_0 qhe_5 rfl (pq_gf (y := 19) rfl) ?_
  refine tb_ge qhe_8 (by decide) ⟨by omega, by omega⟩ ⟨by omega, by omega⟩ (fun c3 => ?_) (fun c3 => ?_)
  · show t_X d 198 27 lv [] g P
    refine t_0 qhe_27 rfl rfl ?_
    refine t_5 qhe_28 rfl rfl ?_
    have e : hV g = -1 := if_neg (by omega)
    rw [e] at hP
    exact hP
  · show t_X d 198 11 lv [] g P
    refine t_0 qhe_11 rfl (ld_a l0) ?_
    refine t_0 qhe_12 rfl (ar_16 hJ.1) ?_
    refine t_0 qhe_15 rfl (ld_a l0) ?_
    have r4 := fF_b g 18
    refine t_0 qhe_16 rfl (pq_gf (y := 18) rfl) ?_
    refine t_0 qhe_19 rfl (pq_ba el_211 rfl ⟨by omega, by omega⟩) ?_
    have r5 := fA_b g 211 (fF g 18).toNat
    refine t_0 qhe_20 rfl (pq_s (by decide)) ?_
    refine t_0 qhe_23 rfl rfl ?_
    refine t_1 qhe_24 rfl (pb_goto (pc := 24) (by decide)) ?_
    show t_X d 198 28 lv [.inl ((Int32.ofInt (fA g 211 (fF g 18).toNat)) &&& (Int32.ofInt (255)))] g P
    refine t_5 qhe_28 rfl rfl ?_
    rw [oI_r]
    have e : hV g = ((Int32.ofInt (fA g 211 (fF g 18).toNat)) &&& (Int32.ofInt (255))).toInt := if_pos c3
    rw [← e]
    exact hP
theorem di_run {d : Nat} (hd : 1 ≤ d) {g : pH} (hG : g_I eG g) (h0 : 0 ≤ fF g 18) (h3 : fF g 19 ≤ 240) {P : Option pv × pH → Prop} (h1 : 48 ≤ hV g ∧ hV g ≤ 57 → P (some (oI 1), g)) (h2 : hV g < 48 ∨ 57 < hV g → P (some (oI 0), g)) {lv : List (Nat × pv)} (l0 : px_lg lv 0 = some (pvR 196)) : t_X d 203 0 lv [] g P := by
  have hJ : J_ 0 g g := J_rf hG
  refine t_0 qdi_0 rfl (ld_a l0) ?_
  refine t_3 qdi_1 rfl (ar := ([pvR 196], [])) (pcal_v0 rfl rfl el_196) ⟨by omega, Nat.le_of_ble_eq_true rfl, Nat.le_of_ble_eq_true rfl, rfl⟩ ?_
  refine he_run hJ.1 (by omega) (by omega) ?_ rfl
  have hv1 := hV_b g
  have hn1 := hV_n g
  show t_X d 203 4 lv [oI (hV g)] g P
  refine t_0 qdi_4 rfl (pq_b (by decide)) ?_
  refine tb_lt qdi_6 (by decide) ⟨by omega, by omega⟩ ⟨by omega, by omega⟩ (fun c2 => ?_) (fun c2 => ?_)
  · show t_X d 203 22 lv [] g P
    refine t_0 qdi_22 rfl rfl ?_
    refine t_5 qdi_23 rfl rfl ?_
    exact h2 (by omega)
  · show t_X d 203 9 lv [] g P
    refine t_0 qdi_9 rfl (ld_a l0) ?_
    refine t_3 qdi_10 rfl (ar := ([pvR 196], [])) (pcal_v0 rfl rfl el_196) ⟨by omega, Nat.le_of_ble_eq_true rfl, Nat.le_of_ble_eq_true rfl, rfl⟩ ?_
    refine he_run hJ.1 (by omega) (by omega) ?_ rfl
    have hv3 := hV_b g
    have hn3 := hV_n g
    show t_X d 203 13 lv [oI (hV g)] g P
    refine t_0 qdi_13 rfl (pq_b (by decide)) ?_
    refine tb_gt qdi_15 (by decide) ⟨by omega, by omega⟩ ⟨by omega, by omega⟩ (fun c4 => ?_) (fun c4 => ?_)
    · show t_X d 203 22 lv [] g P
      refine t_0 qdi_22 rfl rfl ?_
      refine t_5 qdi_23 rfl rfl ?_
      exact h2 (by omega)
    · show t_X d 203 18 lv [] g P
      refine t_0 qdi_18 rfl rfl ?_
      refine t_1 qdi_19 rfl (pb_goto (pc := 19) (by decide)) ?_
      show t_X d 203 23 lv [oI (1)] g P
      refine t_5 qdi_23 rfl rfl ?_
      exact h1 ⟨by omega, by omega⟩
theorem wr_run {d W : Nat} {h0 g : pH} (hJ : J_ W h0 g) (w_20 : W.testBit (cn 196 + 20) = true) {a b : Int} {P : Option pv × pH → Prop} (hP : ∀ g1 : pH, J_ W h0 g1 → (∀ u, u ≠ 20 → fF g1 u = fF g u) → fA g1 = fA g → P (some (oI 0), g1)) {lv : List (Nat × pv)} (l0 : px_lg lv 0 = some (pvR 196)) (l1 : px_lg lv 1 = some (oI a)) (l2 : px_lg lv 2 = some (oI b)) : t_X d 274 0 lv [] g P := by
  refine t_0 qwr_0 rfl (ld_a l0) ?_
  refine t_0 qwr_1 rfl (pq_s (by decide)) ?_
  refine t_0 qwr_4 rfl (ld_i l1) ?_
  refine t_0 qwr_5 rfl pq_mul ?_
  refine t_0 qwr_6 rfl (ld_i l2) ?_
  refine t_0 qwr_7 rfl pq_sub ?_
  refine tw_fx qwr_8 rfl hJ w_20 gf_20 (fun g1 hJ1 f1 a1 => ?_)
  replace a1 := fA_2 a1
  show t_X d 274 11 lv [] g1 P
  refine t_0 qwr_11 rfl rfl ?_
  refine t_5 qwr_12 rfl rfl ?_
  exact hP _ hJ1 f1 a1
theorem tk_run {d W : Nat} (hd : 1 ≤ d) {h0 g : pH} (hJ : J_ W h0 g) (w_18 : W.testBit (cn 196 + 18) = true) (w_20 : W.testBit (cn 196 + 20) = true) (hp : 0 ≤ fF g 18 ∧ fF g 18 ≤ 240) (hl : fF g 19 ≤ 240) {c : Int} (hc : 0 ≤ c ∧ c ≤ 255) {P : Option pv × pH → Prop} (h1 : ∀ g1 : pH, fF g1 18 = fF g 18 + 1 → fF g 18 < fF g 19 → J_ W h0 g1 → (∀ u, u ≠ 18 → fF g1 u = fF g u) → fA g1 = fA g → P (some (oI 1), g1)) (h2 : ∀ g1 : pH, J_ W h0 g1 → P (some (oI 0), g1)) {lv : List (Nat × pv)} (l0 : px_lg lv 0 = some (pvR 196)) (l1 : px_lg lv 1 = some (oI c)) : t_X d 260 0 lv [] g P := by
  refine t_0 qtk_0 rfl (ld_a l0) ?_
  refine t_3 qtk_1 rfl (ar := ([pvR 196], [])) (pcal_v0 rfl rfl el_196) ⟨by omega, Nat.le_of_ble_eq_true rfl, Nat.le_of_ble_eq_true rfl, rfl⟩ ?_
  refine he_run hJ.1 (by omega) (by omega) ?_ rfl
  have hv1 := hV_b g
  have hn1 := hV_n g
  show t_X d 260 4 lv [oI (hV g)] g P
  refine t_0 qtk_4 rfl (ld_i l1) ?_
  refine tb_eq qtk_5 (by decide) ⟨by omega, by omega⟩ ⟨by omega, by omega⟩ (fun c2 => ?_) (fun c2 => ?_)
  · show t_X d 260 18 lv [] g P
    refine t_0 qtk_18 rfl (ld_a l0) ?_
    refine t_0 qtk_19 rfl (ld_a l0) ?_
    have r3 := fF_b g 18
    refine t_0 qtk_20 rfl (pq_gf (y := 18) rfl) ?_
    refine t_0 qtk_23 rfl rfl ?_
    refine t_0 qtk_24 rfl pq_add ?_
    refine tw_f qtk_25 rfl hJ w_18 gf_18 (by decide) ⟨by omega, by omega⟩ (fun g4 hJ4 v4 f4 a4 => ?_)
    replace a4 := fA_2 a4
    show t_X d 260 28 lv [] g4 P
    refine t_0 qtk_28 rfl rfl ?_
    refine t_5 qtk_29 rfl rfl ?_
    exact h1 _ (by omega) (by omega) hJ4 f4 a4
  · show t_X d 260 8 lv [] g P
    refine t_0 qtk_8 rfl (ld_a l0) ?_
    refine t_0 qtk_9 rfl rfl ?_
    refine t_0 qtk_10 rfl (ld_a l0) ?_
    have r5 := fF_b g 18
    refine t_0 qtk_11 rfl (pq_gf (y := 18) rfl) ?_
    refine t_3 qtk_14 rfl (ar := ([pvR 196, oI (1), oI (fF g 18)], [])) (pcal_v2 rfl rfl el_196) ⟨by omega, Nat.le_of_ble_eq_true rfl, Nat.le_of_ble_eq_true rfl, rfl⟩ ?_
    refine wr_run hJ w_20 (fun g6 hJ6 f6 a6 => ?_) rfl rfl rfl
    show t_X d 260 17 lv [oI (0)] g6 P
    refine t_5 qtk_17 rfl rfl ?_
    exact h2 _ hJ6
end
