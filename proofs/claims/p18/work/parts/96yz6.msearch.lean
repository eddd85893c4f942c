/-! turning: the reference: the search of all rows (printed by wip/e2/x28.py) -/
theorem vlt_0 : xe_look (xc 216) 0 = some (.iconst 1, 1, 0, 0, 0) := by decide +kernel
theorem vlt_1 : xe_look (xc 216) 1 = some (.istore_n 2, 1, 0, 0, 0) := by decide +kernel
theorem vlt_2 : xe_look (xc 216) 2 = some (.iload_n 2, 1, 0, 0, 0) := by decide +kernel
theorem vlt_3 : xe_look (xc 216) 3 = some (.bipush 8, 2, 0, 0, 0) := by decide +kernel
theorem vlt_5 : xe_look (xc 216) 5 = some (.if_icmp .ge 25, 3, 0, 0, 0) := by decide +kernel
theorem vlt_8 : xe_look (xc 216) 8 = some (.aload_n 0, 1, 0, 0, 0) := by decide +kernel
theorem vlt_9 : xe_look (xc 216) 9 = some (.getfield 110, 3, 12, 56, 1199) := by decide +kernel
theorem vlt_12 : xe_look (xc 216) 12 = some (.iload_n 2, 1, 0, 0, 0) := by decide +kernel
theorem vlt_13 : xe_look (xc 216) 13 = some (.aload_n 0, 1, 0, 0, 0) := by decide +kernel
theorem vlt_14 : xe_look (xc 216) 14 = some (.iload_n 1, 1, 0, 0, 0) := by decide +kernel
theorem vlt_15 : xe_look (xc 216) 15 = some (.iload_n 2, 1, 0, 0, 0) := by decide +kernel
theorem vlt_16 : xe_look (xc 216) 16 = some (.bipush 116, 2, 0, 0, 0) := by decide +kernel
theorem vlt_18 : xe_look (xc 216) 18 = some (.bipush 99, 2, 0, 0, 0) := by decide +kernel
theorem vlt_20 : xe_look (xc 216) 20 = some (.invokevirtual 391, 3, 0, 169, 1234) := by decide +kernel
theorem vlt_23 : xe_look (xc 216) 23 = some (.iastore, 1, 0, 0, 0) := by decide +kernel
theorem vlt_24 : xe_look (xc 216) 24 = some (.iinc 2 1, 3, 0, 0, 0) := by decide +kernel
theorem vlt_27 : xe_look (xc 216) 27 = some (.goto (-25), 3, 0, 0, 0) := by decide +kernel
theorem vlt_30 : xe_look (xc 216) 30 = some (.aload_n 0, 1, 0, 0, 0) := by decide +kernel
theorem vlt_31 : xe_look (xc 216) 31 = some (.aload_n 0, 1, 0, 0, 0) := by decide +kernel
theorem vlt_32 : xe_look (xc 216) 32 = some (.iload_n 1, 1, 0, 0, 0) := by decide +kernel
theorem vlt_33 : xe_look (xc 216) 33 = some (.iconst 0, 1, 0, 0, 0) := by decide +kernel
theorem vlt_34 : xe_look (xc 216) 34 = some (.invokevirtual 236, 3, 0, 166, 1237) := by decide +kernel
theorem vlt_37 : xe_look (xc 216) 37 = some (.putfield 444, 3, 12, 61, 1238) := by decide +kernel
theorem vlt_40 : xe_look (xc 216) 40 = some (.aload_n 0, 1, 0, 0, 0) := by decide +kernel
theorem vlt_41 : xe_look (xc 216) 41 = some (.ldc2_w 447, 3, 0, 9223372036854775807, 1185) := by decide +kernel
theorem vlt_44 : xe_look (xc 216) 44 = some (.putfield 449, 3, 12, 62, 1239) := by decide +kernel
theorem vlt_47 : xe_look (xc 216) 47 = some (.aload_n 0, 1, 0, 0, 0) := by decide +kernel
theorem vlt_48 : xe_look (xc 216) 48 = some (.getfield 119, 3, 12, 59, 1202) := by decide +kernel
theorem vlt_51 : xe_look (xc 216) 51 = some (.iconst 0, 1, 0, 0, 0) := by decide +kernel
theorem vlt_52 : xe_look (xc 216) 52 = some (.iconst 1, 1, 0, 0, 0) := by decide +kernel
theorem vlt_53 : xe_look (xc 216) 53 = some (.iastore, 1, 0, 0, 0) := by decide +kernel
theorem vlt_54 : xe_look (xc 216) 54 = some (.aload_n 0, 1, 0, 0, 0) := by decide +kernel
theorem vlt_55 : xe_look (xc 216) 55 = some (.getfield 122, 3, 12, 60, 1203) := by decide +kernel
theorem vlt_58 : xe_look (xc 216) 58 = some (.iconst 0, 1, 0, 0, 0) := by decide +kernel
theorem vlt_59 : xe_look (xc 216) 59 = some (.iconst 0, 1, 0, 0, 0) := by decide +kernel
theorem vlt_60 : xe_look (xc 216) 60 = some (.iastore, 1, 0, 0, 0) := by decide +kernel
theorem vlt_61 : xe_look (xc 216) 61 = some (.aload_n 0, 1, 0, 0, 0) := by decide +kernel
theorem vlt_62 : xe_look (xc 216) 62 = some (.getfield 113, 3, 12, 57, 1200) := by decide +kernel
theorem vlt_65 : xe_look (xc 216) 65 = some (.iconst 0, 1, 0, 0, 0) := by decide +kernel
theorem vlt_66 : xe_look (xc 216) 66 = some (.iconst 0, 1, 0, 0, 0) := by decide +kernel
theorem vlt_67 : xe_look (xc 216) 67 = some (.iastore, 1, 0, 0, 0) := by decide +kernel
theorem vlt_68 : xe_look (xc 216) 68 = some (.iconst 0, 1, 0, 0, 0) := by decide +kernel
theorem vlt_69 : xe_look (xc 216) 69 = some (.istore_n 2, 1, 0, 0, 0) := by decide +kernel
theorem vlt_70 : xe_look (xc 216) 70 = some (.iload_n 2, 1, 0, 0, 0) := by decide +kernel
theorem vlt_71 : xe_look (xc 216) 71 = some (.ifCond .lt 123, 3, 0, 0, 0) := by decide +kernel
theorem vlt_74 : xe_look (xc 216) 74 = some (.aload_n 0, 1, 0, 0, 0) := by decide +kernel
theorem vlt_75 : xe_look (xc 216) 75 = some (.getfield 113, 3, 12, 57, 1200) := by decide +kernel
theorem vlt_78 : xe_look (xc 216) 78 = some (.iload_n 2, 1, 0, 0, 0) := by decide +kernel
theorem vlt_79 : xe_look (xc 216) 79 = some (.aload_n 0, 1, 0, 0, 0) := by decide +kernel
theorem vlt_80 : xe_look (xc 216) 80 = some (.getfield 113, 3, 12, 57, 1200) := by decide +kernel
theorem vlt_83 : xe_look (xc 216) 83 = some (.iload_n 2, 1, 0, 0, 0) := by decide +kernel
theorem vlt_84 : xe_look (xc 216) 84 = some (.iaload, 1, 0, 0, 0) := by decide +kernel
theorem vlt_85 : xe_look (xc 216) 85 = some (.iconst 1, 1, 0, 0, 0) := by decide +kernel
theorem vlt_86 : xe_look (xc 216) 86 = some (.iadd, 1, 0, 0, 0) := by decide +kernel
theorem vlt_87 : xe_look (xc 216) 87 = some (.iastore, 1, 0, 0, 0) := by decide +kernel
theorem vlt_88 : xe_look (xc 216) 88 = some (.aload_n 0, 1, 0, 0, 0) := by decide +kernel
theorem vlt_89 : xe_look (xc 216) 89 = some (.getfield 113, 3, 12, 57, 1200) := by decide +kernel
theorem vlt_92 : xe_look (xc 216) 92 = some (.iload_n 2, 1, 0, 0, 0) := by decide +kernel
theorem vlt_93 : xe_look (xc 216) 93 = some (.iaload, 1, 0, 0, 0) := by decide +kernel
theorem vlt_94 : xe_look (xc 216) 94 = some (.bipush 8, 2, 0, 0, 0) := by decide +kernel
theorem vlt_96 : xe_look (xc 216) 96 = some (.if_icmp .ne 10, 3, 0, 0, 0) := by decide +kernel
theorem vlt_99 : xe_look (xc 216) 99 = some (.iload_n 2, 1, 0, 0, 0) := by decide +kernel
theorem vlt_100 : xe_look (xc 216) 100 = some (.iconst 1, 1, 0, 0, 0) := by decide +kernel
theorem vlt_101 : xe_look (xc 216) 101 = some (.isub, 1, 0, 0, 0) := by decide +kernel
theorem vlt_102 : xe_look (xc 216) 102 = some (.istore_n 2, 1, 0, 0, 0) := by decide +kernel
theorem vlt_103 : xe_look (xc 216) 103 = some (.goto (-33), 3, 0, 0, 0) := by decide +kernel
theorem vlt_106 : xe_look (xc 216) 106 = some (.aload_n 0, 1, 0, 0, 0) := by decide +kernel
theorem vlt_107 : xe_look (xc 216) 107 = some (.getfield 122, 3, 12, 60, 1203) := by decide +kernel
theorem vlt_110 : xe_look (xc 216) 110 = some (.iload_n 2, 1, 0, 0, 0) := by decide +kernel
theorem vlt_111 : xe_look (xc 216) 111 = some (.iaload, 1, 0, 0, 0) := by decide +kernel
theorem vlt_112 : xe_look (xc 216) 112 = some (.aload_n 0, 1, 0, 0, 0) := by decide +kernel
theorem vlt_113 : xe_look (xc 216) 113 = some (.getfield 113, 3, 12, 57, 1200) := by decide +kernel
theorem vlt_116 : xe_look (xc 216) 116 = some (.iload_n 2, 1, 0, 0, 0) := by decide +kernel
theorem vlt_117 : xe_look (xc 216) 117 = some (.iaload, 1, 0, 0, 0) := by decide +kernel
theorem vlt_118 : xe_look (xc 216) 118 = some (.invokestatic 218, 3, 0, 172, 1240) := by decide +kernel
theorem vlt_121 : xe_look (xc 216) 121 = some (.istore_n 3, 1, 0, 0, 0) := by decide +kernel
theorem vlt_122 : xe_look (xc 216) 122 = some (.aload_n 0, 1, 0, 0, 0) := by decide +kernel
theorem vlt_123 : xe_look (xc 216) 123 = some (.getfield 119, 3, 12, 59, 1202) := by decide +kernel
theorem vlt_126 : xe_look (xc 216) 126 = some (.iload_n 2, 1, 0, 0, 0) := by decide +kernel
theorem vlt_127 : xe_look (xc 216) 127 = some (.iaload, 1, 0, 0, 0) := by decide +kernel
theorem vlt_128 : xe_look (xc 216) 128 = some (.iload_n 3, 1, 0, 0, 0) := by decide +kernel
theorem vlt_129 : xe_look (xc 216) 129 = some (.invokestatic 187, 3, 0, 196, 1121) := by decide +kernel
theorem vlt_132 : xe_look (xc 216) 132 = some (.ifCond .eq 6, 3, 0, 0, 0) := by decide +kernel
theorem vlt_135 : xe_look (xc 216) 135 = some (.goto (-65), 3, 0, 0, 0) := by decide +kernel
theorem vlt_138 : xe_look (xc 216) 138 = some (.iload_n 2, 1, 0, 0, 0) := by decide +kernel
theorem vlt_139 : xe_look (xc 216) 139 = some (.bipush 6, 2, 0, 0, 0) := by decide +kernel
theorem vlt_141 : xe_look (xc 216) 141 = some (.if_icmp .ne 10, 3, 0, 0, 0) := by decide +kernel
theorem vlt_144 : xe_look (xc 216) 144 = some (.aload_n 0, 1, 0, 0, 0) := by decide +kernel
theorem vlt_145 : xe_look (xc 216) 145 = some (.invokevirtual 453, 3, 0, 224, 1241) := by decide +kernel
theorem vlt_148 : xe_look (xc 216) 148 = some (.goto (-78), 3, 0, 0, 0) := by decide +kernel
theorem vlt_151 : xe_look (xc 216) 151 = some (.aload_n 0, 1, 0, 0, 0) := by decide +kernel
theorem vlt_152 : xe_look (xc 216) 152 = some (.getfield 119, 3, 12, 59, 1202) := by decide +kernel
theorem vlt_155 : xe_look (xc 216) 155 = some (.iload_n 2, 1, 0, 0, 0) := by decide +kernel
theorem vlt_156 : xe_look (xc 216) 156 = some (.iconst 1, 1, 0, 0, 0) := by decide +kernel
theorem vlt_157 : xe_look (xc 216) 157 = some (.iadd, 1, 0, 0, 0) := by decide +kernel
theorem vlt_158 : xe_look (xc 216) 158 = some (.aload_n 0, 1, 0, 0, 0) := by decide +kernel
theorem vlt_159 : xe_look (xc 216) 159 = some (.getfield 119, 3, 12, 59, 1202) := by decide +kernel
theorem vlt_162 : xe_look (xc 216) 162 = some (.iload_n 2, 1, 0, 0, 0) := by decide +kernel
theorem vlt_163 : xe_look (xc 216) 163 = some (.iaload, 1, 0, 0, 0) := by decide +kernel
theorem vlt_164 : xe_look (xc 216) 164 = some (.iconst 1, 1, 0, 0, 0) := by decide +kernel
theorem vlt_165 : xe_look (xc 216) 165 = some (.iload_n 3, 1, 0, 0, 0) := by decide +kernel
theorem vlt_166 : xe_look (xc 216) 166 = some (.ishl, 1, 0, 0, 0) := by decide +kernel
theorem vlt_167 : xe_look (xc 216) 167 = some (.ior, 1, 0, 0, 0) := by decide +kernel
theorem vlt_168 : xe_look (xc 216) 168 = some (.iastore, 1, 0, 0, 0) := by decide +kernel
theorem vlt_169 : xe_look (xc 216) 169 = some (.aload_n 0, 1, 0, 0, 0) := by decide +kernel
theorem vlt_170 : xe_look (xc 216) 170 = some (.getfield 122, 3, 12, 60, 1203) := by decide +kernel
theorem vlt_173 : xe_look (xc 216) 173 = some (.iload_n 2, 1, 0, 0, 0) := by decide +kernel
theorem vlt_174 : xe_look (xc 216) 174 = some (.iconst 1, 1, 0, 0, 0) := by decide +kernel
theorem vlt_175 : xe_look (xc 216) 175 = some (.iadd, 1, 0, 0, 0) := by decide +kernel
theorem vlt_176 : xe_look (xc 216) 176 = some (.iload_n 3, 1, 0, 0, 0) := by decide +kernel
theorem vlt_177 : xe_look (xc 216) 177 = some (.iastore, 1, 0, 0, 0) := by decide +kernel
theorem vlt_178 : xe_look (xc 216) 178 = some (.aload_n 0, 1, 0, 0, 0) := by decide +kernel
theorem vlt_179 : xe_look (xc 216) 179 = some (.getfield 113, 3, 12, 57, 1200) := by decide +kernel
theorem vlt_182 : xe_look (xc 216) 182 = some (.iload_n 2, 1, 0, 0, 0) := by decide +kernel
theorem vlt_183 : xe_look (xc 216) 183 = some (.iconst 1, 1, 0, 0, 0) := by decide +kernel
theorem vlt_184 : xe_look (xc 216) 184 = some (.iadd, 1, 0, 0, 0) := by decide +kernel
theorem vlt_185 : xe_look (xc 216) 185 = some (.iconst 0, 1, 0, 0, 0) := by decide +kernel
theorem vlt_186 : xe_look (xc 216) 186 = some (.iastore, 1, 0, 0, 0) := by decide +kernel
theorem vlt_187 : xe_look (xc 216) 187 = some (.iload_n 2, 1, 0, 0, 0) := by decide +kernel
theorem vlt_188 : xe_look (xc 216) 188 = some (.iconst 1, 1, 0, 0, 0) := by decide +kernel
theorem vlt_189 : xe_look (xc 216) 189 = some (.iadd, 1, 0, 0, 0) := by decide +kernel
theorem vlt_190 : xe_look (xc 216) 190 = some (.istore_n 2, 1, 0, 0, 0) := by decide +kernel
theorem vlt_191 : xe_look (xc 216) 191 = some (.goto (-121), 3, 0, 0, 0) := by decide +kernel
theorem vlt_194 : xe_look (xc 216) 194 = some (.return_, 1, 0, 0, 0) := by decide +kernel
def upR (ρ : Nat → Nat) (k t : Nat) : Nat → Nat := fun i => if i = k then t else ρ i
theorem upR_k {ρ : Nat → Nat} {k t : Nat} : upR ρ k t k = t := if_pos rfl
theorem upR_n {ρ : Nat → Nat} {k t i : Nat} (h : i ≠ k) : upR ρ k t i = ρ i := if_neg h
theorem upR_b {ρ : Nat → Nat} {k t : Nat} (hρ : ∀ i, 1 ≤ ρ i ∧ ρ i < 8) (ht : 1 ≤ t ∧ t < 8) : ∀ i, 1 ≤ upR ρ k t i ∧ upR ρ k t i < 8 := fun i => by
  unfold upR
  split
  · exact ht
  · exact hρ i
theorem upR_l {ρ : Nat → Nat} {k t i : Nat} (hi : i ≤ k) : lSw (upR ρ k t) i = lSw ρ i := lS_e i (fun j hj => upR_n (by omega))
theorem upR_s {ρ : Nat → Nat} {k t i : Nat} (hi : i ≤ k) : sS (upR ρ k t) i = sS ρ i := sS_e i (fun j hj => upR_n (by omega))
theorem upR_l1 {ρ : Nat → Nat} {k t : Nat} : lSw (upR ρ k t) (k + 1) = cpW (lSw ρ k) t := by
  show cpW (lSw (upR ρ k t) k) (upR ρ k t k) = _
  rw [upR_l (Nat.le_refl k), upR_k]
theorem upR_s1 {ρ : Nat → Nat} {k t : Nat} : sS (upR ρ k t) (k + 1) = sS ρ k ||| 2 ^ cpW (lSw ρ k) t := by
  show sS (upR ρ k t) k ||| 2 ^ lSw (upR ρ k t) (k + 1) = _
  rw [upR_s (Nat.le_refl k), upR_l1]
theorem upR_c {h tk : Nat → Int} {rt : Nat → Bool} {ρ : Nat → Nat} {k t : Nat} : cK h tk rt (upR ρ k t) (k + 1) = cK h tk rt ρ k + oO h rt (sS ρ k) * tk t := by
  show cK h tk rt (upR ρ k t) k + oO h rt (sS (upR ρ k t) k) * tk (upR ρ k t k) = _
  rw [cK_e k (fun j hj => upR_n (by omega)), upR_s (Nat.le_refl k), upR_k]
theorem upR_p {ρ : Nat → Nat} {k t : Nat} : pK (upR ρ k t) (k + 1) = pK ρ k ++ [t] := by
  show pK (upR ρ k t) k ++ [upR ρ k t k] = _
  rw [pK_e k (fun j hj => upR_n (by omega)), upR_k]
/-- a level of the search, a turn at the last place -/
theorem ds_0 {h tk : Nat → Int} {rt : Nat → Bool} {ρ : Nat → Nat} {k r j : Nat} {st : rO} (ej : r + 1 = 7 - j) (hf : (sS ρ k).testBit (cpW (lSw ρ k) (r + 1)) = false) : mB st (cM (cK h tk rt ρ k) (pK ρ k) (gR h tk rt (gG h tk rt 0) (sS ρ k) (lSw ρ k) (j + 1))) = mB (mB st (some (cK h tk rt (upR ρ k (r + 1)) (k + 1), pK (upR ρ k (r + 1)) (k + 1)))) (cM (cK h tk rt ρ k) (pK ρ k) (gR h tk rt (gG h tk rt 0) (sS ρ k) (lSw ρ k) j)) := by
  rw [ej] at hf ⊢
  rw [gR_out hf, mB_a, upR_c, upR_p]
  have e : cM (cK h tk rt ρ k + oO h rt (sS ρ k) * tk (7 - j)) (pK ρ k ++ [7 - j]) (gG h tk rt 0 (sS ρ k ||| 2 ^ cpW (lSw ρ k) (7 - j)) (cpW (lSw ρ k) (7 - j))) = some (cK h tk rt ρ k + oO h rt (sS ρ k) * tk (7 - j), pK ρ k ++ [7 - j]) := by
    show some (_ + (0 : Int), _ ++ ([] : List Nat)) = _
    rw [Int.add_zero, List.append_nil]
  rw [e]
/-- a turn with more behind it -/
theorem ds_1 {h tk : Nat → Int} {rt : Nat → Bool} {ρ : Nat → Nat} {k r j n : Nat} {st : rO} (ej : r + 1 = 7 - j) (hf : (sS ρ k).testBit (cpW (lSw ρ k) (r + 1)) = false) : mB st (cM (cK h tk rt ρ k) (pK ρ k) (gR h tk rt (gG h tk rt (n + 1)) (sS ρ k) (lSw ρ k) (j + 1))) = mB (mB st (cM (cK h tk rt (upR ρ k (r + 1)) (k + 1)) (pK (upR ρ k (r + 1)) (k + 1)) (gR h tk rt (gG h tk rt n) (sS (upR ρ k (r + 1)) (k + 1)) (lSw (upR ρ k (r + 1)) (k + 1)) 7))) (cM (cK h tk rt ρ k) (pK ρ k) (gR h tk rt (gG h tk rt (n + 1)) (sS ρ k) (lSw ρ k) j)) := by
  rw [ej] at hf ⊢
  rw [gR_out hf, mB_a, upR_c, upR_p, upR_s1, upR_l1]
  rfl
def tW9 : Nat := mW9 ||| 2 ^ cn 230
theorem tQ_n : (mW9 &&& tW9 = mW9) ∧ tW9.testBit (cn 230) = true ∧ mW9.testBit (cn 230) = false ∧ (tW9.testBit (cn 196 + 35) = false ∧ tW9.testBit (cn 222) = false ∧ tW9.testBit (cn 223) = false ∧ tW9.testBit (cn 224) = false ∧ tW9.testBit (cn 225) = false ∧ tW9.testBit (cn 226) = false) ∧ (tW9.testBit (cn 199) = false ∧ tW9.testBit (cn 200) = false ∧ tW9.testBit (cn 201) = false ∧ tW9.testBit (cn 202) = false ∧ tW9.testBit (cn 210) = false ∧ tW9.testBit (cn 229) = false) ∧ tW9.testBit (cn 196 + 49) = false := by decide +kernel
theorem tB_n : (2 ^ (cn 196 + 62)).testBit (cn 196 + 61) = false ∧ ((2 ^ (cn 196 + 62)).testBit (cn 230) = false ∧ (2 ^ (cn 196 + 61)).testBit (cn 230) = false ∧ (2 ^ (cn 196 + 62)).testBit (cn 229) = false ∧ (2 ^ (cn 196 + 61)).testBit (cn 229) = false) := by decide +kernel
theorem yteo_196 : eL[196]? = some (0, 12) := by decide +kernel
theorem ytgu_230 : eG (cn 230) = ((-2147483648), 2147483647, []) := by decide +kernel
theorem ytgu_231 : eG (cn 231) = ((-2147483648), 2147483647, []) := by decide +kernel
theorem ytgu_233 : eG (cn 233) = ((-2147483648), 2147483647, []) := by decide +kernel
theorem ytgu_234 : eG (cn 234) = ((-2147483648), 2147483647, []) := by decide +kernel
theorem ytgy_196_61 : eG (cn 196 + 61) = (0, 255, []) := by decide +kernel
theorem ytgy_196_62 : eG (cn 196 + 62) = ((-9223372036854775808), 9223372036854775807, []) := by decide +kernel
theorem ytch_196_56 : (eG (cn 196 + 56)).2.2 = [231] := by decide +kernel
theorem ytcq_196_56 {d i : Nat} {lv : List (Nat × pv)} {r : List pv} {g : pH} (hG : g_I eG g) : px_push eL d none (.getfield i) 12 56 lv (pvR 196 :: r) g = some (pvR 230 :: r) := pget yteo_196 (gI_r (r := 230) hG yteo_196 (Nat.le_of_ble_eq_true rfl) (y := 56) rfl ytch_196_56)
theorem ytch_196_57 : (eG (cn 196 + 57)).2.2 = [232] := by decide +kernel
theorem ytcq_196_57 {d i : Nat} {lv : List (Nat × pv)} {r : List pv} {g : pH} (hG : g_I eG g) : px_push eL d none (.getfield i) 12 57 lv (pvR 196 :: r) g = some (pvR 231 :: r) := pget yteo_196 (gI_r (r := 231) hG yteo_196 (Nat.le_of_ble_eq_true rfl) (y := 57) rfl ytch_196_57)
theorem ytch_196_59 : (eG (cn 196 + 59)).2.2 = [234] := by decide +kernel
theorem ytcq_196_59 {d i : Nat} {lv : List (Nat × pv)} {r : List pv} {g : pH} (hG : g_I eG g) : px_push eL d none (.getfield i) 12 59 lv (pvR 196 :: r) g = some (pvR 233 :: r) := pget yteo_196 (gI_r (r := 233) hG yteo_196 (Nat.le_of_ble_eq_true rfl) (y := 59) rfl ytch_196_59)
theorem ytch_196_60 : (eG (cn 196 + 60)).2.2 = [235] := by decide +kernel
theorem ytcq_196_60 {d i : Nat} {lv : List (Nat × pv)} {r : List pv} {g : pH} (hG : g_I eG g) : px_push eL d none (.getfield i) 12 60 lv (pvR 196 :: r) g = some (pvR 234 :: r) := pget yteo_196 (gI_r (r := 234) hG yteo_196 (Nat.le_of_ble_eq_true rfl) (y := 60) rfl ytch_196_60)
theorem ytez_230 : eL[230]? = some (1, 8) := by decide +kernel
theorem ytez_231 : eL[231]? = some (1, 7) := by decide +kernel
theorem ytez_233 : eL[233]? = some (1, 7) := by decide +kernel
theorem ytez_234 : eL[234]? = some (1, 7) := by decide +kernel
theorem wu_wR9_231 : wR9.testBit (cn 231) = true := by decide +kernel
theorem wu_wR9_233 : wR9.testBit (cn 233) = true := by decide +kernel
theorem wu_wR9_234 : wR9.testBit (cn 234) = true := by decide +kernel
set_option maxHeartbeats 4000000 in
theorem vds_loop {h tk : Nat → Int} {rt : Nat → Bool} (hh : ∀ w, 0 ≤ h w ∧ h w ≤ 99) (ht : ∀ t, 0 ≤ tk t ∧ tk t ≤ 99) {gB : pH} (hR : cF gB 196 61 = ((rB rt 8 : Nat) : Int)) (hT : ∀ j, 1 ≤ j → j < 8 → fA gB 230 j = tk j) (hH : ∀ j, j < 8 → fA gB 229 j = h j) {d : Nat} (hd : 3 ≤ d) {P : Option pv × pH → Prop} : ∀ (n k : Nat), k + n = 6 → ∀ (j r : Nat), r + j = 7 → ∀ (ρ : Nat → Nat), (∀ i, 1 ≤ ρ i ∧ ρ i < 8) → ∀ (st : rO) (g : pH) (lv : List (Nat × pv)), J_ wS9 gB g → (∀ i, i < k → fA g 231 i = ((ρ i : Nat) : Int)) → fA g 231 k = (r : Int) → (∀ i, i ≤ k → fA g 233 i = ((sS ρ i : Nat) : Int)) → (∀ i, i ≤ k → fA g 234 i = ((lSw ρ i : Nat) : Int)) → stR g st → px_lg lv 0 = some (pvR 196) → px_lg lv 2 = some (oI (k : Int)) → (∀ (g' : pH) (lv' : List (Nat × pv)), J_ wS9 gB g' → (∀ i, i < k → fA g' 231 i = ((ρ i : Nat) : Int)) → (∀ i, i ≤ k → fA g' 233 i = ((sS ρ i : Nat) : Int)) → (∀ i, i ≤ k → fA g' 234 i = ((lSw ρ i : Nat) : Int)) → stR g' (mB st (cM (cK h tk rt ρ k) (pK ρ k) (gR h tk rt (gG h tk rt n) (sS ρ k) (lSw ρ k) j))) → px_lg lv' 0 = some (pvR 196) → px_lg lv' 2 = some (oI ((k : Int) - 1)) → t_X d 216 70 lv' [] g' P) → t_X d 216 70 lv [] g P := by
  intro n
  induction n with
  | zero =>
    intro k ek j
    have k6 : k = 6 := by omega
    induction j with
    | zero =>
      intro r er ρ hρ st g lv hJ hW hr hs2 hc2 hst l0 l2 hP
      have hρ8 : ∀ i, ρ i < 8 := fun i => (hρ i).2
      have hS : sE [] [231, 233, 234] wR9 g g [] [fA g 231, fA g 233, fA g 234] := S_0 hJ.1
      refine t_0 vlt_70 rfl (ld_i l2) ?_
      refine tz_lt vlt_71 (by decide) ⟨by omega, by omega⟩ (fun c1 => absurd c1 (by omega)) (fun c1 => ?_)
      show t_X d 216 74 lv [] g P
      refine t_0 vlt_74 rfl (ld_a l0) ?_
      refine t_0 vlt_75 rfl (ytcq_196_57 (S_J hS).1) ?_
      show t_X d 216 78 lv [pvR 231] g P
      refine t_0 vlt_78 rfl (ld_i l2) ?_
      refine t_0 vlt_79 rfl (ld_a l0) ?_
      refine t_0 vlt_80 rfl (ytcq_196_57 (S_J hS).1) ?_
      show t_X d 216 83 lv [pvR 231, oI ((k : Int)), pvR 231] g P
      refine t_0 vlt_83 rfl (ld_i l2) ?_
      refine t_0 vlt_84 rfl (pq_iw ytez_231 rfl ⟨by omega, by omega⟩ ((congrFun (show fA g 231 = fA g 231 from S_a hS 0 (Nat.le_of_ble_eq_true rfl)) k).trans hr)) ?_
      show t_X d 216 85 lv [oI ((r : Int)), oI ((k : Int)), pvR 231] g P
      refine t_0 vlt_85 rfl rfl ?_
      refine t_0 vlt_86 rfl pq_add ?_
      refine ts_a (n := 0) rfl rfl (by decide) vlt_87 hS ytez_231 rfl wu_wR9_231 ytgu_231 (by decide) ⟨by omega, by omega⟩ ⟨by omega, by omega⟩ (fun g2 hS2 => ?_)
      replace hS2 : sE [] [231, 233, 234] wR9 g g2 [] [updI (fA g 231) (k : Int).toNat ((r : Int) + 1), fA g 233, fA g 234] := hS2
      obtain ⟨c231_12, ec231_12⟩ : ∃ z : Nat → Int, z = updI (fA g 231) (k : Int).toNat ((r : Int) + 1) := ⟨_, rfl⟩
      rw [← ec231_12] at hS2
      replace hS2 : sE [] [231, 233, 234] wR9 g g2 [] [c231_12, fA g 233, fA g 234] := hS2
      have fc231_12 : c231_12 k = (r : Int) + 1 := by rw [ec231_12]; exact if_pos rfl
      have nc231_12 : ∀ j, j ≠ k → c231_12 j = fA g 231 j := fun j hj => by rw [ec231_12]; exact if_neg hj
      show t_X d 216 88 lv [] g2 P
      refine t_0 vlt_88 rfl (ld_a l0) ?_
      refine t_0 vlt_89 rfl (ytcq_196_57 (S_J hS2).1) ?_
      show t_X d 216 92 lv [pvR 231] g2 P
      refine t_0 vlt_92 rfl (ld_i l2) ?_
      refine t_0 vlt_93 rfl (pq_iw ytez_231 rfl ⟨by omega, by omega⟩ ((congrFun (show fA g2 231 = c231_12 from S_a hS2 0 (Nat.le_of_ble_eq_true rfl)) k).trans (fc231_12.trans (show (r : Int) + 1 = ((r + 1 : Nat) : Int) by omega)))) ?_
      show t_X d 216 94 lv [oI (((r + 1 : Nat) : Int))] g2 P
      refine t_0 vlt_94 rfl (pq_b (by decide)) ?_
      refine tb_ne vlt_96 (by decide) ⟨by omega, by omega⟩ ⟨by omega, by omega⟩ (fun c3 => absurd c3 (by omega)) (fun c3 => ?_)
      show t_X d 216 99 lv [] g2 P
      refine t_0 vlt_99 rfl (ld_i l2) ?_
      refine t_0 vlt_100 rfl rfl ?_
      refine t_0 vlt_101 rfl pq_sub ?_
      refine t_2 vlt_102 rfl (w := (px_s1 lv 2 (oI ((k : Int) - 1)), [])) rfl ?_
      replace l0 : px_lg (px_s1 lv 2 (oI ((k : Int) - 1))) 0 = some (pvR 196) := s1_ne (by decide) (fun _ => rfl) l0
      have l2 : px_lg (px_s1 lv 2 (oI ((k : Int) - 1))) 2 = some (oI ((k : Int) - 1)) := s1_eq
      generalize px_s1 lv 2 (oI ((k : Int) - 1)) = lv4 at l0 l2 ⊢
      show t_X d 216 103 lv4 [] g2 P
      refine t_1 vlt_103 rfl (pb_goto (pc := 103) (by decide)) ?_
      show t_X d 216 70 lv4 [] g2 P
      have JX := J_up wN_n.2.1.2.2 hJ (S_J hS2)
      have WX : ∀ i, i < k → fA g2 231 i = ((ρ i : Nat) : Int) := fun i hi => (congrFun (show fA g2 231 = c231_12 from S_a hS2 0 (Nat.le_of_ble_eq_true rfl)) i).trans ((nc231_12 i (by omega)).trans (hW i hi))
      have RX : fA g2 231 k = ((r + 1 : Nat) : Int) := (congrFun (show fA g2 231 = c231_12 from S_a hS2 0 (Nat.le_of_ble_eq_true rfl)) k).trans (fc231_12.trans (by omega))
      have SX : ∀ i, i ≤ k → fA g2 233 i = ((sS ρ i : Nat) : Int) := fun i hi => (congrFun (show fA g2 233 = fA g 233 from S_a hS2 1 (Nat.le_of_ble_eq_true rfl)) i).trans (hs2 i hi)
      have CX : ∀ i, i ≤ k → fA g2 234 i = ((lSw ρ i : Nat) : Int) := fun i hi => (congrFun (show fA g2 234 = fA g 234 from S_a hS2 2 (Nat.le_of_ble_eq_true rfl)) i).trans (hc2 i hi)
      have tX := stR_f (S_J hS2).2 wN_n.2.2.2.1.1 wN_n.2.2.2.1.2 hst
      refine hP g2 _ JX WX SX CX ?_ l0 l2
      show stR g2 (mB st none)
      rw [mB_n]
      exact tX
    | succ j ih =>
      intro r er ρ hρ st g lv hJ hW hr hs2 hc2 hst l0 l2 hP
      have hρ8 : ∀ i, ρ i < 8 := fun i => (hρ i).2
      have hS : sE [] [231, 233, 234] wR9 g g [] [fA g 231, fA g 233, fA g 234] := S_0 hJ.1
      have ej : r + 1 = 7 - j := by omega
      have hw8 := cpW_l _ (lS_l hρ8 k) (r + 1) (by omega)
      have s8 : sS ρ k ||| 2 ^ cpW (lSw ρ k) (r + 1) < 256 := Nat.or_lt_two_pow (n := 8) (sS_l hρ8 k) (Nat.pow_lt_pow_right (by decide) hw8)
      refine t_0 vlt_70 rfl (ld_i l2) ?_
      refine tz_lt vlt_71 (by decide) ⟨by omega, by omega⟩ (fun c1 => absurd c1 (by omega)) (fun c1 => ?_)
      show t_X d 216 74 lv [] g P
      refine t_0 vlt_74 rfl (ld_a l0) ?_
      refine t_0 vlt_75 rfl (ytcq_196_57 (S_J hS).1) ?_
      show t_X d 216 78 lv [pvR 231] g P
      refine t_0 vlt_78 rfl (ld_i l2) ?_
      refine t_0 vlt_79 rfl (ld_a l0) ?_
      refine t_0 vlt_80 rfl (ytcq_196_57 (S_J hS).1) ?_
      show t_X d 216 83 lv [pvR 231, oI ((k : Int)), pvR 231] g P
      refine t_0 vlt_83 rfl (ld_i l2) ?_
      refine t_0 vlt_84 rfl (pq_iw ytez_231 rfl ⟨by omega, by omega⟩ ((congrFun (show fA g 231 = fA g 231 from S_a hS 0 (Nat.le_of_ble_eq_true rfl)) k).trans hr)) ?_
      show t_X d 216 85 lv [oI ((r : Int)), oI ((k : Int)), pvR 231] g P
      refine t_0 vlt_85 rfl rfl ?_
      refine t_0 vlt_86 rfl pq_add ?_
      refine ts_a (n := 0) rfl rfl (by decide) vlt_87 hS ytez_231 rfl wu_wR9_231 ytgu_231 (by decide) ⟨by omega, by omega⟩ ⟨by omega, by omega⟩ (fun g2 hS2 => ?_)
      replace hS2 : sE [] [231, 233, 234] wR9 g g2 [] [updI (fA g 231) (k : Int).toNat ((r : Int) + 1), fA g 233, fA g 234] := hS2
      obtain ⟨c231_7, ec231_7⟩ : ∃ z : Nat → Int, z = updI (fA g 231) (k : Int).toNat ((r : Int) + 1) := ⟨_, rfl⟩
      rw [← ec231_7] at hS2
      replace hS2 : sE [] [231, 233, 234] wR9 g g2 [] [c231_7, fA g 233, fA g 234] := hS2
      have fc231_7 : c231_7 k = (r : Int) + 1 := by rw [ec231_7]; exact if_pos rfl
      have nc231_7 : ∀ j, j ≠ k → c231_7 j = fA g 231 j := fun j hj => by rw [ec231_7]; exact if_neg hj
      show t_X d 216 88 lv [] g2 P
      refine t_0 vlt_88 rfl (ld_a l0) ?_
      refine t_0 vlt_89 rfl (ytcq_196_57 (S_J hS2).1) ?_
      show t_X d 216 92 lv [pvR 231] g2 P
      refine t_0 vlt_92 rfl (ld_i l2) ?_
      refine t_0 vlt_93 rfl (pq_iw ytez_231 rfl ⟨by omega, by omega⟩ ((congrFun (show fA g2 231 = c231_7 from S_a hS2 0 (Nat.le_of_ble_eq_true rfl)) k).trans (fc231_7.trans (show (r : Int) + 1 = ((r + 1 : Nat) : Int) by omega)))) ?_
      show t_X d 216 94 lv [oI (((r + 1 : Nat) : Int))] g2 P
      refine t_0 vlt_94 rfl (pq_b (by decide)) ?_
      refine tb_ne vlt_96 (by decide) ⟨by omega, by omega⟩ ⟨by omega, by omega⟩ (fun c3 => ?_) (fun c3 => absurd c3 (by omega))
      show t_X d 216 106 lv [] g2 P
      refine t_0 vlt_106 rfl (ld_a l0) ?_
      refine t_0 vlt_107 rfl (ytcq_196_60 (S_J hS2).1) ?_
      show t_X d 216 110 lv [pvR 234] g2 P
      refine t_0 vlt_110 rfl (ld_i l2) ?_
      refine t_0 vlt_111 rfl (pq_iw ytez_234 rfl ⟨by omega, by omega⟩ ((congrFun (show fA g2 234 = fA g 234 from S_a hS2 2 (Nat.le_of_ble_eq_true rfl)) k).trans (hc2 k (Nat.le_refl k)))) ?_
      show t_X d 216 112 lv [oI (((lSw ρ k : Nat) : Int))] g2 P
      refine t_0 vlt_112 rfl (ld_a l0) ?_
      refine t_0 vlt_113 rfl (ytcq_196_57 (S_J hS2).1) ?_
      show t_X d 216 116 lv [pvR 231, oI (((lSw ρ k : Nat) : Int))] g2 P
      refine t_0 vlt_116 rfl (ld_i l2) ?_
      refine t_0 vlt_117 rfl (pq_iw ytez_231 rfl ⟨by omega, by omega⟩ ((congrFun (show fA g2 231 = c231_7 from S_a hS2 0 (Nat.le_of_ble_eq_true rfl)) k).trans (fc231_7.trans (show (r : Int) + 1 = ((r + 1 : Nat) : Int) by omega)))) ?_
      show t_X d 216 118 lv [oI (((r + 1 : Nat) : Int)), oI (((lSw ρ k : Nat) : Int))] g2 P
      refine t_3 vlt_118 rfl (ar := ([oI (((lSw ρ k : Nat) : Int)), oI (((r + 1 : Nat) : Int))], [])) (pcal_s ⟨Or.inl rfl, rfl, Nat.le_of_ble_eq_true rfl⟩) ⟨by omega, Nat.le_of_ble_eq_true rfl, Nat.le_of_ble_eq_true rfl, rfl⟩ ?_
      refine vbo_run (lS_l hρ8 k) (by omega) ?_ rfl rfl
      show t_X d 216 121 lv [oI (((cpW (lSw ρ k) (r + 1) : Nat) : Int))] g2 P
      refine t_2 vlt_121 rfl (w := (px_s1 lv 3 (oI (((cpW (lSw ρ k) (r + 1) : Nat) : Int))), [])) rfl ?_
      replace l0 : px_lg (px_s1 lv 3 (oI (((cpW (lSw ρ k) (r + 1) : Nat) : Int)))) 0 = some (pvR 196) := s1_ne (by decide) (fun _ => rfl) l0
      replace l2 : px_lg (px_s1 lv 3 (oI (((cpW (lSw ρ k) (r + 1) : Nat) : Int)))) 2 = some (oI ((k : Int))) := s1_ne (by decide) (fun _ => rfl) l2
      have l3 : px_lg (px_s1 lv 3 (oI (((cpW (lSw ρ k) (r + 1) : Nat) : Int)))) 3 = some (oI (((cpW (lSw ρ k) (r + 1) : Nat) : Int))) := s1_eq
      generalize px_s1 lv 3 (oI (((cpW (lSw ρ k) (r + 1) : Nat) : Int))) = lv4 at l0 l2 l3 ⊢
      show t_X d 216 122 lv4 [] g2 P
      refine t_0 vlt_122 rfl (ld_a l0) ?_
      refine t_0 vlt_123 rfl (ytcq_196_59 (S_J hS2).1) ?_
      show t_X d 216 126 lv4 [pvR 233] g2 P
      refine t_0 vlt_126 rfl (ld_i l2) ?_
      refine t_0 vlt_127 rfl (pq_iw ytez_233 rfl ⟨by omega, by omega⟩ ((congrFun (show fA g2 233 = fA g 233 from S_a hS2 1 (Nat.le_of_ble_eq_true rfl)) k).trans (hs2 k (Nat.le_refl k)))) ?_
      show t_X d 216 128 lv4 [oI (((sS ρ k : Nat) : Int))] g2 P
      refine t_0 vlt_128 rfl (ld_i l3) ?_
      refine t_3 vlt_129 rfl (ar := ([oI (((sS ρ k : Nat) : Int)), oI (((cpW (lSw ρ k) (r + 1) : Nat) : Int))], [])) (pcal_s ⟨Or.inl rfl, rfl, Nat.le_of_ble_eq_true rfl⟩) ⟨by omega, Nat.le_of_ble_eq_true rfl, Nat.le_of_ble_eq_true rfl, rfl⟩ ?_
      refine vhs_run (sS_l hρ8 k) hw8 (fun q0 => ?_) (fun q0 => ?_) rfl rfl
      · show t_X d 216 132 lv4 [oI 1] g2 P
        refine tz_eq vlt_132 (by decide) ⟨by omega, by omega⟩ (fun c5 => absurd c5 (by omega)) (fun c5 => ?_)
        show t_X d 216 135 lv4 [] g2 P
        refine t_1 vlt_135 rfl (pb_goto (pc := 135) (by decide)) ?_
        show t_X d 216 70 lv4 [] g2 P
        have JX := J_up wN_n.2.1.2.2 hJ (S_J hS2)
        have WX : ∀ i, i < k → fA g2 231 i = ((ρ i : Nat) : Int) := fun i hi => (congrFun (show fA g2 231 = c231_7 from S_a hS2 0 (Nat.le_of_ble_eq_true rfl)) i).trans ((nc231_7 i (by omega)).trans (hW i hi))
        have RX : fA g2 231 k = ((r + 1 : Nat) : Int) := (congrFun (show fA g2 231 = c231_7 from S_a hS2 0 (Nat.le_of_ble_eq_true rfl)) k).trans (fc231_7.trans (by omega))
        have SX : ∀ i, i ≤ k → fA g2 233 i = ((sS ρ i : Nat) : Int) := fun i hi => (congrFun (show fA g2 233 = fA g 233 from S_a hS2 1 (Nat.le_of_ble_eq_true rfl)) i).trans (hs2 i hi)
        have CX : ∀ i, i ≤ k → fA g2 234 i = ((lSw ρ i : Nat) : Int) := fun i hi => (congrFun (show fA g2 234 = fA g 234 from S_a hS2 2 (Nat.le_of_ble_eq_true rfl)) i).trans (hc2 i hi)
        have tX := stR_f (S_J hS2).2 wN_n.2.2.2.1.1 wN_n.2.2.2.1.2 hst
        rw [ej] at q0
        refine ih (r + 1) (by omega) ρ hρ st g2 _ JX WX RX SX CX tX l0 l2 (fun g' lv' a1 a2 a3 a4 a5 a6 a7 => hP g' lv' a1 a2 a3 a4 (by rw [gR_in q0]; exact a5) a6 a7)
      · show t_X d 216 132 lv4 [oI 0] g2 P
        refine tz_eq vlt_132 (by decide) ⟨by omega, by omega⟩ (fun c6 => ?_) (fun c6 => absurd c6 (by omega))
        show t_X d 216 138 lv4 [] g2 P
        refine t_0 vlt_138 rfl (ld_i l2) ?_
        refine t_0 vlt_139 rfl (pq_b (by decide)) ?_
        refine tb_ne vlt_141 (by decide) ⟨by omega, by omega⟩ ⟨by omega, by omega⟩ (fun c7 => absurd c7 (by omega)) (fun c7 => ?_)
        show t_X d 216 144 lv4 [] g2 P
        refine t_0 vlt_144 rfl (ld_a l0) ?_
        have JX := J_up wN_n.2.1.2.2 hJ (S_J hS2)
        have WX : ∀ i, i < k → fA g2 231 i = ((ρ i : Nat) : Int) := fun i hi => (congrFun (show fA g2 231 = c231_7 from S_a hS2 0 (Nat.le_of_ble_eq_true rfl)) i).trans ((nc231_7 i (by omega)).trans (hW i hi))
        have RX : fA g2 231 k = ((r + 1 : Nat) : Int) := (congrFun (show fA g2 231 = c231_7 from S_a hS2 0 (Nat.le_of_ble_eq_true rfl)) k).trans (fc231_7.trans (by omega))
        have SX : ∀ i, i ≤ k → fA g2 233 i = ((sS ρ i : Nat) : Int) := fun i hi => (congrFun (show fA g2 233 = fA g 233 from S_a hS2 1 (Nat.le_of_ble_eq_true rfl)) i).trans (hs2 i hi)
        have CX : ∀ i, i ≤ k → fA g2 234 i = ((lSw ρ i : Nat) : Int) := fun i hi => (congrFun (show fA g2 234 = fA g 234 from S_a hS2 2 (Nat.le_of_ble_eq_true rfl)) i).trans (hc2 i hi)
        have tX := stR_f (S_J hS2).2 wN_n.2.2.2.1.1 wN_n.2.2.2.1.2 hst
        refine t_3 vlt_145 rfl (ar := ([pvR 196], [])) (pcal_w (as := []) rfl rfl rfl yteo_196) ⟨by omega, Nat.le_of_ble_eq_true rfl, Nat.le_of_ble_eq_true rfl, rfl⟩ ?_
        refine vno_run (ρ := upR ρ k (r + 1)) hh ht (upR_b hρ ⟨by omega, by omega⟩) JX.1 ((cF_M JX.2 wN_n.2.2.2.2.1.1).trans hR) (fun j y1 y2 => (congrFun (fA_M JX.2 wN_n.2.2.2.2.1.2.2) j).trans (hT j y1 y2)) (fun j y1 => (congrFun (fA_M JX.2 wN_n.2.2.2.2.1.2.1) j).trans (hH j y1)) (fun i hi => by
            by_cases z : i = k
            · rw [z, upR_k]
              exact RX
            · rw [upR_n z]
              exact WX i (by omega)) (by omega) tX (fun g9 J9 st9 => ?_) rfl
        show t_X d 216 148 lv4 [] g9 P
        refine t_1 vlt_148 rfl (pb_goto (pc := 148) (by decide)) ?_
        show t_X d 216 70 lv4 [] g9 P
        refine ih (r + 1) (by omega) ρ hρ _ g9 _ (J_up wN_n.2.1.2.1 JX J9) (fun i hi => (congrFun (fA_M J9.2 wN_n.2.2.1.2.2.2.1) i).trans (WX i hi)) ((congrFun (fA_M J9.2 wN_n.2.2.1.2.2.2.1) k).trans RX) (fun i hi => (congrFun (fA_M J9.2 wN_n.2.2.1.2.2.2.2.1) i).trans (SX i hi)) (fun i hi => (congrFun (fA_M J9.2 wN_n.2.2.1.2.2.2.2.2) i).trans (CX i hi)) st9 l0 l2 (fun g' lv' a1 a2 a3 a4 a5 a6 a7 => hP g' lv' a1 a2 a3 a4 (by rw [ds_0 ej q0, k6]; rw [k6] at a5; exact a5) a6 a7)
  | succ n ihn =>
    intro k ek j
    induction j with
    | zero =>
      intro r er ρ hρ st g lv hJ hW hr hs2 hc2 hst l0 l2 hP
      have hρ8 : ∀ i, ρ i < 8 := fun i => (hρ i).2
      have hS : sE [] [231, 233, 234] wR9 g g [] [fA g 231, fA g 233, fA g 234] := S_0 hJ.1
      refine t_0 vlt_70 rfl (ld_i l2) ?_
      refine tz_lt vlt_71 (by decide) ⟨by omega, by omega⟩ (fun c1 => absurd c1 (by omega)) (fun c1 => ?_)
      show t_X d 216 74 lv [] g P
      refine t_0 vlt_74 rfl (ld_a l0) ?_
      refine t_0 vlt_75 rfl (ytcq_196_57 (S_J hS).1) ?_
      show t_X d 216 78 lv [pvR 231] g P
      refine t_0 vlt_78 rfl (ld_i l2) ?_
      refine t_0 vlt_79 rfl (ld_a l0) ?_
      refine t_0 vlt_80 rfl (ytcq_196_57 (S_J hS).1) ?_
      show t_X d 216 83 lv [pvR 231, oI ((k : Int)), pvR 231] g P
      refine t_0 vlt_83 rfl (ld_i l2) ?_
      refine t_0 vlt_84 rfl (pq_iw ytez_231 rfl ⟨by omega, by omega⟩ ((congrFun (show fA g 231 = fA g 231 from S_a hS 0 (Nat.le_of_ble_eq_true rfl)) k).trans hr)) ?_
      show t_X d 216 85 lv [oI ((r : Int)), oI ((k : Int)), pvR 231] g P
      refine t_0 vlt_85 rfl rfl ?_
      refine t_0 vlt_86 rfl pq_add ?_
      refine ts_a (n := 0) rfl rfl (by decide) vlt_87 hS ytez_231 rfl wu_wR9_231 ytgu_231 (by decide) ⟨by omega, by omega⟩ ⟨by omega, by omega⟩ (fun g2 hS2 => ?_)
      replace hS2 : sE [] [231, 233, 234] wR9 g g2 [] [updI (fA g 231) (k : Int).toNat ((r : Int) + 1), fA g 233, fA g 234] := hS2
      obtain ⟨c231_13, ec231_13⟩ : ∃ z : Nat → Int, z = updI (fA g 231) (k : Int).toNat ((r : Int) + 1) := ⟨_, rfl⟩
      rw [← ec231_13] at hS2
      replace hS2 : sE [] [231, 233, 234] wR9 g g2 [] [c231_13, fA g 233, fA g 234] := hS2
      have fc231_13 : c231_13 k = (r : Int) + 1 := by rw [ec231_13]; exact if_pos rfl
      have nc231_13 : ∀ j, j ≠ k → c231_13 j = fA g 231 j := fun j hj => by rw [ec231_13]; exact if_neg hj
      show t_X d 216 88 lv [] g2 P
      refine t_0 vlt_88 rfl (ld_a l0) ?_
      refine t_0 vlt_89 rfl (ytcq_196_57 (S_J hS2).1) ?_
      show t_X d 216 92 lv [pvR 231] g2 P
      refine t_0 vlt_92 rfl (ld_i l2) ?_
      refine t_0 vlt_93 rfl (pq_iw ytez_231 rfl ⟨by omega, by omega⟩ ((congrFun (show fA g2 231 = c231_13 from S_a hS2 0 (Nat.le_of_ble_eq_true rfl)) k).trans (fc231_13.trans (show (r : Int) + 1 = ((r + 1 : Nat) : Int) by omega)))) ?_
      show t_X d 216 94 lv [oI (((r + 1 : Nat) : Int))] g2 P
      refine t_0 vlt_94 rfl (pq_b (by decide)) ?_
      refine tb_ne vlt_96 (by decide) ⟨by omega, by omega⟩ ⟨by omega, by omega⟩ (fun c3 => absurd c3 (by omega)) (fun c3 => ?_)
      show t_X d 216 99 lv [] g2 P
      refine t_0 vlt_99 rfl (ld_i l2) ?_
      refine t_0 vlt_100 rfl rfl ?_
      refine t_0 vlt_101 rfl pq_sub ?_
      refine t_2 vlt_102 rfl (w := (px_s1 lv 2 (oI ((k : Int) - 1)), [])) rfl ?_
      replace l0 : px_lg (px_s1 lv 2 (oI ((k : Int) - 1))) 0 = some (pvR 196) := s1_ne (by decide) (fun _ => rfl) l0
      have l2 : px_lg (px_s1 lv 2 (oI ((k : Int) - 1))) 2 = some (oI ((k : Int) - 1)) := s1_eq
      generalize px_s1 lv 2 (oI ((k : Int) - 1)) = lv4 at l0 l2 ⊢
      show t_X d 216 103 lv4 [] g2 P
      refine t_1 vlt_103 rfl (pb_goto (pc := 103) (by decide)) ?_
      show t_X d 216 70 lv4 [] g2 P
      have JX := J_up wN_n.2.1.2.2 hJ (S_J hS2)
      have WX : ∀ i, i < k → fA g2 231 i = ((ρ i : Nat) : Int) := fun i hi => (congrFun (show fA g2 231 = c231_13 from S_a hS2 0 (Nat.le_of_ble_eq_true rfl)) i).trans ((nc231_13 i (by omega)).trans (hW i hi))
      have RX : fA g2 231 k = ((r + 1 : Nat) : Int) := (congrFun (show fA g2 231 = c231_13 from S_a hS2 0 (Nat.le_of_ble_eq_true rfl)) k).trans (fc231_13.trans (by omega))
      have SX : ∀ i, i ≤ k → fA g2 233 i = ((sS ρ i : Nat) : Int) := fun i hi => (congrFun (show fA g2 233 = fA g 233 from S_a hS2 1 (Nat.le_of_ble_eq_true rfl)) i).trans (hs2 i hi)
      have CX : ∀ i, i ≤ k → fA g2 234 i = ((lSw ρ i : Nat) : Int) := fun i hi => (congrFun (show fA g2 234 = fA g 234 from S_a hS2 2 (Nat.le_of_ble_eq_true rfl)) i).trans (hc2 i hi)
      have tX := stR_f (S_J hS2).2 wN_n.2.2.2.1.1 wN_n.2.2.2.1.2 hst
      refine hP g2 _ JX WX SX CX ?_ l0 l2
      show stR g2 (mB st none)
      rw [mB_n]
      exact tX
    | succ j ih =>
      intro r er ρ hρ st g lv hJ hW hr hs2 hc2 hst l0 l2 hP
      have hρ8 : ∀ i, ρ i < 8 := fun i => (hρ i).2
      have hS : sE [] [231, 233, 234] wR9 g g [] [fA g 231, fA g 233, fA g 234] := S_0 hJ.1
      have ej : r + 1 = 7 - j := by omega
      have hw8 := cpW_l _ (lS_l hρ8 k) (r + 1) (by omega)
      have s8 : sS ρ k ||| 2 ^ cpW (lSw ρ k) (r + 1) < 256 := Nat.or_lt_two_pow (n := 8) (sS_l hρ8 k) (Nat.pow_lt_pow_right (by decide) hw8)
      refine t_0 vlt_70 rfl (ld_i l2) ?_
      refine tz_lt vlt_71 (by decide) ⟨by omega, by omega⟩ (fun c1 => absurd c1 (by omega)) (fun c1 => ?_)
      show t_X d 216 74 lv [] g P
      refine t_0 vlt_74 rfl (ld_a l0) ?_
      refine t_0 vlt_75 rfl (ytcq_196_57 (S_J hS).1) ?_
      show t_X d 216 78 lv [pvR 231] g P
      refine t_0 vlt_78 rfl (ld_i l2) ?_
      refine t_0 vlt_79 rfl (ld_a l0) ?_
      refine t_0 vlt_80 rfl (ytcq_196_57 (S_J hS).1) ?_
      show t_X d 216 83 lv [pvR 231, oI ((k : Int)), pvR 231] g P
      refine t_0 vlt_83 rfl (ld_i l2) ?_
      refine t_0 vlt_84 rfl (pq_iw ytez_231 rfl ⟨by omega, by omega⟩ ((congrFun (show fA g 231 = fA g 231 from S_a hS 0 (Nat.le_of_ble_eq_true rfl)) k).trans hr)) ?_
      show t_X d 216 85 lv [oI ((r : Int)), oI ((k : Int)), pvR 231] g P
      refine t_0 vlt_85 rfl rfl ?_
      refine t_0 vlt_86 rfl pq_add ?_
      refine ts_a (n := 0) rfl rfl (by decide) vlt_87 hS ytez_231 rfl wu_wR9_231 ytgu_231 (by decide) ⟨by omega, by omega⟩ ⟨by omega, by omega⟩ (fun g2 hS2 => ?_)
      replace hS2 : sE [] [231, 233, 234] wR9 g g2 [] [updI (fA g 231) (k : Int).toNat ((r : Int) + 1), fA g 233, fA g 234] := hS2
      obtain ⟨c231_8, ec231_8⟩ : ∃ z : Nat → Int, z = updI (fA g 231) (k : Int).toNat ((r : Int) + 1) := ⟨_, rfl⟩
      rw [← ec231_8] at hS2
      replace hS2 : sE [] [231, 233, 234] wR9 g g2 [] [c231_8, fA g 233, fA g 234] := hS2
      have fc231_8 : c231_8 k = (r : Int) + 1 := by rw [ec231_8]; exact if_pos rfl
      have nc231_8 : ∀ j, j ≠ k → c231_8 j = fA g 231 j := fun j hj => by rw [ec231_8]; exact if_neg hj
      show t_X d 216 88 lv [] g2 P
      refine t_0 vlt_88 rfl (ld_a l0) ?_
      refine t_0 vlt_89 rfl (ytcq_196_57 (S_J hS2).1) ?_
      show t_X d 216 92 lv [pvR 231] g2 P
      refine t_0 vlt_92 rfl (ld_i l2) ?_
      refine t_0 vlt_93 rfl (pq_iw ytez_231 rfl ⟨by omega, by omega⟩ ((congrFun (show fA g2 231 = c231_8 from S_a hS2 0 (Nat.le_of_ble_eq_true rfl)) k).trans (fc231_8.trans (show (r : Int) + 1 = ((r + 1 : Nat) : Int) by omega)))) ?_
      show t_X d 216 94 lv [oI (((r + 1 : Nat) : Int))] g2 P
      refine t_0 vlt_94 rfl (pq_b (by decide)) ?_
      refine tb_ne vlt_96 (by decide) ⟨by omega, by omega⟩ ⟨by omega, by omega⟩ (fun c3 => ?_) (fun c3 => absurd c3 (by omega))
      show t_X d 216 106 lv [] g2 P
      refine t_0 vlt_106 rfl (ld_a l0) ?_
      refine t_0 vlt_107 rfl (ytcq_196_60 (S_J hS2).1) ?_
      show t_X d 216 110 lv [pvR 234] g2 P
      refine t_0 vlt_110 rfl (ld_i l2) ?_
      refine t_0 vlt_111 rfl (pq_iw ytez_234 rfl ⟨by omega, by omega⟩ ((congrFun (show fA g2 234 = fA g 234 from S_a hS2 2 (Nat.le_of_ble_eq_true rfl)) k).trans (hc2 k (Nat.le_refl k)))) ?_
      show t_X d 216 112 lv [oI (((lSw ρ k : Nat) : Int))] g2 P
      refine t_0 vlt_112 rfl (ld_a l0) ?_
      refine t_0 vlt_113 rfl (ytcq_196_57 (S_J hS2).1) ?_
      show t_X d 216 116 lv [pvR 231, oI (((lSw ρ k : Nat) : Int))] g2 P
      refine t_0 vlt_116 rfl (ld_i l2) ?_
      refine t_0 vlt_117 rfl (pq_iw ytez_231 rfl ⟨by omega, by omega⟩ ((congrFun (show fA g2 231 = c231_8 from S_a hS2 0 (Nat.le_of_ble_eq_true rfl)) k).trans (fc231_8.trans (show (r : Int) + 1 = ((r + 1 : Nat) : Int) by omega)))) ?_
      show t_X d 216 118 lv [oI (((r + 1 : Nat) : Int)), oI (((lSw ρ k : Nat) : Int))] g2 P
      refine t_3 vlt_118 rfl (ar := ([oI (((lSw ρ k : Nat) : Int)), oI (((r + 1 : Nat) : Int))], [])) (pcal_s ⟨Or.inl rfl, rfl, Nat.le_of_ble_eq_true rfl⟩) ⟨by omega, Nat.le_of_ble_eq_true rfl, Nat.le_of_ble_eq_true rfl, rfl⟩ ?_
      refine vbo_run (lS_l hρ8 k) (by omega) ?_ rfl rfl
      show t_X d 216 121 lv [oI (((cpW (lSw ρ k) (r + 1) : Nat) : Int))] g2 P
      refine t_2 vlt_121 rfl (w := (px_s1 lv 3 (oI (((cpW (lSw ρ k) (r + 1) : Nat) : Int))), [])) rfl ?_
      replace l0 : px_lg (px_s1 lv 3 (oI (((cpW (lSw ρ k) (r + 1) : Nat) : Int)))) 0 = some (pvR 196) := s1_ne (by decide) (fun _ => rfl) l0
      replace l2 : px_lg (px_s1 lv 3 (oI (((cpW (lSw ρ k) (r + 1) : Nat) : Int)))) 2 = some (oI ((k : Int))) := s1_ne (by decide) (fun _ => rfl) l2
      have l3 : px_lg (px_s1 lv 3 (oI (((cpW (lSw ρ k) (r + 1) : Nat) : Int)))) 3 = some (oI (((cpW (lSw ρ k) (r + 1) : Nat) : Int))) := s1_eq
      generalize px_s1 lv 3 (oI (((cpW (lSw ρ k) (r + 1) : Nat) : Int))) = lv4 at l0 l2 l3 ⊢
      show t_X d 216 122 lv4 [] g2 P
      refine t_0 vlt_122 rfl (ld_a l0) ?_
      refine t_0 vlt_123 rfl (ytcq_196_59 (S_J hS2).1) ?_
      show t_X d 216 126 lv4 [pvR 233] g2 P
      refine t_0 vlt_126 rfl (ld_i l2) ?_
      refine t_0 vlt_127 rfl (pq_iw ytez_233 rfl ⟨by omega, by omega⟩ ((congrFun (show fA g2 233 = fA g 233 from S_a hS2 1 (Nat.le_of_ble_eq_true rfl)) k).trans (hs2 k (Nat.le_refl k)))) ?_
      show t_X d 216 128 lv4 [oI (((sS ρ k : Nat) : Int))] g2 P
      refine t_0 vlt_128 rfl (ld_i l3) ?_
      refine t_3 vlt_129 rfl (ar := ([oI (((sS ρ k : Nat) : Int)), oI (((cpW (lSw ρ k) (r + 1) : Nat) : Int))], [])) (pcal_s ⟨Or.inl rfl, rfl, Nat.le_of_ble_eq_true rfl⟩) ⟨by omega, Nat.le_of_ble_eq_true rfl, Nat.le_of_ble_eq_true rfl, rfl⟩ ?_
      refine vhs_run (sS_l hρ8 k) hw8 (fun q0 => ?_) (fun q0 => ?_) rfl rfl
      · show t_X d 216 132 lv4 [oI 1] g2 P
        refine tz_eq vlt_132 (by decide) ⟨by omega, by omega⟩ (fun c5 => absurd c5 (by omega)) (fun c5 => ?_)
        show t_X d 216 135 lv4 [] g2 P
        refine t_1 vlt_135 rfl (pb_goto (pc := 135) (by decide)) ?_
        show t_X d 216 70 lv4 [] g2 P
        have JX := J_up wN_n.2.1.2.2 hJ (S_J hS2)
        have WX : ∀ i, i < k → fA g2 231 i = ((ρ i : Nat) : Int) := fun i hi => (congrFun (show fA g2 231 = c231_8 from S_a hS2 0 (Nat.le_of_ble_eq_true rfl)) i).trans ((nc231_8 i (by omega)).trans (hW i hi))
        have RX : fA g2 231 k = ((r + 1 : Nat) : Int) := (congrFun (show fA g2 231 = c231_8 from S_a hS2 0 (Nat.le_of_ble_eq_true rfl)) k).trans (fc231_8.trans (by omega))
        have SX : ∀ i, i ≤ k → fA g2 233 i = ((sS ρ i : Nat) : Int) := fun i hi => (congrFun (show fA g2 233 = fA g 233 from S_a hS2 1 (Nat.le_of_ble_eq_true rfl)) i).trans (hs2 i hi)
        have CX : ∀ i, i ≤ k → fA g2 234 i = ((lSw ρ i : Nat) : Int) := fun i hi => (congrFun (show fA g2 234 = fA g 234 from S_a hS2 2 (Nat.le_of_ble_eq_true rfl)) i).trans (hc2 i hi)
        have tX := stR_f (S_J hS2).2 wN_n.2.2.2.1.1 wN_n.2.2.2.1.2 hst
        rw [ej] at q0
        refine ih (r + 1) (by omega) ρ hρ st g2 _ JX WX RX SX CX tX l0 l2 (fun g' lv' a1 a2 a3 a4 a5 a6 a7 => hP g' lv' a1 a2 a3 a4 (by rw [gR_in q0]; exact a5) a6 a7)
      · show t_X d 216 132 lv4 [oI 0] g2 P
        refine tz_eq vlt_132 (by decide) ⟨by omega, by omega⟩ (fun c6 => ?_) (fun c6 => absurd c6 (by omega))
        show t_X d 216 138 lv4 [] g2 P
        refine t_0 vlt_138 rfl (ld_i l2) ?_
        refine t_0 vlt_139 rfl (pq_b (by decide)) ?_
        refine tb_ne vlt_141 (by decide) ⟨by omega, by omega⟩ ⟨by omega, by omega⟩ (fun c7 => ?_) (fun c7 => absurd c7 (by omega))
        show t_X d 216 151 lv4 [] g2 P
        refine t_0 vlt_151 rfl (ld_a l0) ?_
        refine t_0 vlt_152 rfl (ytcq_196_59 (S_J hS2).1) ?_
        show t_X d 216 155 lv4 [pvR 233] g2 P
        refine t_0 vlt_155 rfl (ld_i l2) ?_
        refine t_0 vlt_156 rfl rfl ?_
        refine t_0 vlt_157 rfl pq_add ?_
        rw [show (k : Int) + 1 = ((k + 1 : Nat) : Int) by omega]
        refine t_0 vlt_158 rfl (ld_a l0) ?_
        refine t_0 vlt_159 rfl (ytcq_196_59 (S_J hS2).1) ?_
        show t_X d 216 162 lv4 [pvR 233, oI (((k + 1 : Nat) : Int)), pvR 233] g2 P
        refine t_0 vlt_162 rfl (ld_i l2) ?_
        refine t_0 vlt_163 rfl (pq_iw ytez_233 rfl ⟨by omega, by omega⟩ ((congrFun (show fA g2 233 = fA g 233 from S_a hS2 1 (Nat.le_of_ble_eq_true rfl)) k).trans (hs2 k (Nat.le_refl k)))) ?_
        show t_X d 216 164 lv4 [oI (((sS ρ k : Nat) : Int)), oI (((k + 1 : Nat) : Int)), pvR 233] g2 P
        refine t_0 vlt_164 rfl rfl ?_
        refine t_0 vlt_165 rfl (ld_i l3) ?_
        refine t_0 vlt_166 rfl rfl ?_
        refine t_0 vlt_167 rfl (pq_ho (or_n hw8)) ?_
        refine ts_a (n := 1) rfl rfl (by decide) vlt_168 hS2 ytez_233 rfl wu_wR9_233 ytgu_233 (by decide) ⟨by omega, by omega⟩ ⟨by omega, by omega⟩ (fun g8 hS8 => ?_)
        replace hS8 : sE [] [231, 233, 234] wR9 g g8 [] [c231_8, updI (fA g 233) ((k + 1 : Nat) : Int).toNat ((sS ρ k ||| 2 ^ cpW (lSw ρ k) (r + 1) : Nat) : Int), fA g 234] := hS8
        obtain ⟨c233_9, ec233_9⟩ : ∃ z : Nat → Int, z = updI (fA g 233) ((k + 1 : Nat) : Int).toNat ((sS ρ k ||| 2 ^ cpW (lSw ρ k) (r + 1) : Nat) : Int) := ⟨_, rfl⟩
        rw [← ec233_9] at hS8
        replace hS8 : sE [] [231, 233, 234] wR9 g g8 [] [c231_8, c233_9, fA g 234] := hS8
        have fc233_9 : c233_9 (k + 1 : Nat) = ((sS ρ k ||| 2 ^ cpW (lSw ρ k) (r + 1) : Nat) : Int) := by rw [ec233_9]; exact if_pos rfl
        have nc233_9 : ∀ j, j ≠ (k + 1 : Nat) → c233_9 j = fA g 233 j := fun j hj => by rw [ec233_9]; exact if_neg hj
        show t_X d 216 169 lv4 [] g8 P
        refine t_0 vlt_169 rfl (ld_a l0) ?_
        refine t_0 vlt_170 rfl (ytcq_196_60 (S_J hS8).1) ?_
        show t_X d 216 173 lv4 [pvR 234] g8 P
        refine t_0 vlt_173 rfl (ld_i l2) ?_
        refine t_0 vlt_174 rfl rfl ?_
        refine t_0 vlt_175 rfl pq_add ?_
        rw [show (k : Int) + 1 = ((k + 1 : Nat) : Int) by omega]
        refine t_0 vlt_176 rfl (ld_i l3) ?_
        refine ts_a (n := 2) rfl rfl (by decide) vlt_177 hS8 ytez_234 rfl wu_wR9_234 ytgu_234 (by decide) ⟨by omega, by omega⟩ ⟨by omega, by omega⟩ (fun g9 hS9 => ?_)
        replace hS9 : sE [] [231, 233, 234] wR9 g g9 [] [c231_8, c233_9, updI (fA g 234) ((k + 1 : Nat) : Int).toNat ((cpW (lSw ρ k) (r + 1) : Nat) : Int)] := hS9
        obtain ⟨c234_10, ec234_10⟩ : ∃ z : Nat → Int, z = updI (fA g 234) ((k + 1 : Nat) : Int).toNat ((cpW (lSw ρ k) (r + 1) : Nat) : Int) := ⟨_, rfl⟩
        rw [← ec234_10] at hS9
        replace hS9 : sE [] [231, 233, 234] wR9 g g9 [] [c231_8, c233_9, c234_10] := hS9
        have fc234_10 : c234_10 (k + 1 : Nat) = ((cpW (lSw ρ k) (r + 1) : Nat) : Int) := by rw [ec234_10]; exact if_pos rfl
        have nc234_10 : ∀ j, j ≠ (k + 1 : Nat) → c234_10 j = fA g 234 j := fun j hj => by rw [ec234_10]; exact if_neg hj
        show t_X d 216 178 lv4 [] g9 P
        refine t_0 vlt_178 rfl (ld_a l0) ?_
        refine t_0 vlt_179 rfl (ytcq_196_57 (S_J hS9).1) ?_
        show t_X d 216 182 lv4 [pvR 231] g9 P
        refine t_0 vlt_182 rfl (ld_i l2) ?_
        refine t_0 vlt_183 rfl rfl ?_
        refine t_0 vlt_184 rfl pq_add ?_
        rw [show (k : Int) + 1 = ((k + 1 : Nat) : Int) by omega]
        refine t_0 vlt_185 rfl rfl ?_
        refine ts_a (n := 0) rfl rfl (by decide) vlt_186 hS9 ytez_231 rfl wu_wR9_231 ytgu_231 (by decide) ⟨by omega, by omega⟩ ⟨by omega, by omega⟩ (fun g10 hS10 => ?_)
        replace hS10 : sE [] [231, 233, 234] wR9 g g10 [] [updI c231_8 ((k + 1 : Nat) : Int).toNat 0, c233_9, c234_10] := hS10
        obtain ⟨c231_11, ec231_11⟩ : ∃ z : Nat → Int, z = updI c231_8 ((k + 1 : Nat) : Int).toNat 0 := ⟨_, rfl⟩
        rw [← ec231_11] at hS10
        replace hS10 : sE [] [231, 233, 234] wR9 g g10 [] [c231_11, c233_9, c234_10] := hS10
        have fc231_11 : c231_11 (k + 1 : Nat) = 0 := by rw [ec231_11]; exact if_pos rfl
        have nc231_11 : ∀ j, j ≠ (k + 1 : Nat) → c231_11 j = c231_8 j := fun j hj => by rw [ec231_11]; exact if_neg hj
        show t_X d 216 187 lv4 [] g10 P
        refine t_0 vlt_187 rfl (ld_i l2) ?_
        refine t_0 vlt_188 rfl rfl ?_
        refine t_0 vlt_189 rfl pq_add ?_
        rw [show (k : Int) + 1 = ((k + 1 : Nat) : Int) by omega]
        refine t_2 vlt_190 rfl (w := (px_s1 lv4 2 (oI (((k + 1 : Nat) : Int))), [])) rfl ?_
        replace l0 : px_lg (px_s1 lv4 2 (oI (((k + 1 : Nat) : Int)))) 0 = some (pvR 196) := s1_ne (by decide) (fun _ => rfl) l0
        replace l3 : px_lg (px_s1 lv4 2 (oI (((k + 1 : Nat) : Int)))) 3 = some (oI (((cpW (lSw ρ k) (r + 1) : Nat) : Int))) := s1_ne (by decide) (fun _ => rfl) l3
        have l2 : px_lg (px_s1 lv4 2 (oI (((k + 1 : Nat) : Int)))) 2 = some (oI (((k + 1 : Nat) : Int))) := s1_eq
        generalize px_s1 lv4 2 (oI (((k + 1 : Nat) : Int))) = lv11 at l0 l3 l2 ⊢
        show t_X d 216 191 lv11 [] g10 P
        refine t_1 vlt_191 rfl (pb_goto (pc := 191) (by decide)) ?_
        show t_X d 216 70 lv11 [] g10 P
        have JX := J_up wN_n.2.1.2.2 hJ (S_J hS10)
        have tX := stR_f (S_J hS10).2 wN_n.2.2.2.1.1 wN_n.2.2.2.1.2 hst
        have WX : ∀ i, i < k + 1 → fA g10 231 i = ((upR ρ k (r + 1) i : Nat) : Int) := fun i hi => by
          rw [congrFun (show fA g10 231 = c231_11 from S_a hS10 0 (Nat.le_of_ble_eq_true rfl)) i, nc231_11 i (by omega)]
          by_cases z : i = k
          · rw [z, fc231_8, upR_k]
            omega
          · rw [nc231_8 i z, upR_n z]
            exact hW i (by omega)
        have RX : fA g10 231 (k + 1) = ((0 : Nat) : Int) := (congrFun (show fA g10 231 = c231_11 from S_a hS10 0 (Nat.le_of_ble_eq_true rfl)) (k + 1)).trans fc231_11
        have SX : ∀ i, i ≤ k + 1 → fA g10 233 i = ((sS (upR ρ k (r + 1)) i : Nat) : Int) := fun i hi => by
          rw [congrFun (show fA g10 233 = c233_9 from S_a hS10 1 (Nat.le_of_ble_eq_true rfl)) i]
          by_cases z : i = k + 1
          · rw [z, fc233_9, upR_s1]
          · rw [nc233_9 i z, upR_s (by omega)]
            exact hs2 i (by omega)
        have CX : ∀ i, i ≤ k + 1 → fA g10 234 i = ((lSw (upR ρ k (r + 1)) i : Nat) : Int) := fun i hi => by
          rw [congrFun (show fA g10 234 = c234_10 from S_a hS10 2 (Nat.le_of_ble_eq_true rfl)) i]
          by_cases z : i = k + 1
          · rw [z, fc234_10, upR_l1]
          · rw [nc234_10 i z, upR_l (by omega)]
            exact hc2 i (by omega)
        refine ihn (k + 1) (by omega) 7 0 rfl (upR ρ k (r + 1)) (upR_b hρ ⟨by omega, by omega⟩) st g10 _ JX WX RX SX CX tX l0 l2 (fun g' lv' a1 a2 a3 a4 a5 a6 a7 => ?_)
        refine ih (r + 1) (by omega) ρ hρ _ g' lv' a1 (fun i hi => by have := a2 i (by omega); rw [upR_n (by omega)] at this; exact this) (by have := a2 k (by omega); rw [upR_k] at this; exact this) (fun i hi => by have := a3 i (by omega); rw [upR_s hi] at this; exact this) (fun i hi => by have := a4 i (by omega); rw [upR_l hi] at this; exact this) a5 a6 (by rw [show (k : Int) = ((k + 1 : Nat) : Int) - 1 by omega]; exact a7) (fun g'' lv'' b1 b2 b3 b4 b5 b6 b7 => hP g'' lv'' b1 b2 b3 b4 (by rw [ds_1 ej q0]; exact b5) b6 b7)
theorem vlt_ask {m : Nat} (hm : m < 32) {ki ma ta wo : Int} {k1 c : Int} {o v le st co en : tC} {g0 : pH} (hs : sdM g0 m ki ma ta wo) (hL : rLm g0 k1 c o v le st co en) {tk : Nat → Int} (et : tk = (fun w : Nat => aV o v (qF m ki ma ta wo w) le st co en c 116 99)) {d : Nat} (hd : 6 ≤ d) {P : Option pv × pH → Prop} (hP : ∀ (g : pH) (lv : List (Nat × pv)), J_ tW9 g0 g → (∀ j, 1 ≤ j → j < 8 → fA g 230 j = tk j) → px_lg lv 0 = some (pvR 196) → px_lg lv 1 = some (oI (m : Int)) → t_X d 216 30 lv [] g P) : ∀ (n k : Nat) (g : pH) (lv : List (Nat × pv)), 8 - k ≤ n → 1 ≤ k → k ≤ 8 → J_ tW9 g0 g → (∀ j, 1 ≤ j → j < k → fA g 230 j = tk j) → px_lg lv 0 = some (pvR 196) → px_lg lv 1 = some (oI (m : Int)) → px_lg lv 2 = some (oI (k : Int)) → t_X d 216 2 lv [] g P := by
  have ht : ∀ t, 0 ≤ tk t ∧ tk t ≤ 99 := fun t => by rw [et]; exact aV_b (by decide)
  intro n
  induction n with
  | zero =>
    intro k g lv hr h1 hk2 hJ hE l0 l1 l2
    refine t_0 vlt_2 rfl (ld_i l2) ?_
    refine t_0 vlt_3 rfl (pq_b (by decide)) ?_
    refine tb_ge vlt_5 (by decide) ⟨by omega, by omega⟩ ⟨by omega, by omega⟩ (fun c1 => ?_) (fun c1 => absurd c1 (by omega))
    show t_X d 216 30 lv [] g P
    exact hP g _ hJ (fun j y1 hj => hE j y1 (by omega)) l0 l1
  | succ n ih =>
    intro k g lv hr h1 hk2 hJ hE l0 l1 l2
    by_cases hk : k < 8
    · skip
      refine t_0 vlt_2 rfl (ld_i l2) ?_
      refine t_0 vlt_3 rfl (pq_b (by decide)) ?_
      refine tb_ge vlt_5 (by decide) ⟨by omega, by omega⟩ ⟨by omega, by omega⟩ (fun c1 => absurd c1 (by omega)) (fun c1 => ?_)
      show t_X d 216 8 lv [] g P
      refine t_0 vlt_8 rfl (ld_a l0) ?_
      refine t_0 vlt_9 rfl (ytcq_196_56 hJ.1) ?_
      show t_X d 216 12 lv [pvR 230] g P
      refine t_0 vlt_12 rfl (ld_i l2) ?_
      refine t_0 vlt_13 rfl (ld_a l0) ?_
      refine t_0 vlt_14 rfl (ld_i l1) ?_
      refine t_0 vlt_15 rfl (ld_i l2) ?_
      refine t_0 vlt_16 rfl (pq_b (by decide)) ?_
      refine t_0 vlt_18 rfl (pq_b (by decide)) ?_
      refine t_3 vlt_20 rfl (ar := ([pvR 196, oI ((m : Int)), oI ((k : Int)), oI 116, oI 99], [oI ((k : Int)), pvR 230])) (pcal_w (as := [oI 99, oI 116, oI ((k : Int)), oI ((m : Int))]) rfl rfl rfl yteo_196) ⟨by omega, Nat.le_of_ble_eq_true rfl, Nat.le_of_ble_eq_true rfl, rfl⟩ ?_
      refine vqa_run hm hk (by omega) hJ.1 (sdM_f hJ.2 tQ_n.2.2.2.2.1.1 tQ_n.2.2.2.2.1.2.1 tQ_n.2.2.2.2.1.2.2.1 tQ_n.2.2.2.2.1.2.2.2.1 tQ_n.2.2.2.2.2 hs) (rLm_f hJ.2 tQ_n.2.2.2.1 hL) (by decide) (by decide) (fun g2 J2 => ?_) rfl rfl rfl rfl rfl
      rw [show aV o v (qF m ki ma ta wo k) le st co en c 116 99 = tk k from by rw [et]]
      have hJ2 := J_up tQ_n.1 hJ J2
      have ak := ht k
      show t_X d 216 23 lv [oI (tk k), oI ((k : Int)), pvR 230] g2 P
      refine tw_a vlt_23 hJ2 ytez_230 rfl tQ_n.2.1 ytgu_230 (by decide) ⟨by omega, by omega⟩ ⟨by omega, by omega⟩ (fun g3 hJ3 f1 f2 f3 f4 => ?_)
      show t_X d 216 24 lv [] g3 P
      refine t_2 vlt_24 rfl (w := (px_s1 lv 2 (oI ((k : Int) + 1)), [])) (pq_inc l2 (by decide)) ?_
      replace l0 : px_lg (px_s1 lv 2 (oI ((k : Int) + 1))) 0 = some (pvR 196) := s1_ne (by decide) (fun _ => rfl) l0
      replace l1 : px_lg (px_s1 lv 2 (oI ((k : Int) + 1))) 1 = some (oI ((m : Int))) := s1_ne (by decide) (fun _ => rfl) l1
      have l2 : px_lg (px_s1 lv 2 (oI ((k : Int) + 1))) 2 = some (oI ((k : Int) + 1)) := s1_eq
      generalize px_s1 lv 2 (oI ((k : Int) + 1)) = lv2 at l0 l1 l2 ⊢
      show t_X d 216 27 lv2 [] g3 P
      refine t_1 vlt_27 rfl (pb_goto (pc := 27) (by decide)) ?_
      show t_X d 216 2 lv2 [] g3 P
      refine ih (k + 1) g3 _ (by omega) (by omega) (by omega) hJ3 (fun j y1 hj => ?_) l0 l1 l2
      rcases Nat.lt_or_ge j k with z | z
      · exact (f3 j (by show j ≠ ((k : Int)).toNat; omega)).trans ((congrFun (fA_M J2.2 tQ_n.2.2.1) j).trans (hE j y1 z))
      · rw [show j = k by omega]; exact f2
    · skip
      refine t_0 vlt_2 rfl (ld_i l2) ?_
      refine t_0 vlt_3 rfl (pq_b (by decide)) ?_
      refine tb_ge vlt_5 (by decide) ⟨by omega, by omega⟩ ⟨by omega, by omega⟩ (fun c1 => ?_) (fun c1 => absurd c1 (by omega))
      show t_X d 216 30 lv [] g P
      exact hP g _ hJ (fun j y1 hj => hE j y1 (by omega)) l0 l1
set_option maxHeartbeats 1000000 in
theorem vlt_set {m : Nat} (hm : m < 32) {g : pH} {W : Nat} {g0 : pH} (hJ : J_ W g0 g) {pic : tC} (hp : ∀ j : Nat, j < 25 → pic j = fA g 210 (25 * m + j)) (hpb : ∀ j, -2147483648 ≤ pic j ∧ pic j ≤ 2147483647) {h tk : Nat → Int} (hh : ∀ w, 0 ≤ h w ∧ h w ≤ 99) (ht : ∀ t, 0 ≤ tk t ∧ tk t ≤ 99) (hT : ∀ j, 1 ≤ j → j < 8 → fA g 230 j = tk j) (hH : ∀ j, j < 8 → fA g 229 j = h j) {d : Nat} (hd : 6 ≤ d) {P : Option pv × pH → Prop} (hP : ∀ g : pH, g_I eG g → stR g (gG h tk (alN pic) 7 1 0) → P (none, g)) {lv : List (Nat × pv)} (l0 : px_lg lv 0 = some (pvR 196)) (l1 : px_lg lv 1 = some (oI (m : Int))) : t_X d 216 30 lv [] g P := by
  refine t_0 vlt_30 rfl (ld_a l0) ?_
  refine t_0 vlt_31 rfl (ld_a l0) ?_
  refine t_0 vlt_32 rfl (ld_i l1) ?_
  refine t_0 vlt_33 rfl rfl ?_
  refine t_3 vlt_34 rfl (ar := ([pvR 196, oI ((m : Int)), oI 0], [pvR 196])) (pcal_w (as := [oI 0, oI ((m : Int))]) rfl rfl rfl yteo_196) ⟨by omega, Nat.le_of_ble_eq_true rfl, Nat.le_of_ble_eq_true rfl, rfl⟩ ?_
  refine vak_run (pic := pic) hm (by omega) hJ.1 hp hpb ?_ rfl rfl rfl
  have rb := rB_l (f := alN pic) 8
  show t_X d 216 37 lv [oI (((rB (alN pic) 8 : Nat) : Int)), pvR 196] g P
  refine tw_c vlt_37 yteo_196 rfl (J_rf hJ.1 : J_ (2 ^ (cn 196 + 61)) g g) (by decide +kernel) ytgy_196_61 (by decide) ⟨by omega, by omega⟩ (fun g1 J1 e1 => ?_)
  show t_X d 216 40 lv [] g1 P
  refine t_0 vlt_40 rfl (ld_a l0) ?_
  refine t_0 vlt_41 rfl rfl ?_
  refine tw_lf vlt_44 yteo_196 rfl (J_rf J1.1 : J_ (2 ^ (cn 196 + 62)) g1 g1) (by decide +kernel) ytgy_196_62 ⟨by decide +kernel, by decide +kernel⟩ (fun g2 J2 e2 => ?_)
  show t_X d 216 47 lv [] g2 P
  have hS : sE [] [231, 233, 234] wR9 g2 g2 [] [fA g2 231, fA g2 233, fA g2 234] := S_0 J2.1
  refine t_0 vlt_47 rfl (ld_a l0) ?_
  refine t_0 vlt_48 rfl (ytcq_196_59 (S_J hS).1) ?_
  show t_X d 216 51 lv [pvR 233] g2 P
  refine t_0 vlt_51 rfl rfl ?_
  refine t_0 vlt_52 rfl rfl ?_
  refine ts_a (n := 1) rfl rfl (by decide) vlt_53 hS ytez_233 rfl wu_wR9_233 ytgu_233 (by decide) ⟨by omega, by omega⟩ ⟨by omega, by omega⟩ (fun g31 hS31 => ?_)
  replace hS31 : sE [] [231, 233, 234] wR9 g2 g31 [] [fA g2 231, updI (fA g2 233) 0 1, fA g2 234] := hS31
  obtain ⟨c233_14, ec233_14⟩ : ∃ z : Nat → Int, z = updI (fA g2 233) 0 1 := ⟨_, rfl⟩
  rw [← ec233_14] at hS31
  replace hS31 : sE [] [231, 233, 234] wR9 g2 g31 [] [fA g2 231, c233_14, fA g2 234] := hS31
  have fc233_14 : c233_14 0 = 1 := by rw [ec233_14]; exact if_pos rfl
  have nc233_14 : ∀ j, j ≠ 0 → c233_14 j = fA g2 233 j := fun j hj => by rw [ec233_14]; exact if_neg hj
  show t_X d 216 54 lv [] g31 P
  refine t_0 vlt_54 rfl (ld_a l0) ?_
  refine t_0 vlt_55 rfl (ytcq_196_60 (S_J hS31).1) ?_
  show t_X d 216 58 lv [pvR 234] g31 P
  refine t_0 vlt_58 rfl rfl ?_
  refine t_0 vlt_59 rfl rfl ?_
  refine ts_a (n := 2) rfl rfl (by decide) vlt_60 hS31 ytez_234 rfl wu_wR9_234 ytgu_234 (by decide) ⟨by omega, by omega⟩ ⟨by omega, by omega⟩ (fun g32 hS32 => ?_)
  replace hS32 : sE [] [231, 233, 234] wR9 g2 g32 [] [fA g2 231, c233_14, updI (fA g2 234) 0 0] := hS32
  obtain ⟨c234_15, ec234_15⟩ : ∃ z : Nat → Int, z = updI (fA g2 234) 0 0 := ⟨_, rfl⟩
  rw [← ec234_15] at hS32
  replace hS32 : sE [] [231, 233, 234] wR9 g2 g32 [] [fA g2 231, c233_14, c234_15] := hS32
  have fc234_15 : c234_15 0 = 0 := by rw [ec234_15]; exact if_pos rfl
  have nc234_15 : ∀ j, j ≠ 0 → c234_15 j = fA g2 234 j := fun j hj => by rw [ec234_15]; exact if_neg hj
  show t_X d 216 61 lv [] g32 P
  refine t_0 vlt_61 rfl (ld_a l0) ?_
  refine t_0 vlt_62 rfl (ytcq_196_57 (S_J hS32).1) ?_
  show t_X d 216 65 lv [pvR 231] g32 P
  refine t_0 vlt_65 rfl rfl ?_
  refine t_0 vlt_66 rfl rfl ?_
  refine ts_a (n := 0) rfl rfl (by decide) vlt_67 hS32 ytez_231 rfl wu_wR9_231 ytgu_231 (by decide) ⟨by omega, by omega⟩ ⟨by omega, by omega⟩ (fun g33 hS33 => ?_)
  replace hS33 : sE [] [231, 233, 234] wR9 g2 g33 [] [updI (fA g2 231) 0 0, c233_14, c234_15] := hS33
  obtain ⟨c231_16, ec231_16⟩ : ∃ z : Nat → Int, z = updI (fA g2 231) 0 0 := ⟨_, rfl⟩
  rw [← ec231_16] at hS33
  replace hS33 : sE [] [231, 233, 234] wR9 g2 g33 [] [c231_16, c233_14, c234_15] := hS33
  have fc231_16 : c231_16 0 = 0 := by rw [ec231_16]; exact if_pos rfl
  have nc231_16 : ∀ j, j ≠ 0 → c231_16 j = fA g2 231 j := fun j hj => by rw [ec231_16]; exact if_neg hj
  show t_X d 216 68 lv [] g33 P
  refine t_0 vlt_68 rfl rfl ?_
  refine t_2 vlt_69 rfl (w := (px_s1 lv 2 (oI 0), [])) rfl ?_
  replace l0 : px_lg (px_s1 lv 2 (oI 0)) 0 = some (pvR 196) := s1_ne (by decide) (fun _ => rfl) l0
  have l2 : px_lg (px_s1 lv 2 (oI 0)) 2 = some (oI 0) := s1_eq
  generalize px_s1 lv 2 (oI 0) = lv34 at l0 l2 ⊢
  show t_X d 216 70 lv34 [] g33 P
  have e62 : g2.2.1 196 62 = Int64.ofInt (-1) := by
    rw [e2]
    show pu g1.2.1 196 62 (xe_k 9223372036854775807) 196 62 = _
    rw [pu_rr]
    decide +kernel
  have b61 : cF g2 196 61 = ((rB (alN pic) 8 : Nat) : Int) := (cF_M J2.2 tB_n.1).trans (by
    rw [e1]
    show (pu g.1 196 61 (Int32.ofInt _) 196 61).toInt = _
    rw [pu_rr]
    exact oT (by omega) (by omega))
  have b230 : ∀ j, 1 ≤ j → j < 8 → fA g2 230 j = tk j := fun j y1 y2 => (congrFun ((fA_M J2.2 tB_n.2.1).trans (fA_M J1.2 tB_n.2.2.1)) j).trans (hT j y1 y2)
  have b229 : ∀ j, j < 8 → fA g2 229 j = h j := fun j y1 => (congrFun ((fA_M J2.2 tB_n.2.2.2.1).trans (fA_M J1.2 tB_n.2.2.2.2)) j).trans (hH j y1)
  refine vds_loop (rt := alN pic) hh ht b61 b230 b229 (by omega) 6 0 rfl 7 0 rfl (fun _ => 1) (fun i => ⟨by decide, by decide⟩) none g33 _ (J_up wN_n.2.1.2.2 (J_rf J2.1) (S_J hS33)) (fun i hi => absurd hi (Nat.not_lt_zero i)) ((congrFun (show fA g33 231 = c231_16 from S_a hS33 0 (Nat.le_of_ble_eq_true rfl)) 0).trans fc231_16) (fun i hi => by rw [show i = 0 by omega]; exact (congrFun (show fA g33 233 = c233_14 from S_a hS33 1 (Nat.le_of_ble_eq_true rfl)) 0).trans fc233_14) (fun i hi => by rw [show i = 0 by omega]; exact (congrFun (show fA g33 234 = c234_15 from S_a hS33 2 (Nat.le_of_ble_eq_true rfl)) 0).trans fc234_15) (stR_f (st := none) (S_J hS33).2 wN_n.2.2.2.1.1 wN_n.2.2.2.1.2 e62) l0 l2 (fun g9 lv9 j9 _ _ _ st9 l0 l2 => ?_)
  have st8 : stR g9 (gG h tk (alN pic) 7 1 0) := by rw [← cM_0 (gG h tk (alN pic) 7 1 0)]; exact st9
  have l2 : px_lg lv9 2 = some (oI (-1)) := l2
  refine t_0 vlt_70 rfl (ld_i l2) ?_
  refine tz_lt vlt_71 (by decide) ⟨by omega, by omega⟩ (fun c61 => ?_) (fun c61 => absurd c61 (by omega))
  show t_X d 216 194 lv9 [] g9 P
  refine t_5 vlt_194 rfl rfl ?_
  exact hP g9 j9.1 st8
theorem vlt_run {m : Nat} (hm : m < 32) {ki ma ta wo : Int} {k1 c : Int} {o v le st co en : tC} {g0 : pH} (hs : sdM g0 m ki ma ta wo) (hL : rLm g0 k1 c o v le st co en) {tk : Nat → Int} (et : tk = (fun w : Nat => aV o v (qF m ki ma ta wo w) le st co en c 116 99)) {d : Nat} (hd : 6 ≤ d) {P : Option pv × pH → Prop} (hG : g_I eG g0) {pic : tC} (hp : ∀ j : Nat, j < 25 → pic j = fA g0 210 (25 * m + j)) (hpb : ∀ j, -2147483648 ≤ pic j ∧ pic j ≤ 2147483647) {h : Nat → Int} (hh : ∀ w, 0 ≤ h w ∧ h w ≤ 99) (hH : ∀ j, j < 8 → fA g0 229 j = h j) (hP : ∀ g : pH, g_I eG g → stR g (gG h tk (alN pic) 7 1 0) → P (none, g)) {lv : List (Nat × pv)} (l0 : px_lg lv 0 = some (pvR 196)) (l1 : px_lg lv 1 = some (oI (m : Int))) : t_X d 216 0 lv [] g0 P := by
  refine t_0 vlt_0 rfl rfl ?_
  refine t_2 vlt_1 rfl (w := (px_s1 lv 2 (oI 1), [])) rfl ?_
  replace l0 : px_lg (px_s1 lv 2 (oI 1)) 0 = some (pvR 196) := s1_ne (by decide) (fun _ => rfl) l0
  replace l1 : px_lg (px_s1 lv 2 (oI 1)) 1 = some (oI ((m : Int))) := s1_ne (by decide) (fun _ => rfl) l1
  have l2 : px_lg (px_s1 lv 2 (oI 1)) 2 = some (oI 1) := s1_eq
  generalize px_s1 lv 2 (oI 1) = lv1 at l0 l1 l2 ⊢
  show t_X d 216 2 lv1 [] g0 P
  exact vlt_ask hm hs hL et hd (fun g lv hJ hE l0 l1 => vlt_set hm hJ (fun j hj => (hp j hj).trans (congrFun (fA_M hJ.2 tQ_n.2.2.2.2.1.2.2.2.2.1) _).symm) hpb hh (fun t => by rw [et]; exact aV_b (by decide)) hE (fun j hj => (congrFun (fA_M hJ.2 tQ_n.2.2.2.2.1.2.2.2.2.2) j).trans (hH j hj)) hd hP l0 l1) 8 1 g0 _ (by omega) (by omega) (by omega) (J_rf hG) (fun j y1 y2 => absurd y2 (by omega)) l0 l1 l2
