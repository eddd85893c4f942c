/-! by hand: laysTurns, its main loop (printed in part by wip/e2/lt.py) -/
theorem ql_0 : xe_look (xc 216) 0 = some (.iconst 1, 1, 0, 0, 0) := by decide +kernel
theorem ql_1 : xe_look (xc 216) 1 = some (.istore_n 2, 1, 0, 0, 0) := by decide +kernel
theorem ql_2 : xe_look (xc 216) 2 = some (.iload_n 2, 1, 0, 0, 0) := by decide +kernel
theorem ql_3 : xe_look (xc 216) 3 = some (.bipush 8, 2, 0, 0, 0) := by decide +kernel
theorem ql_5 : xe_look (xc 216) 5 = some (.if_icmp .ge 25, 3, 0, 0, 0) := by decide +kernel
theorem ql_8 : xe_look (xc 216) 8 = some (.aload_n 0, 1, 0, 0, 0) := by decide +kernel
theorem ql_9 : xe_look (xc 216) 9 = some (.getfield 110, 3, 12, 56, 1199) := by decide +kernel
theorem ql_12 : xe_look (xc 216) 12 = some (.iload_n 2, 1, 0, 0, 0) := by decide +kernel
theorem ql_13 : xe_look (xc 216) 13 = some (.aload_n 0, 1, 0, 0, 0) := by decide +kernel
theorem ql_14 : xe_look (xc 216) 14 = some (.iload_n 1, 1, 0, 0, 0) := by decide +kernel
theorem ql_15 : xe_look (xc 216) 15 = some (.iload_n 2, 1, 0, 0, 0) := by decide +kernel
theorem ql_16 : xe_look (xc 216) 16 = some (.bipush 116, 2, 0, 0, 0) := by decide +kernel
theorem ql_18 : xe_look (xc 216) 18 = some (.bipush 99, 2, 0, 0, 0) := by decide +kernel
theorem ql_20 : xe_look (xc 216) 20 = some (.invokevirtual 391, 3, 0, 169, 1234) := by decide +kernel
theorem ql_23 : xe_look (xc 216) 23 = some (.iastore, 1, 0, 0, 0) := by decide +kernel
theorem ql_24 : xe_look (xc 216) 24 = some (.iinc 2 1, 3, 0, 0, 0) := by decide +kernel
theorem ql_27 : xe_look (xc 216) 27 = some (.goto (-25), 3, 0, 0, 0) := by decide +kernel
theorem ql_30 : xe_look (xc 216) 30 = some (.aload_n 0, 1, 0, 0, 0) := by decide +kernel
theorem ql_31 : xe_look (xc 216) 31 = some (.aload_n 0, 1, 0, 0, 0) := by decide +kernel
theorem ql_32 : xe_look (xc 216) 32 = some (.iload_n 1, 1, 0, 0, 0) := by decide +kernel
theorem ql_33 : xe_look (xc 216) 33 = some (.iconst 0, 1, 0, 0, 0) := by decide +kernel
theorem ql_34 : xe_look (xc 216) 34 = some (.invokevirtual 236, 3, 0, 166, 1237) := by decide +kernel
theorem ql_37 : xe_look (xc 216) 37 = some (.putfield 444, 3, 12, 61, 1238) := by decide +kernel
theorem ql_40 : xe_look (xc 216) 40 = some (.aload_n 0, 1, 0, 0, 0) := by decide +kernel
theorem ql_41 : xe_look (xc 216) 41 = some (.ldc2_w 447, 3, 0, 9223372036854775807, 1185) := by decide +kernel
theorem ql_44 : xe_look (xc 216) 44 = some (.putfield 449, 3, 12, 62, 1239) := by decide +kernel
theorem ql_47 : xe_look (xc 216) 47 = some (.aload_n 0, 1, 0, 0, 0) := by decide +kernel
theorem ql_48 : xe_look (xc 216) 48 = some (.getfield 119, 3, 12, 59, 1202) := by decide +kernel
theorem ql_51 : xe_look (xc 216) 51 = some (.iconst 0, 1, 0, 0, 0) := by decide +kernel
theorem ql_52 : xe_look (xc 216) 52 = some (.iconst 1, 1, 0, 0, 0) := by decide +kernel
theorem ql_53 : xe_look (xc 216) 53 = some (.iastore, 1, 0, 0, 0) := by decide +kernel
theorem ql_54 : xe_look (xc 216) 54 = some (.aload_n 0, 1, 0, 0, 0) := by decide +kernel
theorem ql_55 : xe_look (xc 216) 55 = some (.getfield 122, 3, 12, 60, 1203) := by decide +kernel
theorem ql_58 : xe_look (xc 216) 58 = some (.iconst 0, 1, 0, 0, 0) := by decide +kernel
theorem ql_59 : xe_look (xc 216) 59 = some (.iconst 0, 1, 0, 0, 0) := by decide +kernel
theorem ql_60 : xe_look (xc 216) 60 = some (.iastore, 1, 0, 0, 0) := by decide +kernel
theorem ql_61 : xe_look (xc 216) 61 = some (.aload_n 0, 1, 0, 0, 0) := by decide +kernel
theorem ql_62 : xe_look (xc 216) 62 = some (.getfield 113, 3, 12, 57, 1200) := by decide +kernel
theorem ql_65 : xe_look (xc 216) 65 = some (.iconst 0, 1, 0, 0, 0) := by decide +kernel
theorem ql_66 : xe_look (xc 216) 66 = some (.iconst 0, 1, 0, 0, 0) := by decide +kernel
theorem ql_67 : xe_look (xc 216) 67 = some (.iastore, 1, 0, 0, 0) := by decide +kernel
theorem ql_68 : xe_look (xc 216) 68 = some (.iconst 0, 1, 0, 0, 0) := by decide +kernel
theorem ql_69 : xe_look (xc 216) 69 = some (.istore_n 2, 1, 0, 0, 0) := by decide +kernel
theorem ql_70 : xe_look (xc 216) 70 = some (.iload_n 2, 1, 0, 0, 0) := by decide +kernel
theorem ql_71 : xe_look (xc 216) 71 = some (.ifCond .lt 123, 3, 0, 0, 0) := by decide +kernel
theorem ql_74 : xe_look (xc 216) 74 = some (.aload_n 0, 1, 0, 0, 0) := by decide +kernel
theorem ql_75 : xe_look (xc 216) 75 = some (.getfield 113, 3, 12, 57, 1200) := by decide +kernel
theorem ql_78 : xe_look (xc 216) 78 = some (.iload_n 2, 1, 0, 0, 0) := by decide +kernel
theorem ql_79 : xe_look (xc 216) 79 = some (.aload_n 0, 1, 0, 0, 0) := by decide +kernel
theorem ql_80 : xe_look (xc 216) 80 = some (.getfield 113, 3, 12, 57, 1200) := by decide +kernel
theorem ql_83 : xe_look (xc 216) 83 = some (.iload_n 2, 1, 0, 0, 0) := by decide +kernel
theorem ql_84 : xe_look (xc 216) 84 = some (.iaload, 1, 0, 0, 0) := by decide +kernel
theorem ql_85 : xe_look (xc 216) 85 = some (.iconst 1, 1, 0, 0, 0) := by decide +kernel
theorem ql_86 : xe_look (xc 216) 86 = some (.iadd, 1, 0, 0, 0) := by decide +kernel
theorem ql_87 : xe_look (xc 216) 87 = some (.iastore, 1, 0, 0, 0) := by decide +kernel
theorem ql_88 : xe_look (xc 216) 88 = some (.aload_n 0, 1, 0, 0, 0) := by decide +kernel
theorem ql_89 : xe_look (xc 216) 89 = some (.getfield 113, 3, 12, 57, 1200) := by decide +kernel
theorem ql_92 : xe_look (xc 216) 92 = some (.iload_n 2, 1, 0, 0, 0) := by decide +kernel
theorem ql_93 : xe_look (xc 216) 93 = some (.iaload, 1, 0, 0, 0) := by decide +kernel
theorem ql_94 : xe_look (xc 216) 94 = some (.bipush 8, 2, 0, 0, 0) := by decide +kernel
theorem ql_96 : xe_look (xc 216) 96 = some (.if_icmp .ne 10, 3, 0, 0, 0) := by decide +kernel
theorem ql_99 : xe_look (xc 216) 99 = some (.iload_n 2, 1, 0, 0, 0) := by decide +kernel
theorem ql_100 : xe_look (xc 216) 100 = some (.iconst 1, 1, 0, 0, 0) := by decide +kernel
theorem ql_101 : xe_look (xc 216) 101 = some (.isub, 1, 0, 0, 0) := by decide +kernel
theorem ql_102 : xe_look (xc 216) 102 = some (.istore_n 2, 1, 0, 0, 0) := by decide +kernel
theorem ql_103 : xe_look (xc 216) 103 = some (.goto (-33), 3, 0, 0, 0) := by decide +kernel
theorem ql_106 : xe_look (xc 216) 106 = some (.aload_n 0, 1, 0, 0, 0) := by decide +kernel
theorem ql_107 : xe_look (xc 216) 107 = some (.getfield 122, 3, 12, 60, 1203) := by decide +kernel
theorem ql_110 : xe_look (xc 216) 110 = some (.iload_n 2, 1, 0, 0, 0) := by decide +kernel
theorem ql_111 : xe_look (xc 216) 111 = some (.iaload, 1, 0, 0, 0) := by decide +kernel
theorem ql_112 : xe_look (xc 216) 112 = some (.aload_n 0, 1, 0, 0, 0) := by decide +kernel
theorem ql_113 : xe_look (xc 216) 113 = some (.getfield 113, 3, 12, 57, 1200) := by decide +kernel
theorem ql_116 : xe_look (xc 216) 116 = some (.iload_n 2, 1, 0, 0, 0) := by decide +kernel
theorem ql_117 : xe_look (xc 216) 117 = some (.iaload, 1, 0, 0, 0) := by decide +kernel
theorem ql_118 : xe_look (xc 216) 118 = some (.invokestatic 218, 3, 0, 172, 1240) := by decide +kernel
theorem ql_121 : xe_look (xc 216) 121 = some (.istore_n 3, 1, 0, 0, 0) := by decide +kernel
theorem ql_122 : xe_look (xc 216) 122 = some (.aload_n 0, 1, 0, 0, 0) := by decide +kernel
theorem ql_123 : xe_look (xc 216) 123 = some (.getfield 119, 3, 12, 59, 1202) := by decide +kernel
theorem ql_126 : xe_look (xc 216) 126 = some (.iload_n 2, 1, 0, 0, 0) := by decide +kernel
theorem ql_127 : xe_look (xc 216) 127 = some (.iaload, 1, 0, 0, 0) := by decide +kernel
theorem ql_128 : xe_look (xc 216) 128 = some (.iload_n 3, 1, 0, 0, 0) := by decide +kernel
theorem ql_129 : xe_look (xc 216) 129 = some (.invokestatic 187, 3, 0, 196, 1121) := by decide +kernel
theorem ql_132 : xe_look (xc 216) 132 = some (.ifCond .eq 6, 3, 0, 0, 0) := by decide +kernel
theorem ql_135 : xe_look (xc 216) 135 = some (.goto (-65), 3, 0, 0, 0) := by decide +kernel
theorem ql_138 : xe_look (xc 216) 138 = some (.iload_n 2, 1, 0, 0, 0) := by decide +kernel
theorem ql_139 : xe_look (xc 216) 139 = some (.bipush 6, 2, 0, 0, 0) := by decide +kernel
theorem ql_141 : xe_look (xc 216) 141 = some (.if_icmp .ne 10, 3, 0, 0, 0) := by decide +kernel
theorem ql_144 : xe_look (xc 216) 144 = some (.aload_n 0, 1, 0, 0, 0) := by decide +kernel
theorem ql_145 : xe_look (xc 216) 145 = some (.invokevirtual 453, 3, 0, 224, 1241) := by decide +kernel
theorem ql_148 : xe_look (xc 216) 148 = some (.goto (-78), 3, 0, 0, 0) := by decide +kernel
theorem ql_151 : xe_look (xc 216) 151 = some (.aload_n 0, 1, 0, 0, 0) := by decide +kernel
theorem ql_152 : xe_look (xc 216) 152 = some (.getfield 119, 3, 12, 59, 1202) := by decide +kernel
theorem ql_155 : xe_look (xc 216) 155 = some (.iload_n 2, 1, 0, 0, 0) := by decide +kernel
theorem ql_156 : xe_look (xc 216) 156 = some (.iconst 1, 1, 0, 0, 0) := by decide +kernel
theorem ql_157 : xe_look (xc 216) 157 = some (.iadd, 1, 0, 0, 0) := by decide +kernel
theorem ql_158 : xe_look (xc 216) 158 = some (.aload_n 0, 1, 0, 0, 0) := by decide +kernel
theorem ql_159 : xe_look (xc 216) 159 = some (.getfield 119, 3, 12, 59, 1202) := by decide +kernel
theorem ql_162 : xe_look (xc 216) 162 = some (.iload_n 2, 1, 0, 0, 0) := by decide +kernel
theorem ql_163 : xe_look (xc 216) 163 = some (.iaload, 1, 0, 0, 0) := by decide +kernel
theorem ql_164 : xe_look (xc 216) 164 = some (.iconst 1, 1, 0, 0, 0) := by decide +kernel
theorem ql_165 : xe_look (xc 216) 165 = some (.iload_n 3, 1, 0, 0, 0) := by decide +kernel
theorem ql_166 : xe_look (xc 216) 166 = some (.ishl, 1, 0, 0, 0) := by decide +kernel
theorem ql_167 : xe_look (xc 216) 167 = some (.ior, 1, 0, 0, 0) := by decide +kernel
theorem ql_168 : xe_look (xc 216) 168 = some (.iastore, 1, 0, 0, 0) := by decide +kernel
theorem ql_169 : xe_look (xc 216) 169 = some (.aload_n 0, 1, 0, 0, 0) := by decide +kernel
theorem ql_170 : xe_look (xc 216) 170 = some (.getfield 122, 3, 12, 60, 1203) := by decide +kernel
theorem ql_173 : xe_look (xc 216) 173 = some (.iload_n 2, 1, 0, 0, 0) := by decide +kernel
theorem ql_174 : xe_look (xc 216) 174 = some (.iconst 1, 1, 0, 0, 0) := by decide +kernel
theorem ql_175 : xe_look (xc 216) 175 = some (.iadd, 1, 0, 0, 0) := by decide +kernel
theorem ql_176 : xe_look (xc 216) 176 = some (.iload_n 3, 1, 0, 0, 0) := by decide +kernel
theorem ql_177 : xe_look (xc 216) 177 = some (.iastore, 1, 0, 0, 0) := by decide +kernel
theorem ql_178 : xe_look (xc 216) 178 = some (.aload_n 0, 1, 0, 0, 0) := by decide +kernel
theorem ql_179 : xe_look (xc 216) 179 = some (.getfield 113, 3, 12, 57, 1200) := by decide +kernel
theorem ql_182 : xe_look (xc 216) 182 = some (.iload_n 2, 1, 0, 0, 0) := by decide +kernel
theorem ql_183 : xe_look (xc 216) 183 = some (.iconst 1, 1, 0, 0, 0) := by decide +kernel
theorem ql_184 : xe_look (xc 216) 184 = some (.iadd, 1, 0, 0, 0) := by decide +kernel
theorem ql_185 : xe_look (xc 216) 185 = some (.iconst 0, 1, 0, 0, 0) := by decide +kernel
theorem ql_186 : xe_look (xc 216) 186 = some (.iastore, 1, 0, 0, 0) := by decide +kernel
theorem ql_187 : xe_look (xc 216) 187 = some (.iload_n 2, 1, 0, 0, 0) := by decide +kernel
theorem ql_188 : xe_look (xc 216) 188 = some (.iconst 1, 1, 0, 0, 0) := by decide +kernel
theorem ql_189 : xe_look (xc 216) 189 = some (.iadd, 1, 0, 0, 0) := by decide +kernel
theorem ql_190 : xe_look (xc 216) 190 = some (.istore_n 2, 1, 0, 0, 0) := by decide +kernel
theorem ql_191 : xe_look (xc 216) 191 = some (.goto (-121), 3, 0, 0, 0) := by decide +kernel
theorem ql_194 : xe_look (xc 216) 194 = some (.return_, 1, 0, 0, 0) := by decide +kernel
theorem el_233 : eL[233]? = some (1, 7) := by decide +kernel
theorem el_234 : eL[234]? = some (1, 7) := by decide +kernel
theorem eg_f59 : (eG (cn 196 + 59)).2.2 = [234] := by decide +kernel
theorem eg_f60 : (eG (cn 196 + 60)).2.2 = [235] := by decide +kernel
theorem eg_a231 : eG (cn 231) = ((-2147483648), 2147483647, []) := by decide +kernel
theorem eg_a233 : eG (cn 233) = ((-2147483648), 2147483647, []) := by decide +kernel
theorem eg_a234 : eG (cn 234) = ((-2147483648), 2147483647, []) := by decide +kernel
theorem clampN {i : Nat} (h : i < 1000) : (nI i).toNatClampNeg = i := by
  show (nI i).toInt.toNat = i
  rw [nI_toInt (by omega)]
  omega
theorem t_ia {d μ pc K n x y z W : Nat} {lv : List (Nat × pv)} {r : List pv} {h0 g : pH} {P : Option pv × pH → Prop} {v j : Int32} (hq : xe_look (xc μ) pc = some (.iastore, 1, x, y, z)) (hJ : J_ W h0 g) (hk : eL[K]? = some (1, n)) (hW : W.testBit (cn K) = true) (hv : ok_v v.toInt (eG (cn K))) (hi : ¬ (j < 0 ∨ n ≤ j.toNatClampNeg)) (cont : ∀ g1 : pH, J_ W h0 g1 → (∀ k, k ≠ K → g1.2.2.2.1 k = g.2.2.2.1 k) → g1.2.2.2.1 K j.toNatClampNeg = v → (∀ u, u ≠ j.toNatClampNeg → g1.2.2.2.1 K u = g.2.2.2.1 K u) → t_X d μ (pc + 1) lv r g1 P) : t_X d μ pc lv (.inl v :: .inl j :: .inr (.inr (some K)) :: r) g P := t_4 hq rfl (piast hk hi) (cont _ (J_ia hJ hk hW hv) (fun k hk => pu_ne _ _ hk) (pu_at _ _ _ _) (fun u hu => pu_nj _ _ hu))
def rw_ (g : pH) (k : Nat) : Int := (g.2.2.2.1 231 k).toInt
def msr (g : pH) : Nat → Nat
  | 0 => 0
  | n + 1 => msr g n + (8 - rw_ g n).toNat * 9 ^ (6 - n)
theorem msr_eq {g g' : pH} : ∀ {n : Nat}, (∀ k, k < n → rw_ g k = rw_ g' k) → msr g n = msr g' n
  | 0, _ => rfl
  | n + 1, h => by
    show msr g n + (8 - rw_ g n).toNat * 9 ^ (6 - n) = msr g' n + (8 - rw_ g' n).toNat * 9 ^ (6 - n)
    rw [msr_eq (n := n) (fun k hk => h k (by omega)), h n (by omega)]
theorem nI_pre2 {i : Nat} (h : i < 7) : nI (i + 1) - Int32.ofInt 1 = nI i := by
  have : ∀ i, i < 7 → nI (i + 1) - Int32.ofInt 1 = nI i := by decide +kernel
  exact this i h
set_option maxHeartbeats 8000000 in
theorem lt_loop {d W : Nat} (hd : 4 ≤ d) {h0 : pH} (w231 : W.testBit (cn 231) = true) (w232 : W.testBit (cn 232) = true) (w233 : W.testBit (cn 233) = true) (w234 : W.testBit (cn 234) = true) (w62 : W.testBit (cn 196 + 62) = true) {P : Option pv × pH → Prop} (hP : ∀ g : pH, J_ W h0 g → P (none, g)) : ∀ (M i : Nat) (g : pH) (lv : List (Nat × pv)), msr g (i + 1) ≤ M → i ≤ 6 → J_ W h0 g → (∀ k, k < i → 1 ≤ rw_ g k ∧ rw_ g k ≤ 7) → (0 ≤ rw_ g i ∧ rw_ g i ≤ 7) → (∀ k, k ≤ i → 0 ≤ (g.2.2.2.1 234 k).toInt ∧ (g.2.2.2.1 234 k).toInt ≤ 7) → px_lg lv 0 = some (.inr (.inr (some 196))) → px_lg lv 2 = some (.inl (nI i)) → t_X d 216 70 lv [] g P := by
  intro M
  induction M with
  | zero =>
    intro i g lv hM hi hJ h1 h2 h3 l0 l2
    have hp : 0 < 9 ^ (6 - i) := Nat.pow_pos (by omega)
    have hm : msr g (i + 1) = msr g i + (8 - rw_ g i).toNat * 9 ^ (6 - i) := rfl
    have hq : 1 * 1 ≤ (8 - rw_ g i).toNat * 9 ^ (6 - i) := Nat.mul_le_mul (by omega) hp
    omega
  | succ M ih =>
    intro i g lv hM hi hJ h1 h2 h3 l0 l2
    have hp : 0 < 9 ^ (6 - i) := Nat.pow_pos (by omega)
    have hm : msr g (i + 1) = msr g i + (8 - rw_ g i).toNat * 9 ^ (6 - i) := rfl
    have hq : 1 * 1 ≤ (8 - rw_ g i).toNat * 9 ^ (6 - i) := Nat.mul_le_mul (by omega) hp
    have hge : ¬ nI i < 0 := fun z => by
      have z := i32_lt0.mp z
      rw [nI_toInt (by omega)] at z
      omega
    have hcl : ¬ (nI i < 0 ∨ 7 ≤ (nI i).toNatClampNeg) := e_clamp (by rw [nI_toInt (by omega)]; omega) (by rw [nI_toInt (by omega)]; omega)
    have hr := gI_r (r := 231) hJ.1 el_196 (Nat.le_of_ble_eq_true rfl) (y := 57) rfl eg_f57
    refine t_0 ql_70 rfl (ld_i l2) ?_
    refine t_1 ql_71 rfl (pb_lt_f (pc := 71) (by decide) hge) ?_
    show t_X d 216 74 lv [] g P
    refine t_0 ql_74 rfl (ld_a l0) ?_
    refine t_0 ql_75 rfl (pget el_196 hr) ?_
    refine t_0 ql_78 rfl (ld_i l2) ?_
    refine t_0 ql_79 rfl (ld_a l0) ?_
    refine t_0 ql_80 rfl (pget el_196 hr) ?_
    refine t_0 ql_83 rfl (ld_i l2) ?_
    refine t_0 ql_84 rfl (piald (by decide) el_231 hcl) ?_
    refine t_0 ql_85 rfl rfl ?_
    refine t_0 ql_86 rfl rfl ?_
    refine t_ia ql_87 hJ el_231 w231 (by rw [eg_a231]; exact ok_full32 _) hcl (fun g1 hJ1 k1 k2 k3 => ?_)
    clear hr
    have hr := gI_r (r := 231) hJ1.1 el_196 (Nat.le_of_ble_eq_true rfl) (y := 57) rfl eg_f57
    have hs := gI_r (r := 233) hJ1.1 el_196 (Nat.le_of_ble_eq_true rfl) (y := 59) rfl eg_f59
    have hc := gI_r (r := 234) hJ1.1 el_196 (Nat.le_of_ble_eq_true rfl) (y := 60) rfl eg_f60
    have hcN := clampN (i := i) (by omega)
    rw [hcN] at k2 k3
    have r1 : rw_ g1 i = rw_ g i + 1 := by
      have h2' : 0 ≤ (g.2.2.2.1 231 i).toInt ∧ (g.2.2.2.1 231 i).toInt ≤ 7 := h2
      have e1 : (Int32.ofInt 1).toInt = 1 := by decide
      show (g1.2.2.2.1 231 i).toInt = (g.2.2.2.1 231 i).toInt + 1
      rw [k2, Jvm.Kit.i32_add (by rw [e1]; omega) (by rw [e1]; omega), e1]
    have r2 : ∀ k, k < i → rw_ g1 k = rw_ g k := fun k hk => congrArg Int32.toInt (k3 k (by omega))
    have c1 : ∀ k, k ≤ i → 0 ≤ (g1.2.2.2.1 234 k).toInt ∧ (g1.2.2.2.1 234 k).toInt ≤ 7 := fun k hk => by
      rw [k1 234 (by decide)]
      exact h3 k hk
    have m1 : msr g1 i = msr g i := msr_eq r2
    have hm1 : msr g1 (i + 1) = msr g1 i + (8 - rw_ g1 i).toNat * 9 ^ (6 - i) := rfl
    have hsu : (8 - rw_ g i).toNat = (8 - rw_ g1 i).toNat + 1 := by omega
    rw [hsu, Nat.succ_mul] at hm
    show t_X d 216 88 lv [] g1 P
    refine t_0 ql_88 rfl (ld_a l0) ?_
    refine t_0 ql_89 rfl (pget el_196 hr) ?_
    refine t_0 ql_92 rfl (ld_i l2) ?_
    refine t_0 ql_93 rfl (piald (by decide) el_231 hcl) ?_
    refine t_0 ql_94 rfl rfl ?_
    by_cases h8 : g1.2.2.2.1 231 (nI i).toNatClampNeg = (Int8.ofInt (8)).toInt32
    · clear hs hc
      refine t_1 ql_96 rfl (pc_ne_f (pc := 96) (by decide) h8) ?_
      show t_X d 216 99 lv [] g1 P
      refine t_0 ql_99 rfl (ld_i l2) ?_
      refine t_0 ql_100 rfl rfl ?_
      refine t_0 ql_101 rfl rfl ?_
      refine t_2 ql_102 rfl (w := (px_s1 lv 2 (.inl ((nI i) - (Int32.ofInt (1)))), [])) rfl ?_
      replace l0 : px_lg (px_s1 lv 2 (.inl ((nI i) - (Int32.ofInt (1))))) 0 = some (.inr (.inr (some 196))) := s1_ne (by decide) (fun _ => rfl) l0
      have l2 : px_lg (px_s1 lv 2 (.inl ((nI i) - (Int32.ofInt (1))))) 2 = some (.inl ((nI i) - (Int32.ofInt (1)))) := s1_eq
      generalize px_s1 lv 2 (.inl ((nI i) - (Int32.ofInt (1)))) = lv1 at l0 l2 ⊢
      show t_X d 216 103 lv1 [] g1 P
      refine t_1 ql_103 rfl (pb_goto (pc := 103) (by decide)) ?_
      show t_X d 216 70 lv1 [] g1 P
      cases i with
      | zero =>
        refine t_0 ql_70 rfl (ld_i l2) ?_
        refine t_1 ql_71 rfl (pb_lt_t (pc := 71) (by decide) (by decide +kernel)) ?_
        refine t_5 ql_194 rfl rfl ?_
        exact hP g1 hJ1
      | succ i =>
        rw [nI_pre2 (by omega)] at l2
        have q1 := h1 i (by omega)
        have q2 := r2 i (by omega)
        exact ih i g1 _ (by omega) (by omega) hJ1 (fun k hk => by rw [r2 k (by omega)]; exact h1 k (by omega)) (by rw [q2]; omega) (fun k hk => c1 k (by omega)) l0 l2
    · have r7 : 1 ≤ rw_ g1 i ∧ rw_ g1 i ≤ 7 := by
        refine ⟨by omega, ?_⟩
        by_cases z : rw_ g1 i = 8
        · refine absurd (Int32.toInt_inj.mp ?_) h8
          rw [hcN]
          show rw_ g1 i = _
          rw [z]
          decide +kernel
        · omega
      have rows : ∀ k, k ≤ i → 1 ≤ rw_ g1 k ∧ rw_ g1 k ≤ 7 := fun k hk => by
        by_cases e : k = i
        · rw [e]; exact r7
        · rw [r2 k (by omega)]; exact h1 k (by omega)
      have stay : ∀ lv2 : List (Nat × pv), px_lg lv2 0 = some (.inr (.inr (some 196))) → px_lg lv2 2 = some (.inl (nI i)) → t_X d 216 70 lv2 [] g1 P := fun lv2 a0 a2 => ih i g1 lv2 (by omega) hi hJ1 (fun k hk => rows k (by omega)) ⟨by omega, r7.2⟩ c1 a0 a2
      refine t_1 ql_96 rfl (pc_ne_t (pc := 96) (by decide) h8) ?_
      show t_X d 216 106 lv [] g1 P
      refine t_0 ql_106 rfl (ld_a l0) ?_
      refine t_0 ql_107 rfl (pget el_196 hc) ?_
      refine t_0 ql_110 rfl (ld_i l2) ?_
      refine t_0 ql_111 rfl (piald (by decide) el_234 hcl) ?_
      refine t_0 ql_112 rfl (ld_a l0) ?_
      refine t_0 ql_113 rfl (pget el_196 hr) ?_
      refine t_0 ql_116 rfl (ld_i l2) ?_
      refine t_0 ql_117 rfl (piald (by decide) el_231 hcl) ?_
      refine t_3 ql_118 rfl (ar := ([.inl (g1.2.2.2.1 234 (nI i).toNatClampNeg), .inl (g1.2.2.2.1 231 (nI i).toNatClampNeg)], [])) (pcal_s ⟨Or.inl rfl, rfl, Nat.le_of_ble_eq_true rfl⟩) ⟨by omega, Nat.le_of_ble_eq_true rfl, Nat.le_of_ble_eq_true rfl, rfl⟩ ?_
      refine both_run (by rw [hcN]; exact c1 i (Nat.le_refl _)) (by rw [hcN]; exact ⟨by have := r7.1; show 0 ≤ rw_ g1 i; omega, r7.2⟩) (fun w w0 w7 => ?_)
      show t_X d 216 121 lv [.inl w] g1 P
      refine t_2 ql_121 rfl (w := (px_s1 lv 3 (.inl (w)), [])) rfl ?_
      replace l0 : px_lg (px_s1 lv 3 (.inl (w))) 0 = some (.inr (.inr (some 196))) := s1_ne (by decide) (fun _ => rfl) l0
      replace l2 : px_lg (px_s1 lv 3 (.inl (w))) 2 = some (.inl (nI i)) := s1_ne (by decide) (fun _ => rfl) l2
      have l3 : px_lg (px_s1 lv 3 (.inl (w))) 3 = some (.inl (w)) := s1_eq
      generalize px_s1 lv 3 (.inl (w)) = lv1 at l0 l2 l3 ⊢
      show t_X d 216 122 lv1 [] g1 P
      refine t_0 ql_122 rfl (ld_a l0) ?_
      refine t_0 ql_123 rfl (pget el_196 hs) ?_
      refine t_0 ql_126 rfl (ld_i l2) ?_
      refine t_0 ql_127 rfl (piald (by decide) el_233 hcl) ?_
      refine t_0 ql_128 rfl (ld_i l3) ?_
      refine t_3 ql_129 rfl (ar := ([.inl (g1.2.2.2.1 233 (nI i).toNatClampNeg), .inl w], [])) (pcal_s ⟨Or.inl rfl, rfl, Nat.le_of_ble_eq_true rfl⟩) ⟨by omega, Nat.le_of_ble_eq_true rfl, Nat.le_of_ble_eq_true rfl, rfl⟩ ?_
      refine has_run (fun _ => ?_) (fun _ => ?_)
      · show t_X d 216 132 lv1 [.inl (Int32.ofInt 1)] g1 P
        refine t_1 ql_132 rfl (pb_eq_f (pc := 132) (by decide) i1_n) ?_
        show t_X d 216 135 lv1 [] g1 P
        refine t_1 ql_135 rfl (pb_goto (pc := 135) (by decide)) ?_
        show t_X d 216 70 lv1 [] g1 P
        exact stay _ l0 l2
      · show t_X d 216 132 lv1 [.inl (Int32.ofInt 0)] g1 P
        refine t_1 ql_132 rfl (pb_eq_t (pc := 132) (by decide) i0_0) ?_
        show t_X d 216 138 lv1 [] g1 P
        refine t_0 ql_138 rfl (ld_i l2) ?_
        refine t_0 ql_139 rfl rfl ?_
        by_cases h6 : nI i = (Int8.ofInt (6)).toInt32
        · have hi6 : i = 6 := by
            have : ∀ i, i < 7 → nI i = (Int8.ofInt (6)).toInt32 → i = 6 := by decide +kernel
            exact this i (by omega) h6
          refine t_1 ql_141 rfl (pc_ne_f (pc := 141) (by decide) h6) ?_
          show t_X d 216 144 lv1 [] g1 P
          refine t_0 ql_144 rfl (ld_a l0) ?_
          refine t_3 ql_145 rfl (ar := ([pvR 196], [])) (pcal_v0 rfl rfl el_196) ⟨by omega, Nat.le_of_ble_eq_true rfl, Nat.le_of_ble_eq_true rfl, rfl⟩ ?_
          refine nr_run (by omega) hJ1 w232 w62 (fun j hj => rows j (by omega)) (fun g2 hJ2 hK => ?_) rfl
          show t_X d 216 148 lv1 [] g2 P
          refine t_1 ql_148 rfl (pb_goto (pc := 148) (by decide)) ?_
          have e1 : ∀ k, rw_ g2 k = rw_ g1 k := fun k => by
            show (g2.2.2.2.1 231 k).toInt = _
            rw [hK.2 231 (by decide)]
            rfl
          have e2 : msr g2 (i + 1) = msr g1 (i + 1) := msr_eq (fun k _ => e1 k)
          exact ih i g2 _ (by omega) hi hJ2 (fun k hk => by rw [e1]; exact rows k (by omega)) (by rw [e1]; omega) (fun k hk => by rw [hK.2 234 (by decide)]; exact c1 k hk) l0 l2
        · have hi6 : i < 6 := by
            by_cases e : i = 6
            · refine absurd ?_ h6
              rw [e]
              decide +kernel
            · omega
          have hcl2 : ¬ (nI i + Int32.ofInt 1 < 0 ∨ 7 ≤ (nI i + Int32.ofInt 1).toNatClampNeg) := by
            rw [j_inc (by omega)]
            exact e_clamp (by rw [nI_toInt (by omega)]; omega) (by rw [nI_toInt (by omega)]; omega)
          have hcM : (nI i + Int32.ofInt 1).toNatClampNeg = i + 1 := by
            rw [j_inc (by omega)]
            exact clampN (by omega)
          refine t_1 ql_141 rfl (pc_ne_t (pc := 141) (by decide) h6) ?_
          show t_X d 216 151 lv1 [] g1 P
          refine t_0 ql_151 rfl (ld_a l0) ?_
          refine t_0 ql_152 rfl (pget el_196 hs) ?_
          refine t_0 ql_155 rfl (ld_i l2) ?_
          refine t_0 ql_156 rfl rfl ?_
          refine t_0 ql_157 rfl rfl ?_
          refine t_0 ql_158 rfl (ld_a l0) ?_
          refine t_0 ql_159 rfl (pget el_196 hs) ?_
          refine t_0 ql_162 rfl (ld_i l2) ?_
          refine t_0 ql_163 rfl (piald (by decide) el_233 hcl) ?_
          refine t_0 ql_164 rfl rfl ?_
          refine t_0 ql_165 rfl (ld_i l3) ?_
          refine t_0 ql_166 rfl rfl ?_
          refine t_0 ql_167 rfl rfl ?_
          refine t_ia ql_168 hJ1 el_233 w233 (by rw [eg_a233]; exact ok_full32 _) hcl2 (fun g2 hJ2 a1 _ _ => ?_)
          have hc2 := gI_r (r := 234) hJ2.1 el_196 (Nat.le_of_ble_eq_true rfl) (y := 60) rfl eg_f60
          show t_X d 216 169 lv1 [] g2 P
          refine t_0 ql_169 rfl (ld_a l0) ?_
          refine t_0 ql_170 rfl (pget el_196 hc2) ?_
          refine t_0 ql_173 rfl (ld_i l2) ?_
          refine t_0 ql_174 rfl rfl ?_
          refine t_0 ql_175 rfl rfl ?_
          refine t_0 ql_176 rfl (ld_i l3) ?_
          refine t_ia ql_177 hJ2 el_234 w234 (by rw [eg_a234]; exact ok_full32 _) hcl2 (fun g3 hJ3 b1 b2 b3 => ?_)
          have hr3 := gI_r (r := 231) hJ3.1 el_196 (Nat.le_of_ble_eq_true rfl) (y := 57) rfl eg_f57
          show t_X d 216 178 lv1 [] g3 P
          refine t_0 ql_178 rfl (ld_a l0) ?_
          refine t_0 ql_179 rfl (pget el_196 hr3) ?_
          refine t_0 ql_182 rfl (ld_i l2) ?_
          refine t_0 ql_183 rfl rfl ?_
          refine t_0 ql_184 rfl rfl ?_
          refine t_0 ql_185 rfl rfl ?_
          refine t_ia ql_186 hJ3 el_231 w231 (by rw [eg_a231]; exact ok_full32 _) hcl2 (fun g4 hJ4 d1 d2 d3 => ?_)
          rw [hcM] at b2 b3 d2 d3
          show t_X d 216 187 lv1 [] g4 P
          refine t_0 ql_187 rfl (ld_i l2) ?_
          refine t_0 ql_188 rfl rfl ?_
          refine t_0 ql_189 rfl rfl ?_
          refine t_2 ql_190 rfl (w := (px_s1 lv1 2 (.inl (nI i + Int32.ofInt 1)), [])) rfl ?_
          refine t_1 ql_191 rfl (pb_goto (pc := 191) (by decide)) ?_
          have e1 : ∀ k, k ≤ i → rw_ g4 k = rw_ g1 k := fun k hk => by
            show (g4.2.2.2.1 231 k).toInt = (g1.2.2.2.1 231 k).toInt
            rw [d3 k (by omega), b1 231 (by decide), a1 231 (by decide)]
          have e2 : rw_ g4 (i + 1) = 0 := by
            show (g4.2.2.2.1 231 (i + 1)).toInt = 0
            rw [d2]
            decide +kernel
          have e3 : msr g4 (i + 1) = msr g1 (i + 1) := msr_eq (fun k hk => e1 k (by omega))
          have e4 : msr g4 (i + 1 + 1) = msr g4 (i + 1) + (8 - rw_ g4 (i + 1)).toNat * 9 ^ (6 - (i + 1)) := rfl
          have e5 : 9 ^ (6 - i) = 9 ^ (6 - (i + 1)) * 9 := by
            rw [show 6 - i = (6 - (i + 1)) + 1 by omega, Nat.pow_succ]
          have e6 : 0 < 9 ^ (6 - (i + 1)) := Nat.pow_pos (by omega)
          rw [e2, show ((8 : Int) - 0).toNat = 8 from rfl] at e4
          refine ih (i + 1) g4 _ (by omega) (by omega) hJ4 (fun k hk => by rw [e1 k (by omega)]; exact rows k (by omega)) (by rw [e2]; decide) (fun k hk => ?_) (s1_ne (by decide) (fun _ => rfl) l0) (by rw [j_inc (by omega)]; exact s1_eq)
          rw [d1 234 (by decide)]
          by_cases e : k = i + 1
          · rw [e, b2]
            exact ⟨w0, w7⟩
          · rw [b3 k e, a1 234 (by decide)]
            exact c1 k (by omega)
