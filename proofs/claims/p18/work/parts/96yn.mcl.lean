/-! reference: the law's text: its beginning and its end (printed by wip/e2/v11.py) -/
theorem jlw_0 : xe_look (xc 213) 0 = some (.iload_n 1, 1, 0, 0, 0) := by decide +kernel
theorem jlw_1 : xe_look (xc 213) 1 = some (.iconst 1, 1, 0, 0, 0) := by decide +kernel
theorem jlw_2 : xe_look (xc 213) 2 = some (.sipush 240, 3, 0, 0, 0) := by decide +kernel
theorem jlw_5 : xe_look (xc 213) 5 = some (.invokestatic 201, 3, 0, 199, 1131) := by decide +kernel
theorem jlw_8 : xe_look (xc 213) 8 = some (.ifCond .eq 11, 3, 0, 0, 0) := by decide +kernel
theorem jlw_11 : xe_look (xc 213) 11 = some (.iload_n 1, 1, 0, 0, 0) := by decide +kernel
theorem jlw_12 : xe_look (xc 213) 12 = some (.aload_n 0, 1, 0, 0, 0) := by decide +kernel
theorem jlw_13 : xe_look (xc 213) 13 = some (.getfield 194, 3, 12, 17, 1132) := by decide +kernel
theorem jlw_16 : xe_look (xc 213) 16 = some (.if_icmp .le 5, 3, 0, 0, 0) := by decide +kernel
theorem jlw_19 : xe_look (xc 213) 19 = some (.iconst (-1), 1, 0, 0, 0) := by decide +kernel
theorem jlw_20 : xe_look (xc 213) 20 = some (.ireturn, 1, 0, 0, 0) := by decide +kernel
theorem jlw_21 : xe_look (xc 213) 21 = some (.aload_n 0, 1, 0, 0, 0) := by decide +kernel
theorem jlw_22 : xe_look (xc 213) 22 = some (.iconst 0, 1, 0, 0, 0) := by decide +kernel
theorem jlw_23 : xe_look (xc 213) 23 = some (.putfield 242, 3, 12, 18, 1135) := by decide +kernel
theorem jlw_26 : xe_look (xc 213) 26 = some (.aload_n 0, 1, 0, 0, 0) := by decide +kernel
theorem jlw_27 : xe_look (xc 213) 27 = some (.iload_n 1, 1, 0, 0, 0) := by decide +kernel
theorem jlw_28 : xe_look (xc 213) 28 = some (.putfield 277, 3, 12, 19, 1190) := by decide +kernel
theorem jlw_31 : xe_look (xc 213) 31 = some (.aload_n 0, 1, 0, 0, 0) := by decide +kernel
theorem jlw_32 : xe_look (xc 213) 32 = some (.iconst 0, 1, 0, 0, 0) := by decide +kernel
theorem jlw_33 : xe_look (xc 213) 33 = some (.putfield 296, 3, 12, 32, 1222) := by decide +kernel
theorem jlw_36 : xe_look (xc 213) 36 = some (.aload_n 0, 1, 0, 0, 0) := by decide +kernel
theorem jlw_37 : xe_look (xc 213) 37 = some (.iconst 0, 1, 0, 0, 0) := by decide +kernel
theorem jlw_38 : xe_look (xc 213) 38 = some (.putfield 353, 3, 12, 34, 1230) := by decide +kernel
theorem jlw_41 : xe_look (xc 213) 41 = some (.aload_n 0, 1, 0, 0, 0) := by decide +kernel
theorem jlw_42 : xe_look (xc 213) 42 = some (.invokevirtual 359, 3, 0, 233, 1231) := by decide +kernel
theorem jlw_45 : xe_look (xc 213) 45 = some (.istore_n 2, 1, 0, 0, 0) := by decide +kernel
theorem jlw_86 : xe_look (xc 213) 86 = some (.aload_n 0, 1, 0, 0, 0) := by decide +kernel
theorem jlw_87 : xe_look (xc 213) 87 = some (.iconst 0, 1, 0, 0, 0) := by decide +kernel
theorem jlw_88 : xe_look (xc 213) 88 = some (.putfield 194, 3, 12, 17, 1132) := by decide +kernel
theorem jlw_91 : xe_look (xc 213) 91 = some (.iload_n 2, 1, 0, 0, 0) := by decide +kernel
theorem jlw_92 : xe_look (xc 213) 92 = some (.ifCond .ne 8, 3, 0, 0, 0) := by decide +kernel
theorem jlw_95 : xe_look (xc 213) 95 = some (.aload_n 0, 1, 0, 0, 0) := by decide +kernel
theorem jlw_96 : xe_look (xc 213) 96 = some (.getfield 286, 3, 12, 20, 1233) := by decide +kernel
theorem jlw_99 : xe_look (xc 213) 99 = some (.ireturn, 1, 0, 0, 0) := by decide +kernel
theorem jlw_100 : xe_look (xc 213) 100 = some (.aload_n 0, 1, 0, 0, 0) := by decide +kernel
theorem jlw_101 : xe_look (xc 213) 101 = some (.aload_n 0, 1, 0, 0, 0) := by decide +kernel
theorem jlw_102 : xe_look (xc 213) 102 = some (.getfield 353, 3, 12, 34, 1230) := by decide +kernel
theorem jlw_105 : xe_look (xc 213) 105 = some (.putfield 362, 3, 12, 35, 1124) := by decide +kernel
theorem jlw_108 : xe_look (xc 213) 108 = some (.iconst 0, 1, 0, 0, 0) := by decide +kernel
theorem jlw_109 : xe_look (xc 213) 109 = some (.istore_n 3, 1, 0, 0, 0) := by decide +kernel
theorem jlw_110 : xe_look (xc 213) 110 = some (.iload_n 3, 1, 0, 0, 0) := by decide +kernel
theorem jlw_111 : xe_look (xc 213) 111 = some (.aload_n 0, 1, 0, 0, 0) := by decide +kernel
theorem jlw_112 : xe_look (xc 213) 112 = some (.getfield 296, 3, 12, 32, 1222) := by decide +kernel
theorem jlw_115 : xe_look (xc 213) 115 = some (.if_icmp .ge 21, 3, 0, 0, 0) := by decide +kernel
theorem jlw_118 : xe_look (xc 213) 118 = some (.aload_n 0, 1, 0, 0, 0) := by decide +kernel
theorem jlw_119 : xe_look (xc 213) 119 = some (.getfield 86, 3, 12, 42, 1150) := by decide +kernel
theorem jlw_122 : xe_look (xc 213) 122 = some (.iload_n 3, 1, 0, 0, 0) := by decide +kernel
theorem jlw_123 : xe_look (xc 213) 123 = some (.aload_n 0, 1, 0, 0, 0) := by decide +kernel
theorem jlw_124 : xe_look (xc 213) 124 = some (.getfield 68, 3, 12, 36, 1194) := by decide +kernel
theorem jlw_127 : xe_look (xc 213) 127 = some (.iload_n 3, 1, 0, 0, 0) := by decide +kernel
theorem jlw_128 : xe_look (xc 213) 128 = some (.iaload, 1, 0, 0, 0) := by decide +kernel
theorem jlw_129 : xe_look (xc 213) 129 = some (.iastore, 1, 0, 0, 0) := by decide +kernel
theorem jlw_130 : xe_look (xc 213) 130 = some (.iinc 3 1, 3, 0, 0, 0) := by decide +kernel
theorem jlw_133 : xe_look (xc 213) 133 = some (.goto (-23), 3, 0, 0, 0) := by decide +kernel
theorem jlw_136 : xe_look (xc 213) 136 = some (.iconst 0, 1, 0, 0, 0) := by decide +kernel
theorem jlw_137 : xe_look (xc 213) 137 = some (.istore_n 3, 1, 0, 0, 0) := by decide +kernel
theorem jlw_138 : xe_look (xc 213) 138 = some (.iload_n 3, 1, 0, 0, 0) := by decide +kernel
theorem jlw_139 : xe_look (xc 213) 139 = some (.aload_n 0, 1, 0, 0, 0) := by decide +kernel
theorem jlw_140 : xe_look (xc 213) 140 = some (.getfield 353, 3, 12, 34, 1230) := by decide +kernel
theorem jlw_143 : xe_look (xc 213) 143 = some (.if_icmp .ge 57, 3, 0, 0, 0) := by decide +kernel
theorem jlw_146 : xe_look (xc 213) 146 = some (.aload_n 0, 1, 0, 0, 0) := by decide +kernel
theorem jlw_147 : xe_look (xc 213) 147 = some (.getfield 89, 3, 12, 43, 1125) := by decide +kernel
theorem jlw_150 : xe_look (xc 213) 150 = some (.iload_n 3, 1, 0, 0, 0) := by decide +kernel
theorem jlw_151 : xe_look (xc 213) 151 = some (.aload_n 0, 1, 0, 0, 0) := by decide +kernel
theorem jlw_152 : xe_look (xc 213) 152 = some (.getfield 74, 3, 12, 38, 1195) := by decide +kernel
theorem jlw_155 : xe_look (xc 213) 155 = some (.iload_n 3, 1, 0, 0, 0) := by decide +kernel
theorem jlw_156 : xe_look (xc 213) 156 = some (.iaload, 1, 0, 0, 0) := by decide +kernel
theorem jlw_157 : xe_look (xc 213) 157 = some (.iastore, 1, 0, 0, 0) := by decide +kernel
theorem jlw_158 : xe_look (xc 213) 158 = some (.aload_n 0, 1, 0, 0, 0) := by decide +kernel
theorem jlw_159 : xe_look (xc 213) 159 = some (.getfield 92, 3, 12, 44, 1129) := by decide +kernel
theorem jlw_162 : xe_look (xc 213) 162 = some (.iload_n 3, 1, 0, 0, 0) := by decide +kernel
theorem jlw_163 : xe_look (xc 213) 163 = some (.aload_n 0, 1, 0, 0, 0) := by decide +kernel
theorem jlw_164 : xe_look (xc 213) 164 = some (.getfield 77, 3, 12, 39, 1196) := by decide +kernel
theorem jlw_167 : xe_look (xc 213) 167 = some (.iload_n 3, 1, 0, 0, 0) := by decide +kernel
theorem jlw_168 : xe_look (xc 213) 168 = some (.iaload, 1, 0, 0, 0) := by decide +kernel
theorem jlw_169 : xe_look (xc 213) 169 = some (.iastore, 1, 0, 0, 0) := by decide +kernel
theorem jlw_170 : xe_look (xc 213) 170 = some (.aload_n 0, 1, 0, 0, 0) := by decide +kernel
theorem jlw_171 : xe_look (xc 213) 171 = some (.getfield 95, 3, 12, 45, 1126) := by decide +kernel
theorem jlw_174 : xe_look (xc 213) 174 = some (.iload_n 3, 1, 0, 0, 0) := by decide +kernel
theorem jlw_175 : xe_look (xc 213) 175 = some (.aload_n 0, 1, 0, 0, 0) := by decide +kernel
theorem jlw_176 : xe_look (xc 213) 176 = some (.getfield 80, 3, 12, 40, 1197) := by decide +kernel
theorem jlw_179 : xe_look (xc 213) 179 = some (.iload_n 3, 1, 0, 0, 0) := by decide +kernel
theorem jlw_180 : xe_look (xc 213) 180 = some (.iaload, 1, 0, 0, 0) := by decide +kernel
theorem jlw_181 : xe_look (xc 213) 181 = some (.iastore, 1, 0, 0, 0) := by decide +kernel
theorem jlw_182 : xe_look (xc 213) 182 = some (.aload_n 0, 1, 0, 0, 0) := by decide +kernel
theorem jlw_183 : xe_look (xc 213) 183 = some (.getfield 98, 3, 12, 46, 1127) := by decide +kernel
theorem jlw_186 : xe_look (xc 213) 186 = some (.iload_n 3, 1, 0, 0, 0) := by decide +kernel
theorem jlw_187 : xe_look (xc 213) 187 = some (.aload_n 0, 1, 0, 0, 0) := by decide +kernel
theorem jlw_188 : xe_look (xc 213) 188 = some (.getfield 83, 3, 12, 41, 1198) := by decide +kernel
theorem jlw_191 : xe_look (xc 213) 191 = some (.iload_n 3, 1, 0, 0, 0) := by decide +kernel
theorem jlw_192 : xe_look (xc 213) 192 = some (.iaload, 1, 0, 0, 0) := by decide +kernel
theorem jlw_193 : xe_look (xc 213) 193 = some (.iastore, 1, 0, 0, 0) := by decide +kernel
theorem jlw_194 : xe_look (xc 213) 194 = some (.iinc 3 1, 3, 0, 0, 0) := by decide +kernel
theorem jlw_197 : xe_look (xc 213) 197 = some (.goto (-59), 3, 0, 0, 0) := by decide +kernel
theorem jlw_200 : xe_look (xc 213) 200 = some (.aload_n 0, 1, 0, 0, 0) := by decide +kernel
theorem jlw_201 : xe_look (xc 213) 201 = some (.getfield 353, 3, 12, 34, 1230) := by decide +kernel
theorem jlw_204 : xe_look (xc 213) 204 = some (.ireturn, 1, 0, 0, 0) := by decide +kernel
def jY : Nat := jZ + 2 ^ (cn 196 + 17) + 2 ^ (cn 196 + 19) + 2 ^ (cn 196 + 35) + 2 ^ cn 222 + 2 ^ cn 223 + 2 ^ cn 224 + 2 ^ cn 225 + 2 ^ cn 226
def jyk : List (Nat × Nat) := [(196, 17), (196, 20), (196, 32), (196, 34), (196, 35)]
def jya : List Nat := [216, 218, 219, 220, 221, 222, 223, 224, 225, 226]
def jX : Nat := jZ + 2 ^ (cn 196 + 17) + 2 ^ (cn 196 + 19)
def jxk : List (Nat × Nat) := [(196, 17), (196, 18), (196, 19), (196, 32), (196, 34)]
abbrev yS (g0 g : pH) (t ft k c q : Int) (sa sl ss sc se a2 al as ac ae : tC) : Prop := sE jyk jya jY g0 g [t, ft, k, c, q] [sa, sl, ss, sc, se, a2, al, as, ac, ae]
abbrev xS (g0 g : pH) (t p n k c : Int) : Prop := sE jxk [] jX g0 g [t, p, n, k, c] []
theorem jY_b : jZ &&& jY = jZ ∧ jY.testBit (cn 211) = false := by decide +kernel
theorem jX_b : jX &&& jY = jX ∧ jZ &&& jX = jZ ∧ jX.testBit (cn 211) = false ∧ jX.testBit (cn 196 + 35) = false ∧ jX.testBit (cn 222) = false ∧ jX.testBit (cn 223) = false ∧ jX.testBit (cn 224) = false ∧ jX.testBit (cn 225) = false ∧ jX.testBit (cn 226) = false := by decide +kernel
/-- the codes are as they were -/
def lCo (g0 g1 : pH) : Prop := cF g1 196 35 = cF g0 196 35 ∧ fA g1 222 = fA g0 222 ∧ fA g1 223 = fA g0 223 ∧ fA g1 224 = fA g0 224 ∧ fA g1 225 = fA g0 225 ∧ fA g1 226 = fA g0 226
/-- what the law's call comes to, by what reading comes to -/
def yP (g0 : pH) (n : Int) (P : Option pv × pH → Prop) : lZ → Prop
  | .inl f => ∀ g1 : pH, J_ jY g0 g1 → cF g1 196 17 = 0 → lCo g0 g1 → P (some (oI f), g1)
  | .inr (p1, k1, o1, v1, c1, le1, st1, co1, en1) => p1 = n → lP n p1 k1 → ∀ g1 : pH, J_ jY g0 g1 → cF g1 196 17 = 0 → cF g1 196 35 = c1 → (∀ j : Nat, (j : Int) < k1 → fA g1 222 j = 1048576 * o1 j + v1 j ∧ 0 ≤ o1 j ∧ o1 j ≤ 12 ∧ 0 ≤ v1 j ∧ v1 j ≤ 100000) → (∀ j : Nat, (j : Int) < c1 → fA g1 223 j = le1 j ∧ fA g1 224 j = st1 j ∧ fA g1 225 j = co1 j ∧ fA g1 226 j = en1 j) → P (some (oI c1), g1)
def yC : lZ → Prop
  | .inl _ => True
  | .inr (_, _, _, _, c1, _, _, _, _) => 0 ≤ c1 ∧ c1 ≤ 16

theorem jgu_222 : eG (cn 222) = ((-2147483648), 2147483647, []) := by decide +kernel
theorem jgu_223 : eG (cn 223) = ((-2147483648), 2147483647, []) := by decide +kernel
theorem jgu_224 : eG (cn 224) = ((-2147483648), 2147483647, []) := by decide +kernel
theorem jgu_225 : eG (cn 225) = ((-2147483648), 2147483647, []) := by decide +kernel
theorem jgu_226 : eG (cn 226) = ((-2147483648), 2147483647, []) := by decide +kernel
theorem jgy_196_17 : eG (cn 196 + 17) = (0, 260, []) := by decide +kernel
theorem jgy_196_19 : eG (cn 196 + 19) = ((-2147483648), 2147483647, []) := by decide +kernel
theorem jgy_196_35 : eG (cn 196 + 35) = (0, 16, []) := by decide +kernel
theorem jch_196_42 : (eG (cn 196 + 42)).2.2 = [223] := by decide +kernel
theorem jcq_196_42 {d i : Nat} {lv : List (Nat × pv)} {r : List pv} {g : pH} (hG : g_I eG g) : px_push eL d none (.getfield i) 12 42 lv (pvR 196 :: r) g = some (pvR 222 :: r) := pget jeo_196 (gI_r (r := 222) hG jeo_196 (Nat.le_of_ble_eq_true rfl) (y := 42) rfl jch_196_42)
theorem jch_196_43 : (eG (cn 196 + 43)).2.2 = [224] := by decide +kernel
theorem jcq_196_43 {d i : Nat} {lv : List (Nat × pv)} {r : List pv} {g : pH} (hG : g_I eG g) : px_push eL d none (.getfield i) 12 43 lv (pvR 196 :: r) g = some (pvR 223 :: r) := pget jeo_196 (gI_r (r := 223) hG jeo_196 (Nat.le_of_ble_eq_true rfl) (y := 43) rfl jch_196_43)
theorem jch_196_44 : (eG (cn 196 + 44)).2.2 = [225] := by decide +kernel
theorem jcq_196_44 {d i : Nat} {lv : List (Nat × pv)} {r : List pv} {g : pH} (hG : g_I eG g) : px_push eL d none (.getfield i) 12 44 lv (pvR 196 :: r) g = some (pvR 224 :: r) := pget jeo_196 (gI_r (r := 224) hG jeo_196 (Nat.le_of_ble_eq_true rfl) (y := 44) rfl jch_196_44)
theorem jch_196_45 : (eG (cn 196 + 45)).2.2 = [226] := by decide +kernel
theorem jcq_196_45 {d i : Nat} {lv : List (Nat × pv)} {r : List pv} {g : pH} (hG : g_I eG g) : px_push eL d none (.getfield i) 12 45 lv (pvR 196 :: r) g = some (pvR 225 :: r) := pget jeo_196 (gI_r (r := 225) hG jeo_196 (Nat.le_of_ble_eq_true rfl) (y := 45) rfl jch_196_45)
theorem jch_196_46 : (eG (cn 196 + 46)).2.2 = [227] := by decide +kernel
theorem jcq_196_46 {d i : Nat} {lv : List (Nat × pv)} {r : List pv} {g : pH} (hG : g_I eG g) : px_push eL d none (.getfield i) 12 46 lv (pvR 196 :: r) g = some (pvR 226 :: r) := pget jeo_196 (gI_r (r := 226) hG jeo_196 (Nat.le_of_ble_eq_true rfl) (y := 46) rfl jch_196_46)
theorem jez_222 : eL[222]? = some (1, 260) := by decide +kernel
theorem jez_223 : eL[223]? = some (1, 16) := by decide +kernel
theorem jez_224 : eL[224]? = some (1, 16) := by decide +kernel
theorem jez_225 : eL[225]? = some (1, 16) := by decide +kernel
theorem jez_226 : eL[226]? = some (1, 16) := by decide +kernel
theorem wt_jX_196_18 : jX.testBit (cn 196 + 18) = true := by decide +kernel
theorem wt_jX_196_19 : jX.testBit (cn 196 + 19) = true := by decide +kernel
theorem wt_jX_196_32 : jX.testBit (cn 196 + 32) = true := by decide +kernel
theorem wt_jX_196_34 : jX.testBit (cn 196 + 34) = true := by decide +kernel
theorem wt_jY_196_17 : jY.testBit (cn 196 + 17) = true := by decide +kernel
theorem wt_jY_196_35 : jY.testBit (cn 196 + 35) = true := by decide +kernel
theorem wu_jY_222 : jY.testBit (cn 222) = true := by decide +kernel
theorem wu_jY_223 : jY.testBit (cn 223) = true := by decide +kernel
theorem wu_jY_224 : jY.testBit (cn 224) = true := by decide +kernel
theorem wu_jY_225 : jY.testBit (cn 225) = true := by decide +kernel
theorem wu_jY_226 : jY.testBit (cn 226) = true := by decide +kernel
theorem ly_f {d : Nat} {g0 g : pH} {t ft k c q : Int} {sa sl ss sc se a2 al as ac ae : tC} (hS : yS g0 g t ft k c q sa sl ss sc se a2 al as ac ae) {P : Option pv × pH → Prop} (hP : ∀ g1, yS g0 g1 0 ft k c q sa sl ss sc se a2 al as ac ae → P (some (oI ft), g1)) {lv : List (Nat × pv)} (l0 : px_lg lv 0 = some (pvR 196)) (l2 : px_lg lv 2 = some (oI 0)) : t_X d 213 86 lv [] g P := by
  refine t_0 jlw_86 rfl (ld_a l0) ?_
  refine t_0 jlw_87 rfl rfl ?_
  refine ts_f (n := 0) rfl rfl (by decide) jlw_88 rfl jeo_196 hS wt_jY_196_17 jgy_196_17 (by decide) ⟨by omega, by omega⟩ (fun g1 hS1 => ?_)
  replace hS1 : yS g0 g1 0 ft k c q sa sl ss sc se a2 al as ac ae := hS1
  show t_X d 213 91 lv [] g1 P
  refine t_0 jlw_91 rfl (ld_i l2) ?_
  refine tz_ne jlw_92 (by decide) ⟨by omega, by omega⟩ (fun c2 => absurd c2 (by omega)) (fun c2 => ?_)
  show t_X d 213 95 lv [] g1 P
  refine t_0 jlw_95 rfl (ld_a l0) ?_
  refine t_0 jlw_96 rfl (pq_cv jeo_196 rfl (show cF g1 196 20 = ft from S_f hS1 1 (Nat.le_of_ble_eq_true rfl))) ?_
  show t_X d 213 99 lv [oI (ft)] g1 P
  refine t_5 jlw_99 rfl rfl ?_
  exact hP _ hS1
theorem ly_1 {d : Nat} {g0 : pH} {t ft k c q : Int} {sa sl ss sc se al as ac ae : tC} (hk : 0 ≤ k ∧ k ≤ 240) {P : Option pv × pH → Prop} : ∀ (m : Nat) (i : Int) (a2 : tC) (g : pH), 0 ≤ i → i ≤ k → k - i = m → (∀ j : Nat, (j : Int) < i → a2 j = sa j) → yS g0 g t ft k c q sa sl ss sc se a2 al as ac ae → (∀ (g1 : pH) (a2' : tC), (∀ j : Nat, (j : Int) < k → a2' j = sa j) → yS g0 g1 t ft k c q sa sl ss sc se a2' al as ac ae → ∀ lv : List (Nat × pv), px_lg lv 0 = some (pvR 196) → px_lg lv 2 = some (oI 1) → t_X d 213 136 lv [] g1 P) → ∀ {lv : List (Nat × pv)}, px_lg lv 0 = some (pvR 196) → px_lg lv 2 = some (oI 1) → px_lg lv 3 = some (oI i) → t_X d 213 110 lv [] g P := by
  intro m
  induction m with
  | zero =>
    intro i a2 g hi0 hi1 hm hA hS hP lv l0 l2 l3
    refine t_0 jlw_110 rfl (ld_i l3) ?_
    refine t_0 jlw_111 rfl (ld_a l0) ?_
    refine t_0 jlw_112 rfl (pq_cv jeo_196 rfl (show cF g 196 32 = k from S_f hS 2 (Nat.le_of_ble_eq_true rfl))) ?_
    show t_X d 213 115 lv [oI (k), oI (i)] g P
    refine tb_ge jlw_115 (by decide) ⟨by omega, by omega⟩ ⟨by omega, by omega⟩ (fun c1 => ?_) (fun c1 => absurd c1 (by omega))
    show t_X d 213 136 lv [] g P
    exact hP _ _ (fun j hj => hA j (by omega)) hS _ l0 l2
  | succ m ih =>
    intro i a2 g hi0 hi1 hm hA hS hP lv l0 l2 l3
    refine t_0 jlw_110 rfl (ld_i l3) ?_
    refine t_0 jlw_111 rfl (ld_a l0) ?_
    refine t_0 jlw_112 rfl (pq_cv jeo_196 rfl (show cF g 196 32 = k from S_f hS 2 (Nat.le_of_ble_eq_true rfl))) ?_
    show t_X d 213 115 lv [oI (k), oI (i)] g P
    refine tb_ge jlw_115 (by decide) ⟨by omega, by omega⟩ ⟨by omega, by omega⟩ (fun c1 => absurd c1 (by omega)) (fun c1 => ?_)
    show t_X d 213 118 lv [] g P
    refine t_0 jlw_118 rfl (ld_a l0) ?_
    refine t_0 jlw_119 rfl (jcq_196_42 (S_J hS).1) ?_
    show t_X d 213 122 lv [pvR 222] g P
    refine t_0 jlw_122 rfl (ld_i l3) ?_
    refine t_0 jlw_123 rfl (ld_a l0) ?_
    refine t_0 jlw_124 rfl (jcq_196_36 (S_J hS).1) ?_
    show t_X d 213 127 lv [pvR 216, oI (i), pvR 222] g P
    refine t_0 jlw_127 rfl (ld_i l3) ?_
    have r2 := pb_a (S_J hS).1 jez_216 (j := i.toNat) (by omega) jgu_216 (show fA g 216 = sa from S_a hS 0 (Nat.le_of_ble_eq_true rfl))
    refine t_0 jlw_128 rfl (pq_iv jez_216 rfl ⟨by omega, by omega⟩ (show fA g 216 = sa from S_a hS 0 (Nat.le_of_ble_eq_true rfl))) ?_
    show t_X d 213 129 lv [oI (sa i.toNat), oI (i), pvR 222] g P
    refine ts_a (n := 5) rfl rfl (by decide) jlw_129 hS jez_222 rfl wu_jY_222 jgu_222 (by decide) ⟨by omega, by omega⟩ ⟨by omega, by omega⟩ (fun g3 hS3 => ?_)
    replace hS3 : yS g0 g3 t ft k c q sa sl ss sc se (updI a2 i.toNat (sa i.toNat)) al as ac ae := hS3
    show t_X d 213 130 lv [] g3 P
    refine t_2 jlw_130 rfl (w := (px_s1 lv 3 (oI (i + 1)), [])) (pq_inc l3 (by decide)) ?_
    replace l0 : px_lg (px_s1 lv 3 (oI (i + 1))) 0 = some (pvR 196) := s1_ne (by decide) (fun _ => rfl) l0
    replace l2 : px_lg (px_s1 lv 3 (oI (i + 1))) 2 = some (oI 1) := s1_ne (by decide) (fun _ => rfl) l2
    have l3 : px_lg (px_s1 lv 3 (oI (i + 1))) 3 = some (oI (i + 1)) := s1_eq
    generalize px_s1 lv 3 (oI (i + 1)) = lv4 at l0 l2 l3 ⊢
    show t_X d 213 133 lv4 [] g3 P
    refine t_1 jlw_133 rfl (pb_goto (pc := 133) (by decide)) ?_
    show t_X d 213 110 lv4 [] g3 P
    refine ih (i + 1) _ _ (by omega) (by omega) (by omega) (fun j hj => ?_) hS3 hP l0 l2 l3
    unfold updI
    by_cases e : j = i.toNat
    · rw [if_pos e, e]
    · rw [if_neg e]; exact hA j (by omega)
theorem ly_2 {d : Nat} {g0 : pH} {t ft k c q : Int} {sa sl ss sc se a2 : tC} (hk : 0 ≤ c ∧ c ≤ 16) {P : Option pv × pH → Prop} : ∀ (m : Nat) (i : Int) (al as ac ae : tC) (g : pH), 0 ≤ i → i ≤ c → c - i = m → (∀ j : Nat, (j : Int) < i → al j = sl j ∧ as j = ss j ∧ ac j = sc j ∧ ae j = se j) → yS g0 g t ft k c q sa sl ss sc se a2 al as ac ae → (∀ (g1 : pH) (al' as' ac' ae' : tC), (∀ j : Nat, (j : Int) < c → al' j = sl j ∧ as' j = ss j ∧ ac' j = sc j ∧ ae' j = se j) → yS g0 g1 t ft k c q sa sl ss sc se a2 al' as' ac' ae' → ∀ lv : List (Nat × pv), px_lg lv 0 = some (pvR 196) → px_lg lv 2 = some (oI 1) → t_X d 213 200 lv [] g1 P) → ∀ {lv : List (Nat × pv)}, px_lg lv 0 = some (pvR 196) → px_lg lv 2 = some (oI 1) → px_lg lv 3 = some (oI i) → t_X d 213 138 lv [] g P := by
  intro m
  induction m with
  | zero =>
    intro i al as ac ae g hi0 hi1 hm hA hS hP lv l0 l2 l3
    refine t_0 jlw_138 rfl (ld_i l3) ?_
    refine t_0 jlw_139 rfl (ld_a l0) ?_
    refine t_0 jlw_140 rfl (pq_cv jeo_196 rfl (show cF g 196 34 = c from S_f hS 3 (Nat.le_of_ble_eq_true rfl))) ?_
    show t_X d 213 143 lv [oI (c), oI (i)] g P
    refine tb_ge jlw_143 (by decide) ⟨by omega, by omega⟩ ⟨by omega, by omega⟩ (fun c1 => ?_) (fun c1 => absurd c1 (by omega))
    show t_X d 213 200 lv [] g P
    exact hP _ _ _ _ _ (fun j hj => hA j (by omega)) hS _ l0 l2
  | succ m ih =>
    intro i al as ac ae g hi0 hi1 hm hA hS hP lv l0 l2 l3
    refine t_0 jlw_138 rfl (ld_i l3) ?_
    refine t_0 jlw_139 rfl (ld_a l0) ?_
    refine t_0 jlw_140 rfl (pq_cv jeo_196 rfl (show cF g 196 34 = c from S_f hS 3 (Nat.le_of_ble_eq_true rfl))) ?_
    show t_X d 213 143 lv [oI (c), oI (i)] g P
    refine tb_ge jlw_143 (by decide) ⟨by omega, by omega⟩ ⟨by omega, by omega⟩ (fun c1 => absurd c1 (by omega)) (fun c1 => ?_)
    show t_X d 213 146 lv [] g P
    refine t_0 jlw_146 rfl (ld_a l0) ?_
    refine t_0 jlw_147 rfl (jcq_196_43 (S_J hS).1) ?_
    show t_X d 213 150 lv [pvR 223] g P
    refine t_0 jlw_150 rfl (ld_i l3) ?_
    refine t_0 jlw_151 rfl (ld_a l0) ?_
    refine t_0 jlw_152 rfl (jcq_196_38 (S_J hS).1) ?_
    show t_X d 213 155 lv [pvR 218, oI (i), pvR 223] g P
    refine t_0 jlw_155 rfl (ld_i l3) ?_
    have r2 := pb_a (S_J hS).1 jez_218 (j := i.toNat) (by omega) jgu_218 (show fA g 218 = sl from S_a hS 1 (Nat.le_of_ble_eq_true rfl))
    refine t_0 jlw_156 rfl (pq_iv jez_218 rfl ⟨by omega, by omega⟩ (show fA g 218 = sl from S_a hS 1 (Nat.le_of_ble_eq_true rfl))) ?_
    show t_X d 213 157 lv [oI (sl i.toNat), oI (i), pvR 223] g P
    refine ts_a (n := 6) rfl rfl (by decide) jlw_157 hS jez_223 rfl wu_jY_223 jgu_223 (by decide) ⟨by omega, by omega⟩ ⟨by omega, by omega⟩ (fun g3 hS3 => ?_)
    replace hS3 : yS g0 g3 t ft k c q sa sl ss sc se a2 (updI al i.toNat (sl i.toNat)) as ac ae := hS3
    show t_X d 213 158 lv [] g3 P
    refine t_0 jlw_158 rfl (ld_a l0) ?_
    refine t_0 jlw_159 rfl (jcq_196_44 (S_J hS3).1) ?_
    show t_X d 213 162 lv [pvR 224] g3 P
    refine t_0 jlw_162 rfl (ld_i l3) ?_
    refine t_0 jlw_163 rfl (ld_a l0) ?_
    refine t_0 jlw_164 rfl (jcq_196_39 (S_J hS3).1) ?_
    show t_X d 213 167 lv [pvR 219, oI (i), pvR 224] g3 P
    refine t_0 jlw_167 rfl (ld_i l3) ?_
    have r4 := pb_a (S_J hS3).1 jez_219 (j := i.toNat) (by omega) jgu_219 (show fA g3 219 = ss from S_a hS3 2 (Nat.le_of_ble_eq_true rfl))
    refine t_0 jlw_168 rfl (pq_iv jez_219 rfl ⟨by omega, by omega⟩ (show fA g3 219 = ss from S_a hS3 2 (Nat.le_of_ble_eq_true rfl))) ?_
    show t_X d 213 169 lv [oI (ss i.toNat), oI (i), pvR 224] g3 P
    refine ts_a (n := 7) rfl rfl (by decide) jlw_169 hS3 jez_224 rfl wu_jY_224 jgu_224 (by decide) ⟨by omega, by omega⟩ ⟨by omega, by omega⟩ (fun g5 hS5 => ?_)
    replace hS5 : yS g0 g5 t ft k c q sa sl ss sc se a2 (updI al i.toNat (sl i.toNat)) (updI as i.toNat (ss i.toNat)) ac ae := hS5
    show t_X d 213 170 lv [] g5 P
    refine t_0 jlw_170 rfl (ld_a l0) ?_
    refine t_0 jlw_171 rfl (jcq_196_45 (S_J hS5).1) ?_
    show t_X d 213 174 lv [pvR 225] g5 P
    refine t_0 jlw_174 rfl (ld_i l3) ?_
    refine t_0 jlw_175 rfl (ld_a l0) ?_
    refine t_0 jlw_176 rfl (jcq_196_40 (S_J hS5).1) ?_
    show t_X d 213 179 lv [pvR 220, oI (i), pvR 225] g5 P
    refine t_0 jlw_179 rfl (ld_i l3) ?_
    have r6 := pb_a (S_J hS5).1 jez_220 (j := i.toNat) (by omega) jgu_220 (show fA g5 220 = sc from S_a hS5 3 (Nat.le_of_ble_eq_true rfl))
    refine t_0 jlw_180 rfl (pq_iv jez_220 rfl ⟨by omega, by omega⟩ (show fA g5 220 = sc from S_a hS5 3 (Nat.le_of_ble_eq_true rfl))) ?_
    show t_X d 213 181 lv [oI (sc i.toNat), oI (i), pvR 225] g5 P
    refine ts_a (n := 8) rfl rfl (by decide) jlw_181 hS5 jez_225 rfl wu_jY_225 jgu_225 (by decide) ⟨by omega, by omega⟩ ⟨by omega, by omega⟩ (fun g7 hS7 => ?_)
    replace hS7 : yS g0 g7 t ft k c q sa sl ss sc se a2 (updI al i.toNat (sl i.toNat)) (updI as i.toNat (ss i.toNat)) (updI ac i.toNat (sc i.toNat)) ae := hS7
    show t_X d 213 182 lv [] g7 P
    refine t_0 jlw_182 rfl (ld_a l0) ?_
    refine t_0 jlw_183 rfl (jcq_196_46 (S_J hS7).1) ?_
    show t_X d 213 186 lv [pvR 226] g7 P
    refine t_0 jlw_186 rfl (ld_i l3) ?_
    refine t_0 jlw_187 rfl (ld_a l0) ?_
    refine t_0 jlw_188 rfl (jcq_196_41 (S_J hS7).1) ?_
    show t_X d 213 191 lv [pvR 221, oI (i), pvR 226] g7 P
    refine t_0 jlw_191 rfl (ld_i l3) ?_
    have r8 := pb_a (S_J hS7).1 jez_221 (j := i.toNat) (by omega) jgu_221 (show fA g7 221 = se from S_a hS7 4 (Nat.le_of_ble_eq_true rfl))
    refine t_0 jlw_192 rfl (pq_iv jez_221 rfl ⟨by omega, by omega⟩ (show fA g7 221 = se from S_a hS7 4 (Nat.le_of_ble_eq_true rfl))) ?_
    show t_X d 213 193 lv [oI (se i.toNat), oI (i), pvR 226] g7 P
    refine ts_a (n := 9) rfl rfl (by decide) jlw_193 hS7 jez_226 rfl wu_jY_226 jgu_226 (by decide) ⟨by omega, by omega⟩ ⟨by omega, by omega⟩ (fun g9 hS9 => ?_)
    replace hS9 : yS g0 g9 t ft k c q sa sl ss sc se a2 (updI al i.toNat (sl i.toNat)) (updI as i.toNat (ss i.toNat)) (updI ac i.toNat (sc i.toNat)) (updI ae i.toNat (se i.toNat)) := hS9
    show t_X d 213 194 lv [] g9 P
    refine t_2 jlw_194 rfl (w := (px_s1 lv 3 (oI (i + 1)), [])) (pq_inc l3 (by decide)) ?_
    replace l0 : px_lg (px_s1 lv 3 (oI (i + 1))) 0 = some (pvR 196) := s1_ne (by decide) (fun _ => rfl) l0
    replace l2 : px_lg (px_s1 lv 3 (oI (i + 1))) 2 = some (oI 1) := s1_ne (by decide) (fun _ => rfl) l2
    have l3 : px_lg (px_s1 lv 3 (oI (i + 1))) 3 = some (oI (i + 1)) := s1_eq
    generalize px_s1 lv 3 (oI (i + 1)) = lv10 at l0 l2 l3 ⊢
    show t_X d 213 197 lv10 [] g9 P
    refine t_1 jlw_197 rfl (pb_goto (pc := 197) (by decide)) ?_
    show t_X d 213 138 lv10 [] g9 P
    refine ih (i + 1) _ _ _ _ _ (by omega) (by omega) (by omega) (fun j hj => ?_) hS9 hP l0 l2 l3
    unfold updI
    by_cases e : j = i.toNat
    · rw [if_pos e, if_pos e, if_pos e, if_pos e, e]; exact ⟨rfl, rfl, rfl, rfl⟩
    · rw [if_neg e, if_neg e, if_neg e, if_neg e]; exact hA j (by omega)
theorem ly_c {d : Nat} {g0 g : pH} {t ft k c q : Int} {sa sl ss sc se a2 al as ac ae : tC} (hS : yS g0 g t ft k c q sa sl ss sc se a2 al as ac ae) {P : Option pv × pH → Prop} (hk : 0 ≤ k ∧ k ≤ 240) (hc : 0 ≤ c ∧ c ≤ 16) (hP : ∀ (g1 : pH) (b2 bl bs bc be : tC), (∀ j : Nat, (j : Int) < k → b2 j = sa j) → (∀ j : Nat, (j : Int) < c → bl j = sl j ∧ bs j = ss j ∧ bc j = sc j ∧ be j = se j) → yS g0 g1 0 ft k c c sa sl ss sc se b2 bl bs bc be → P (some (oI c), g1)) {lv : List (Nat × pv)} (l0 : px_lg lv 0 = some (pvR 196)) (l2 : px_lg lv 2 = some (oI 1)) : t_X d 213 86 lv [] g P := by
  refine t_0 jlw_86 rfl (ld_a l0) ?_
  refine t_0 jlw_87 rfl rfl ?_
  refine ts_f (n := 0) rfl rfl (by decide) jlw_88 rfl jeo_196 hS wt_jY_196_17 jgy_196_17 (by decide) ⟨by omega, by omega⟩ (fun g1 hS1 => ?_)
  replace hS1 : yS g0 g1 0 ft k c q sa sl ss sc se a2 al as ac ae := hS1
  show t_X d 213 91 lv [] g1 P
  refine t_0 jlw_91 rfl (ld_i l2) ?_
  refine tz_ne jlw_92 (by decide) ⟨by omega, by omega⟩ (fun c2 => ?_) (fun c2 => absurd c2 (by omega))
  show t_X d 213 100 lv [] g1 P
  refine t_0 jlw_100 rfl (ld_a l0) ?_
  refine t_0 jlw_101 rfl (ld_a l0) ?_
  refine t_0 jlw_102 rfl (pq_cv jeo_196 rfl (show cF g1 196 34 = c from S_f hS1 3 (Nat.le_of_ble_eq_true rfl))) ?_
  show t_X d 213 105 lv [oI (c), pvR 196] g1 P
  refine ts_f (n := 4) rfl rfl (by decide) jlw_105 rfl jeo_196 hS1 wt_jY_196_35 jgy_196_35 (by decide) ⟨by omega, by omega⟩ (fun g3 hS3 => ?_)
  replace hS3 : yS g0 g3 0 ft k c c sa sl ss sc se a2 al as ac ae := hS3
  show t_X d 213 108 lv [] g3 P
  refine t_0 jlw_108 rfl rfl ?_
  refine t_2 jlw_109 rfl (w := (px_s1 lv 3 (oI 0), [])) rfl ?_
  replace l0 : px_lg (px_s1 lv 3 (oI 0)) 0 = some (pvR 196) := s1_ne (by decide) (fun _ => rfl) l0
  replace l2 : px_lg (px_s1 lv 3 (oI 0)) 2 = some (oI 1) := s1_ne (by decide) (fun _ => rfl) l2
  have l3 : px_lg (px_s1 lv 3 (oI 0)) 3 = some (oI 0) := s1_eq
  generalize px_s1 lv 3 (oI 0) = lv4 at l0 l2 l3 ⊢
  show t_X d 213 110 lv4 [] g3 P
  refine ly_1 (by omega) k.toNat 0 _ _ (by omega) (by omega) (by omega) (fun j hj => absurd hj (by omega)) hS3 (fun g1 b2 hA1 hS1 lv l0 l2 => ?_) l0 l2 l3
  refine t_0 jlw_136 rfl rfl ?_
  refine t_2 jlw_137 rfl (w := (px_s1 lv 3 (oI 0), [])) rfl ?_
  replace l0 : px_lg (px_s1 lv 3 (oI 0)) 0 = some (pvR 196) := s1_ne (by decide) (fun _ => rfl) l0
  replace l2 : px_lg (px_s1 lv 3 (oI 0)) 2 = some (oI 1) := s1_ne (by decide) (fun _ => rfl) l2
  have l3 : px_lg (px_s1 lv 3 (oI 0)) 3 = some (oI 0) := s1_eq
  generalize px_s1 lv 3 (oI 0) = lv1 at l0 l2 l3 ⊢
  show t_X d 213 138 lv1 [] g1 P
  refine ly_2 (by omega) c.toNat 0 _ _ _ _ _ (by omega) (by omega) (by omega) (fun j hj => absurd hj (by omega)) hS1 (fun g2 bl bs bc be hA2 hS2 lv l0 l2 => ?_) l0 l2 l3
  refine t_0 jlw_200 rfl (ld_a l0) ?_
  refine t_0 jlw_201 rfl (pq_cv jeo_196 rfl (show cF g2 196 34 = c from S_f hS2 3 (Nat.le_of_ble_eq_true rfl))) ?_
  show t_X d 213 204 lv [oI (c)] g2 P
  refine t_5 jlw_204 rfl rfl ?_
  exact hP _ _ _ _ _ _ hA1 hA2 hS2
theorem y_st {g0 g5 g : pH} (hJ : J_ jY g0 g5) {p k w op ft u c : Int} {sa wa sl ss sc se : tC} (hS : zS g5 g p k w op ft u c sa wa sl ss sc se) : ∃ t q a2 al as ac ae, yS g0 g t ft k c q sa sl ss sc se a2 al as ac ae := by
  refine ⟨cF g 196 17, cF g 196 35, fA g 222, fA g 223, fA g 224, fA g 225, fA g 226, J_up jY_b.1 hJ (S_J hS), fun i hi => ?_, fun i hi => ?_⟩
  · have hi : i < 5 := hi
    have : i = 0 ∨ i = 1 ∨ i = 2 ∨ i = 3 ∨ i = 4 := by omega
    rcases this with rfl | rfl | rfl | rfl | rfl
    · rfl
    · exact S_f hS 4 (Nat.le_of_ble_eq_true rfl)
    · exact S_f hS 1 (Nat.le_of_ble_eq_true rfl)
    · exact S_f hS 6 (Nat.le_of_ble_eq_true rfl)
    · rfl
  · have hi : i < 10 := hi
    have : i = 0 ∨ i = 1 ∨ i = 2 ∨ i = 3 ∨ i = 4 ∨ 5 ≤ i := by omega
    rcases this with rfl | rfl | rfl | rfl | rfl | h5
    · exact S_a hS 0 (Nat.le_of_ble_eq_true rfl)
    · exact S_a hS 2 (Nat.le_of_ble_eq_true rfl)
    · exact S_a hS 3 (Nat.le_of_ble_eq_true rfl)
    · exact S_a hS 4 (Nat.le_of_ble_eq_true rfl)
    · exact S_a hS 5 (Nat.le_of_ble_eq_true rfl)
    · have : i = 5 ∨ i = 6 ∨ i = 7 ∨ i = 8 ∨ i = 9 := by omega
      rcases this with rfl | rfl | rfl | rfl | rfl <;> rfl
theorem J_xy {g0 g : pH} (h : J_ jX g0 g) : J_ jY g0 g := ⟨h.1, f_M_tr jX_b.1 (f_M_rf _ _) h.2⟩
theorem y_ok {d : Nat} {n : Int} (hn : 0 ≤ n ∧ n ≤ 240) {g0 g5 : pH} (hJ : J_ jX g0 g5) {P : Option pv × pH → Prop} : ∀ {r : lZ}, yC r → yP g0 n P r → zR g5 n d P r
  | .inl f, _, hP => fun g hg lv l0 l2 => by
    obtain ⟨p, k, w, op, u, c, sa, wa, sl, ss, sc, se, hS⟩ := hg
    obtain ⟨t, q, a2, al, as, ac, ae, hY⟩ := y_st (J_xy hJ) hS
    have hJz : J_ jX g0 g := J_up jX_b.2.1 hJ (S_J hS)
    exact ly_f hY (fun g1 h1 => hP g1 (S_J h1) (S_f h1 0 (Nat.le_of_ble_eq_true rfl)) ⟨(S_f h1 4 (Nat.le_of_ble_eq_true rfl)).trans ((S_f hY 4 (Nat.le_of_ble_eq_true rfl)).symm.trans (cF_M hJz.2 jX_b.2.2.2.1)), (S_a h1 5 (Nat.le_of_ble_eq_true rfl)).trans ((S_a hY 5 (Nat.le_of_ble_eq_true rfl)).symm.trans (fA_M hJz.2 jX_b.2.2.2.2.1)), (S_a h1 6 (Nat.le_of_ble_eq_true rfl)).trans ((S_a hY 6 (Nat.le_of_ble_eq_true rfl)).symm.trans (fA_M hJz.2 jX_b.2.2.2.2.2.1)), (S_a h1 7 (Nat.le_of_ble_eq_true rfl)).trans ((S_a hY 7 (Nat.le_of_ble_eq_true rfl)).symm.trans (fA_M hJz.2 jX_b.2.2.2.2.2.2.1)), (S_a h1 8 (Nat.le_of_ble_eq_true rfl)).trans ((S_a hY 8 (Nat.le_of_ble_eq_true rfl)).symm.trans (fA_M hJz.2 jX_b.2.2.2.2.2.2.2.1)), (S_a h1 9 (Nat.le_of_ble_eq_true rfl)).trans ((S_a hY 9 (Nat.le_of_ble_eq_true rfl)).symm.trans (fA_M hJz.2 jX_b.2.2.2.2.2.2.2.2))⟩) l0 l2
  | .inr (p1, k1, o1, v1, c1, le1, st1, co1, en1), hc, hP => fun hLP hp g hg lv l0 l2 => by
    obtain ⟨w, op, ft, u, sa, wa, sl, ss, sc, se, hS, hC, hA⟩ := hg
    obtain ⟨t, q, a2, al, as, ac, ae, hY⟩ := y_st (J_xy hJ) hS
    have h9 := hLP
    unfold lP at h9
    refine ly_c hY (by omega) hc (fun g1 b2 bl bs bc be e1 e2 h1 => hP hp hLP g1 (S_J h1) (S_f h1 0 (Nat.le_of_ble_eq_true rfl)) (S_f h1 4 (Nat.le_of_ble_eq_true rfl)) (fun j hj => ?_) (fun j hj => ?_)) l0 l2
    · have e3 : fA g1 222 = b2 := S_a h1 5 (Nat.le_of_ble_eq_true rfl)
      rw [e3, e1 j hj]
      exact hC j hj
    · have e3 : fA g1 223 = bl := S_a h1 6 (Nat.le_of_ble_eq_true rfl)
      have e4 : fA g1 224 = bs := S_a h1 7 (Nat.le_of_ble_eq_true rfl)
      have e5 : fA g1 225 = bc := S_a h1 8 (Nat.le_of_ble_eq_true rfl)
      have e6 : fA g1 226 = be := S_a h1 9 (Nat.le_of_ble_eq_true rfl)
      have e7 := e2 j hj
      have e8 := hA j hj
      rw [e3, e4, e5, e6, e7.1, e7.2.1, e7.2.2.1, e7.2.2.2]
      exact e8
theorem lwm_run {d : Nat} (hd : 15 ≤ d) {g0 : pH} {t p m k c : Int} (hS : xS g0 g0 t p m k c) (ht : 0 ≤ t ∧ t ≤ 260) {B : tC} (hB : tpR B (fA g0 211)) {n : Int} (hn : -2147483648 ≤ n ∧ n ≤ 2147483647) {P : Option pv × pH → Prop} (hR : ¬ (1 ≤ n ∧ n ≤ 240 ∧ n ≤ t) → P (some (oI (-1)), g0)) {o v le st co en : tC} {r : lZ} (hr : (1 ≤ n ∧ n ≤ 240 ∧ n ≤ t) → lWs (tH B n) n 0 0 o v 0 le st co en r) (hc : (1 ≤ n ∧ n ≤ 240 ∧ n ≤ t) → yC r) (hP : (1 ≤ n ∧ n ≤ 240 ∧ n ≤ t) → yP g0 n P r) {lv : List (Nat × pv)} (l0 : px_lg lv 0 = some (pvR 196)) (l1 : px_lg lv 1 = some (oI n)) : t_X d 213 0 lv [] g0 P := by
  refine t_0 jlw_0 rfl (ld_i l1) ?_
  refine t_0 jlw_1 rfl rfl ?_
  refine t_0 jlw_2 rfl (pq_s (by decide)) ?_
  refine t_3 jlw_5 rfl (ar := ([oI (n), oI 1, oI 240], [])) (pcal_s ⟨Or.inl rfl, rfl, Nat.le_of_ble_eq_true rfl⟩) ⟨by omega, Nat.le_of_ble_eq_true rfl, Nat.le_of_ble_eq_true rfl, rfl⟩ ?_
  refine in_run ⟨by omega, by omega⟩ ⟨by omega, by omega⟩ ⟨by omega, by omega⟩ rfl rfl rfl (fun t1 => ?_) (fun t1 => ?_)
  · show t_X d 213 8 lv [oI 1] g0 P
    refine tz_eq jlw_8 (by decide) ⟨by omega, by omega⟩ (fun c2 => absurd c2 (by omega)) (fun c2 => ?_)
    show t_X d 213 11 lv [] g0 P
    refine t_0 jlw_11 rfl (ld_i l1) ?_
    refine t_0 jlw_12 rfl (ld_a l0) ?_
    refine t_0 jlw_13 rfl (pq_cv jeo_196 rfl (show cF g0 196 17 = t from S_f hS 0 (Nat.le_of_ble_eq_true rfl))) ?_
    show t_X d 213 16 lv [oI (t), oI (n)] g0 P
    refine tb_le jlw_16 (by decide) ⟨by omega, by omega⟩ ⟨by omega, by omega⟩ (fun c3 => ?_) (fun c3 => ?_)
    · show t_X d 213 21 lv [] g0 P
      refine t_0 jlw_21 rfl (ld_a l0) ?_
      refine t_0 jlw_22 rfl rfl ?_
      refine ts_f (n := 1) rfl rfl (by decide) jlw_23 rfl jeo_196 hS wt_jX_196_18 jgy_196_18 (by decide) ⟨by omega, by omega⟩ (fun g4 hS4 => ?_)
      replace hS4 : xS g0 g4 t 0 m k c := hS4
      show t_X d 213 26 lv [] g4 P
      refine t_0 jlw_26 rfl (ld_a l0) ?_
      refine t_0 jlw_27 rfl (ld_i l1) ?_
      refine ts_f (n := 2) rfl rfl (by decide) jlw_28 rfl jeo_196 hS4 wt_jX_196_19 jgy_196_19 (by decide) ⟨by omega, by omega⟩ (fun g5 hS5 => ?_)
      replace hS5 : xS g0 g5 t 0 n k c := hS5
      show t_X d 213 31 lv [] g5 P
      refine t_0 jlw_31 rfl (ld_a l0) ?_
      refine t_0 jlw_32 rfl rfl ?_
      refine ts_f (n := 3) rfl rfl (by decide) jlw_33 rfl jeo_196 hS5 wt_jX_196_32 jgy_196_32 (by decide) ⟨by omega, by omega⟩ (fun g6 hS6 => ?_)
      replace hS6 : xS g0 g6 t 0 n 0 c := hS6
      show t_X d 213 36 lv [] g6 P
      refine t_0 jlw_36 rfl (ld_a l0) ?_
      refine t_0 jlw_37 rfl rfl ?_
      refine ts_f (n := 4) rfl rfl (by decide) jlw_38 rfl jeo_196 hS6 wt_jX_196_34 jgy_196_34 (by decide) ⟨by omega, by omega⟩ (fun g7 hS7 => ?_)
      replace hS7 : xS g0 g7 t 0 n 0 0 := hS7
      show t_X d 213 41 lv [] g7 P
      have hJ := S_J hS7
      have hB5 : jB g7 B n := ⟨S_f hS7 2 (Nat.le_of_ble_eq_true rfl), by rw [fA_M hJ.2 jX_b.2.2.1]; exact hB, by omega, by omega⟩
      have e1 : cF g7 196 18 = 0 := S_f hS7 1 (Nat.le_of_ble_eq_true rfl)
      have e2 : cF g7 196 32 = 0 := S_f hS7 3 (Nat.le_of_ble_eq_true rfl)
      have e3 : cF g7 196 34 = 0 := S_f hS7 4 (Nat.le_of_ble_eq_true rfl)
      have hZ := S_0 (ks := jzk) (as := jza) (W := jZ) hJ.1
      have hZ2 : zS g7 g7 (cF g7 196 18) (cF g7 196 32) (cF g7 196 33) (cF g7 196 31) (cF g7 196 20) (cF g7 196 21) (cF g7 196 34) (fA g7 216) (fA g7 217) (fA g7 218) (fA g7 219) (fA g7 220) (fA g7 221) := hZ
      rw [e1, e2, e3] at hZ2
      refine t_0 jlw_41 rfl (ld_a l0) ?_
      refine t_3 jlw_42 rfl (ar := ([pvR 196], [])) (pcal_w (as := []) rfl rfl rfl jeo_196) ⟨by omega, Nat.le_of_ble_eq_true rfl, Nat.le_of_ble_eq_true rfl, rfl⟩ ?_
      refine (hr ⟨by omega, by omega, by omega⟩ (zW g7 n d P) (zw_c hd hB5)) (y_ok ⟨by omega, by omega⟩ hJ (hc ⟨by omega, by omega, by omega⟩) (hP ⟨by omega, by omega, by omega⟩)) g7 ⟨_, _, _, _, _, _, _, _, _, _, hZ2, fun j hj => absurd hj (by omega), fun j hj => absurd hj (by omega)⟩ _ ⟨fun g8 a8 => ?_, fun g8 a8 => ?_⟩ _ rfl
      · show t_X d 213 45 lv [oI 1] g8 P
        refine t_2 jlw_45 rfl (w := (px_s1 lv 2 (oI 1), [])) rfl ?_
        replace l0 : px_lg (px_s1 lv 2 (oI 1)) 0 = some (pvR 196) := s1_ne (by decide) (fun _ => rfl) l0
        replace l1 : px_lg (px_s1 lv 2 (oI 1)) 1 = some (oI (n)) := s1_ne (by decide) (fun _ => rfl) l1
        have l2 : px_lg (px_s1 lv 2 (oI 1)) 2 = some (oI 1) := s1_eq
        generalize px_s1 lv 2 (oI 1) = lv8 at l0 l1 l2 ⊢
        show t_X d 213 46 lv8 [] g8 P
        exact a8 _ l0 l2
      · show t_X d 213 45 lv [oI 0] g8 P
        refine t_2 jlw_45 rfl (w := (px_s1 lv 2 (oI 0), [])) rfl ?_
        replace l0 : px_lg (px_s1 lv 2 (oI 0)) 0 = some (pvR 196) := s1_ne (by decide) (fun _ => rfl) l0
        replace l1 : px_lg (px_s1 lv 2 (oI 0)) 1 = some (oI (n)) := s1_ne (by decide) (fun _ => rfl) l1
        have l2 : px_lg (px_s1 lv 2 (oI 0)) 2 = some (oI 0) := s1_eq
        generalize px_s1 lv 2 (oI 0) = lv9 at l0 l1 l2 ⊢
        show t_X d 213 46 lv9 [] g8 P
        exact a8 _ l0 l2
    · show t_X d 213 19 lv [] g0 P
      refine t_0 jlw_19 rfl rfl ?_
      refine t_5 jlw_20 rfl rfl ?_
      exact hR (by omega)
  · show t_X d 213 8 lv [oI 0] g0 P
    refine tz_eq jlw_8 (by decide) ⟨by omega, by omega⟩ (fun c10 => ?_) (fun c10 => absurd c10 (by omega))
    show t_X d 213 19 lv [] g0 P
    refine t_0 jlw_19 rfl rfl ?_
    refine t_5 jlw_20 rfl rfl ?_
    exact hR (by omega)
