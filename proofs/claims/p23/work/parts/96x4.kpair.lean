/-! the tie: rows of twos: keep and undo (printed by wip/e2/t17.py) -/
theorem qkq_0 : xe_look (xc 126) 0 = some (.aload_n 0, 1, 0, 0, 0) := by decide +kernel
theorem qkq_1 : xe_look (xc 126) 1 = some (.getfield 20, 3, 11, 3, 1029) := by decide +kernel
theorem qkq_4 : xe_look (xc 126) 4 = some (.aload_n 0, 1, 0, 0, 0) := by decide +kernel
theorem qkq_5 : xe_look (xc 126) 5 = some (.getfield 16, 3, 11, 2, 983) := by decide +kernel
theorem qkq_8 : xe_look (xc 126) 8 = some (.invokevirtual 398, 3, 0, 79, 1050) := by decide +kernel
theorem qunq_0 : xe_look (xc 160) 0 = some (.aload_n 0, 1, 0, 0, 0) := by decide +kernel
theorem qunq_1 : xe_look (xc 160) 1 = some (.getfield 401, 3, 11, 4, 1051) := by decide +kernel
theorem qunq_4 : xe_look (xc 160) 4 = some (.ifCond .eq 14, 3, 0, 0, 0) := by decide +kernel
theorem qunq_7 : xe_look (xc 160) 7 = some (.aload_n 0, 1, 0, 0, 0) := by decide +kernel
theorem qunq_8 : xe_look (xc 160) 8 = some (.getfield 16, 3, 11, 2, 983) := by decide +kernel
theorem qunq_11 : xe_look (xc 160) 11 = some (.aload_n 0, 1, 0, 0, 0) := by decide +kernel
theorem qunq_12 : xe_look (xc 160) 12 = some (.getfield 20, 3, 11, 3, 1029) := by decide +kernel
theorem qunq_15 : xe_look (xc 160) 15 = some (.invokevirtual 398, 3, 0, 79, 1050) := by decide +kernel
theorem qvk_75 : xe_look (xc 79) 75 = some (.aload_n 0, 1, 0, 0, 0) := by decide +kernel
theorem qvk_76 : xe_look (xc 79) 76 = some (.getfield 34, 3, 8, 5, 931) := by decide +kernel
theorem qvk_79 : xe_look (xc 79) 79 = some (.aload_n 1, 1, 0, 0, 0) := by decide +kernel
theorem qvk_80 : xe_look (xc 79) 80 = some (.getfield 34, 3, 8, 5, 931) := by decide +kernel
theorem qvk_83 : xe_look (xc 79) 83 = some (.invokevirtual 75, 3, 0, 70, 932) := by decide +kernel
theorem qvk_86 : xe_look (xc 79) 86 = some (.aload_n 0, 1, 0, 0, 0) := by decide +kernel
theorem qvk_87 : xe_look (xc 79) 87 = some (.getfield 38, 3, 8, 6, 933) := by decide +kernel
theorem qvk_90 : xe_look (xc 79) 90 = some (.aload_n 1, 1, 0, 0, 0) := by decide +kernel
theorem qvk_91 : xe_look (xc 79) 91 = some (.getfield 38, 3, 8, 6, 933) := by decide +kernel
theorem qvk_94 : xe_look (xc 79) 94 = some (.invokevirtual 75, 3, 0, 70, 932) := by decide +kernel
theorem qvu_75 : xe_look (xc 79) 75 = some (.aload_n 0, 1, 0, 0, 0) := by decide +kernel
theorem qvu_76 : xe_look (xc 79) 76 = some (.getfield 34, 3, 8, 5, 931) := by decide +kernel
theorem qvu_79 : xe_look (xc 79) 79 = some (.aload_n 1, 1, 0, 0, 0) := by decide +kernel
theorem qvu_80 : xe_look (xc 79) 80 = some (.getfield 34, 3, 8, 5, 931) := by decide +kernel
theorem qvu_83 : xe_look (xc 79) 83 = some (.invokevirtual 75, 3, 0, 70, 932) := by decide +kernel
theorem qvu_86 : xe_look (xc 79) 86 = some (.aload_n 0, 1, 0, 0, 0) := by decide +kernel
theorem qvu_87 : xe_look (xc 79) 87 = some (.getfield 38, 3, 8, 6, 933) := by decide +kernel
theorem qvu_90 : xe_look (xc 79) 90 = some (.aload_n 1, 1, 0, 0, 0) := by decide +kernel
theorem qvu_91 : xe_look (xc 79) 91 = some (.getfield 38, 3, 8, 6, 933) := by decide +kernel
theorem qvu_94 : xe_look (xc 79) 94 = some (.invokevirtual 75, 3, 0, 70, 932) := by decide +kernel
theorem qzk_0 : xe_look (xc 209) 0 = some (.aload_n 0, 1, 0, 0, 0) := by decide +kernel
theorem qzk_1 : xe_look (xc 209) 1 = some (.iconst 1, 1, 0, 0, 0) := by decide +kernel
theorem qzk_2 : xe_look (xc 209) 2 = some (.putfield 516, 3, 12, 72, 1223) := by decide +kernel
theorem qzk_5 : xe_look (xc 209) 5 = some (.aload_n 0, 1, 0, 0, 0) := by decide +kernel
theorem qzk_6 : xe_look (xc 209) 6 = some (.aload_n 0, 1, 0, 0, 0) := by decide +kernel
theorem qzk_7 : xe_look (xc 209) 7 = some (.getfield 183, 3, 12, 0, 1158) := by decide +kernel
theorem qzk_10 : xe_look (xc 209) 10 = some (.putfield 520, 3, 12, 73, 1224) := by decide +kernel
theorem qzk_13 : xe_look (xc 209) 13 = some (.aload_n 0, 1, 0, 0, 0) := by decide +kernel
theorem qzk_14 : xe_look (xc 209) 14 = some (.aload_n 0, 1, 0, 0, 0) := by decide +kernel
theorem qzk_15 : xe_look (xc 209) 15 = some (.getfield 191, 3, 12, 1, 1160) := by decide +kernel
theorem qzk_18 : xe_look (xc 209) 18 = some (.putfield 523, 3, 12, 74, 1225) := by decide +kernel
theorem qzk_21 : xe_look (xc 209) 21 = some (.aload_n 0, 1, 0, 0, 0) := by decide +kernel
theorem qzk_22 : xe_look (xc 209) 22 = some (.aload_n 0, 1, 0, 0, 0) := by decide +kernel
theorem qzk_23 : xe_look (xc 209) 23 = some (.getfield 212, 3, 12, 22, 1147) := by decide +kernel
theorem qzk_26 : xe_look (xc 209) 26 = some (.putfield 526, 3, 12, 75, 1226) := by decide +kernel
theorem qzk_29 : xe_look (xc 209) 29 = some (.aload_n 0, 1, 0, 0, 0) := by decide +kernel
theorem qzk_30 : xe_look (xc 209) 30 = some (.aload_n 0, 1, 0, 0, 0) := by decide +kernel
theorem qzk_31 : xe_look (xc 209) 31 = some (.getfield 215, 3, 12, 23, 1117) := by decide +kernel
theorem qzk_34 : xe_look (xc 209) 34 = some (.putfield 529, 3, 12, 76, 1227) := by decide +kernel
theorem qzk_141 : xe_look (xc 209) 141 = some (.aload_n 0, 1, 0, 0, 0) := by decide +kernel
theorem qzk_142 : xe_look (xc 209) 142 = some (.getfield 37, 3, 12, 11, 1148) := by decide +kernel
theorem qzk_145 : xe_look (xc 209) 145 = some (.aload_n 0, 1, 0, 0, 0) := by decide +kernel
theorem qzk_146 : xe_look (xc 209) 146 = some (.getfield 168, 3, 12, 85, 1217) := by decide +kernel
theorem qzk_149 : xe_look (xc 209) 149 = some (.bipush 24, 2, 0, 0, 0) := by decide +kernel
theorem qzk_151 : xe_look (xc 209) 151 = some (.invokestatic 292, 3, 0, 179, 1228) := by decide +kernel
theorem qzk_154 : xe_look (xc 209) 154 = some (.aload_n 0, 1, 0, 0, 0) := by decide +kernel
theorem qzk_155 : xe_look (xc 209) 155 = some (.getfield 40, 3, 12, 12, 1149) := by decide +kernel
theorem qzk_158 : xe_look (xc 209) 158 = some (.aload_n 0, 1, 0, 0, 0) := by decide +kernel
theorem qzk_159 : xe_look (xc 209) 159 = some (.getfield 171, 3, 12, 86, 1218) := by decide +kernel
theorem qzk_162 : xe_look (xc 209) 162 = some (.bipush 24, 2, 0, 0, 0) := by decide +kernel
theorem qzk_164 : xe_look (xc 209) 164 = some (.invokestatic 292, 3, 0, 179, 1228) := by decide +kernel
theorem qzk_167 : xe_look (xc 209) 167 = some (.aload_n 0, 1, 0, 0, 0) := by decide +kernel
theorem qzk_168 : xe_look (xc 209) 168 = some (.getfield 43, 3, 12, 13, 1120) := by decide +kernel
theorem qzk_171 : xe_look (xc 209) 171 = some (.aload_n 0, 1, 0, 0, 0) := by decide +kernel
theorem qzk_172 : xe_look (xc 209) 172 = some (.getfield 174, 3, 12, 87, 1219) := by decide +kernel
theorem qzk_175 : xe_look (xc 209) 175 = some (.bipush 12, 2, 0, 0, 0) := by decide +kernel
theorem qzk_177 : xe_look (xc 209) 177 = some (.invokestatic 292, 3, 0, 179, 1228) := by decide +kernel
theorem qzk_180 : xe_look (xc 209) 180 = some (.aload_n 0, 1, 0, 0, 0) := by decide +kernel
theorem qzk_181 : xe_look (xc 209) 181 = some (.getfield 46, 3, 12, 14, 1118) := by decide +kernel
theorem qzk_184 : xe_look (xc 209) 184 = some (.aload_n 0, 1, 0, 0, 0) := by decide +kernel
theorem qzk_185 : xe_look (xc 209) 185 = some (.getfield 177, 3, 12, 88, 1220) := by decide +kernel
theorem qzk_188 : xe_look (xc 209) 188 = some (.bipush 12, 2, 0, 0, 0) := by decide +kernel
theorem qzk_190 : xe_look (xc 209) 190 = some (.invokestatic 292, 3, 0, 179, 1228) := by decide +kernel
theorem qzu_0 : xe_look (xc 270) 0 = some (.aload_n 0, 1, 0, 0, 0) := by decide +kernel
theorem qzu_1 : xe_look (xc 270) 1 = some (.getfield 516, 3, 12, 72, 1223) := by decide +kernel
theorem qzu_4 : xe_look (xc 270) 4 = some (.ifCond .ne 5, 3, 0, 0, 0) := by decide +kernel
theorem qzu_7 : xe_look (xc 270) 7 = some (.iconst 0, 1, 0, 0, 0) := by decide +kernel
theorem qzu_8 : xe_look (xc 270) 8 = some (.ireturn, 1, 0, 0, 0) := by decide +kernel
theorem qzu_9 : xe_look (xc 270) 9 = some (.aload_n 0, 1, 0, 0, 0) := by decide +kernel
theorem qzu_10 : xe_look (xc 270) 10 = some (.aload_n 0, 1, 0, 0, 0) := by decide +kernel
theorem qzu_11 : xe_look (xc 270) 11 = some (.getfield 520, 3, 12, 73, 1224) := by decide +kernel
theorem qzu_14 : xe_look (xc 270) 14 = some (.putfield 183, 3, 12, 0, 1158) := by decide +kernel
theorem qzu_17 : xe_look (xc 270) 17 = some (.aload_n 0, 1, 0, 0, 0) := by decide +kernel
theorem qzu_18 : xe_look (xc 270) 18 = some (.aload_n 0, 1, 0, 0, 0) := by decide +kernel
theorem qzu_19 : xe_look (xc 270) 19 = some (.getfield 523, 3, 12, 74, 1225) := by decide +kernel
theorem qzu_22 : xe_look (xc 270) 22 = some (.putfield 191, 3, 12, 1, 1160) := by decide +kernel
theorem qzu_25 : xe_look (xc 270) 25 = some (.aload_n 0, 1, 0, 0, 0) := by decide +kernel
theorem qzu_26 : xe_look (xc 270) 26 = some (.aload_n 0, 1, 0, 0, 0) := by decide +kernel
theorem qzu_27 : xe_look (xc 270) 27 = some (.getfield 526, 3, 12, 75, 1226) := by decide +kernel
theorem qzu_30 : xe_look (xc 270) 30 = some (.putfield 212, 3, 12, 22, 1147) := by decide +kernel
theorem qzu_33 : xe_look (xc 270) 33 = some (.aload_n 0, 1, 0, 0, 0) := by decide +kernel
theorem qzu_34 : xe_look (xc 270) 34 = some (.aload_n 0, 1, 0, 0, 0) := by decide +kernel
theorem qzu_35 : xe_look (xc 270) 35 = some (.getfield 529, 3, 12, 76, 1227) := by decide +kernel
theorem qzu_38 : xe_look (xc 270) 38 = some (.putfield 215, 3, 12, 23, 1117) := by decide +kernel
theorem qzu_145 : xe_look (xc 270) 145 = some (.aload_n 0, 1, 0, 0, 0) := by decide +kernel
theorem qzu_146 : xe_look (xc 270) 146 = some (.getfield 168, 3, 12, 85, 1217) := by decide +kernel
theorem qzu_149 : xe_look (xc 270) 149 = some (.aload_n 0, 1, 0, 0, 0) := by decide +kernel
theorem qzu_150 : xe_look (xc 270) 150 = some (.getfield 37, 3, 12, 11, 1148) := by decide +kernel
theorem qzu_153 : xe_look (xc 270) 153 = some (.bipush 24, 2, 0, 0, 0) := by decide +kernel
theorem qzu_155 : xe_look (xc 270) 155 = some (.invokestatic 292, 3, 0, 179, 1228) := by decide +kernel
theorem qzu_158 : xe_look (xc 270) 158 = some (.aload_n 0, 1, 0, 0, 0) := by decide +kernel
theorem qzu_159 : xe_look (xc 270) 159 = some (.getfield 171, 3, 12, 86, 1218) := by decide +kernel
theorem qzu_162 : xe_look (xc 270) 162 = some (.aload_n 0, 1, 0, 0, 0) := by decide +kernel
theorem qzu_163 : xe_look (xc 270) 163 = some (.getfield 40, 3, 12, 12, 1149) := by decide +kernel
theorem qzu_166 : xe_look (xc 270) 166 = some (.bipush 24, 2, 0, 0, 0) := by decide +kernel
theorem qzu_168 : xe_look (xc 270) 168 = some (.invokestatic 292, 3, 0, 179, 1228) := by decide +kernel
theorem qzu_171 : xe_look (xc 270) 171 = some (.aload_n 0, 1, 0, 0, 0) := by decide +kernel
theorem qzu_172 : xe_look (xc 270) 172 = some (.getfield 174, 3, 12, 87, 1219) := by decide +kernel
theorem qzu_175 : xe_look (xc 270) 175 = some (.aload_n 0, 1, 0, 0, 0) := by decide +kernel
theorem qzu_176 : xe_look (xc 270) 176 = some (.getfield 43, 3, 12, 13, 1120) := by decide +kernel
theorem qzu_179 : xe_look (xc 270) 179 = some (.bipush 12, 2, 0, 0, 0) := by decide +kernel
theorem qzu_181 : xe_look (xc 270) 181 = some (.invokestatic 292, 3, 0, 179, 1228) := by decide +kernel
theorem qzu_184 : xe_look (xc 270) 184 = some (.aload_n 0, 1, 0, 0, 0) := by decide +kernel
theorem qzu_185 : xe_look (xc 270) 185 = some (.getfield 177, 3, 12, 88, 1220) := by decide +kernel
theorem qzu_188 : xe_look (xc 270) 188 = some (.aload_n 0, 1, 0, 0, 0) := by decide +kernel
theorem qzu_189 : xe_look (xc 270) 189 = some (.getfield 46, 3, 12, 14, 1118) := by decide +kernel
theorem qzu_192 : xe_look (xc 270) 192 = some (.bipush 12, 2, 0, 0, 0) := by decide +kernel
theorem qzu_194 : xe_look (xc 270) 194 = some (.invokestatic 292, 3, 0, 179, 1228) := by decide +kernel
theorem cg_76_5 : (eG (cn 76 + 5)).2.2 = [145] := by decide +kernel
theorem cr_76_5 {d i : Nat} {lv : List (Nat × pv)} {r : List pv} {g : pH} (hG : g_I eG g) : px_push eL d none (.getfield i) 8 5 lv (pvR 76 :: r) g = some (pvR 144 :: r) := pget er_76 (gI_o (r := 144) hG er_76 (Nat.le_of_ble_eq_true rfl) (y := 5) rfl cg_76_5)
theorem cg_76_6 : (eG (cn 76 + 6)).2.2 = [148] := by decide +kernel
theorem cr_76_6 {d i : Nat} {lv : List (Nat × pv)} {r : List pv} {g : pH} (hG : g_I eG g) : px_push eL d none (.getfield i) 8 6 lv (pvR 76 :: r) g = some (pvR 147 :: r) := pget er_76 (gI_o (r := 147) hG er_76 (Nat.le_of_ble_eq_true rfl) (y := 6) rfl cg_76_6)
theorem gf_1 : eG (cn 196 + 1) = (0, 255, []) := by decide +kernel
theorem gf_74 : eG (cn 196 + 74) = (0, 255, []) := by decide +kernel
theorem gf_75 : eG (cn 196 + 75) = (0, 24, []) := by decide +kernel
theorem gf_76 : eG (cn 196 + 76) = (0, 12, []) := by decide +kernel
theorem lv_q {lv : List (Nat × pv)} {q k r : Nat} {xs : List Int} (hr : r = k + 1) {ss : List eSL} (h : m_L lv ((q, 2, (0, 100000, [r])) :: ss) xs) : px_lg lv q = some (pvR k) ∧ ∃ ys, m_L lv ss ys := by
  match xs, h with
  | x :: xs, h =>
    obtain ⟨⟨v, h1, h2, h3, h4⟩, h5⟩ := h
    refine ⟨?_, xs, h5⟩
    obtain ⟨q, rfl⟩ := ct_2 h2
    rcases h4.2.2 with z | z
    · cases z
    · have z := List.mem_singleton.mp z
      match q, h1, h3 with
      | none, h1, h3 =>
        have h3 : (0 : Int) = x := h3
        subst h3
        rw [hr] at z
        have z : (0 : Int).toNat = k + 1 := z
        omega
      | some q, h1, h3 =>
        have h3 : (q : Int) + 1 = x := h3
        have z2 : x.toNat = k + 1 := by rw [← hr]; exact z
        rw [show q = k by omega] at h1
        exact h1
theorem cpR_e {k a b k2 a2 b2 : Nat} {g g0 g1 g2 : pH} (h : cpR k a b k2 a2 b2 g0 g1) (h1 : cF g0 k 2 = cF g k 2) (h2 : fA g0 a = fA g a) (h3 : fA g0 b = fA g b) (h4 : cF g2 k2 2 = cF g1 k2 2) (h5 : fA g2 a2 = fA g1 a2) (h6 : fA g2 b2 = fA g1 b2) : cpR k a b k2 a2 b2 g g2 := by
  unfold cpR at h ⊢
  rw [h4, h5, h6, ← h1, ← h2, ← h3]
  exact h
def kvk : eK := (79, (2, [(0, 2, (0, 100000, [77])), (1, 2, (0, 100000, [3]))], [], []), (0, []), 5920216619289988304008851525635890939624756583412816021193461439696055734099556687926798736292020214448276508888260400838022595760923351134599499860485051298233452989635818185134819730953077439715200170898292546703454629789696, [])
def svk : eCc := (75, (2, [(0, 2, (0, 100000, [77])), (1, 2, (0, 100000, [3]))], [], []), (-1, []))
theorem evk : ex_to eG eKT eDX 4000 kvk kc_82 svk 0 = true := by decide +kernel
def kwk : eK := (79, (2, [(0, 2, (0, 100000, [77])), (1, 2, (0, 100000, [3]))], [], []), (0, []), 40347654345107946713373737062547060536401653012956617387979052445947619094013143666088208645002153616185987062074179584, [(none, [], [])])
theorem ewk : ex_mid eG eKT eDX 4000 kwk [] 97 = true := by decide +kernel
theorem Wvk : kvk.2.2.2.1 &&& kk_82.2.2.2.1 = kvk.2.2.2.1 ∧ Wk144 &&& kk_82.2.2.2.1 = Wk144 ∧ Wk147 &&& kk_82.2.2.2.1 = Wk147 ∧ kwk.2.2.2.1 &&& kk_82.2.2.2.1 = kwk.2.2.2.1 ∧ kk_82.2.2.2.1 &&& eDX = 0 := by decide +kernel
theorem Wxk : kvk.2.2.2.1.testBit (cn 70 + 2) = false ∧ kvk.2.2.2.1.testBit (cn 73 + 2) = false ∧ kvk.2.2.2.1.testBit (cn 71) = false ∧ kvk.2.2.2.1.testBit (cn 72) = false ∧ kvk.2.2.2.1.testBit (cn 74) = false ∧ kvk.2.2.2.1.testBit (cn 75) = false ∧ Wk144.testBit (cn 73 + 2) = false ∧ Wk144.testBit (cn 74) = false ∧ Wk144.testBit (cn 75) = false ∧ Wk147.testBit (cn 144 + 2) = false ∧ Wk147.testBit (cn 145) = false ∧ Wk147.testBit (cn 146) = false ∧ kwk.2.2.2.1.testBit (cn 144 + 2) = false ∧ kwk.2.2.2.1.testBit (cn 147 + 2) = false ∧ kwk.2.2.2.1.testBit (cn 145) = false ∧ kwk.2.2.2.1.testBit (cn 146) = false ∧ kwk.2.2.2.1.testBit (cn 148) = false ∧ kwk.2.2.2.1.testBit (cn 149) = false := by decide +kernel
set_option maxHeartbeats 2000000 in
theorem s9k_run {d : Nat} (hd : 5 ≤ d) (hd2 : d ≤ 1000000) {g : pH} (hG : g_I eG g) (hx : xL g) {P : Option pv × pH → Prop} (hP : ∀ g1 : pH, J_ kk_82.2.2.2.1 g g1 → xL g1 → cpR 70 71 72 144 145 146 g g1 → cpR 73 74 75 147 148 149 g g1 → P (none, g1)) {lv : List (Nat × pv)} (l0 : px_lg lv 0 = some (pvR 76)) (l1 : px_lg lv 1 = some (pvR 2)) : t_X d 79 0 lv [] g P := by
  refine to_L (k := kvk) evk rfl hG hx (xs := [cv (pvR 76), cv (pvR 2)]) (ys := []) ⟨by show 2 ≤ _; omega, ⟨⟨pvR 76, l0, rfl, rfl, ok_rl rfl (by decide)⟩, ⟨pvR 2, l1, rfl, rfl, ok_rl rfl (by decide)⟩, trivial⟩, trivial, fun c hc => absurd hc List.not_mem_nil⟩ (by omega) (fun lvA gA xs2 ys2 G2 X2 M2 P2 => ?_)
  clear l0 l1
  obtain ⟨-, L2, -, -⟩ := P2
  obtain ⟨l0, y0, L2⟩ := lv_q rfl L2
  obtain ⟨l1, y1, L2⟩ := lv_q rfl L2
  have hJA : J_ kk_82.2.2.2.1 g gA := ⟨G2, f_M_w Wvk.1 M2⟩
  show t_X d 79 75 lvA [] gA P
  refine t_0 qvk_75 rfl (ld_a l0) ?_
  refine t_0 qvk_76 rfl (cr_76_5 hJA.1) ?_
  refine t_0 qvk_79 rfl (ld_a l1) ?_
  refine t_0 qvk_80 rfl (cr_2_5 hJA.1) ?_
  refine t_3 qvk_83 rfl (ar := ([pvR 144, pvR 70], [])) (pcal_v1 rfl rfl er_144) ⟨by omega, Nat.le_of_ble_eq_true rfl, Nat.le_of_ble_eq_true rfl, rfl⟩ ?_
  refine pk_144 (by omega) hJA.1 (fun gB JB QB => ?_) rfl rfl
  have hJB := J_up Wvk.2.1 hJA JB
  show t_X d 79 86 lvA [] gB P
  refine t_0 qvk_86 rfl (ld_a l0) ?_
  refine t_0 qvk_87 rfl (cr_76_6 hJB.1) ?_
  refine t_0 qvk_90 rfl (ld_a l1) ?_
  refine t_0 qvk_91 rfl (cr_2_6 hJB.1) ?_
  refine t_3 qvk_94 rfl (ar := ([pvR 147, pvR 73], [])) (pcal_v1 rfl rfl er_147) ⟨by omega, Nat.le_of_ble_eq_true rfl, Nat.le_of_ble_eq_true rfl, rfl⟩ ?_
  refine pk_147 (by omega) hJB.1 (fun gC JC QC => ?_) rfl rfl
  have hJC := J_up Wvk.2.2.1 hJB JC
  show t_X d 79 97 lvA [] gC P
  refine mid_L (k := kwk) ewk hJC.1 (xL_K _ _ _ hJC.2 Wvk.2.2.2.2 hx) (xs := [cv (pvR 76), cv (pvR 2)]) (ys := []) ⟨by show 2 ≤ _; omega, ⟨⟨pvR 76, l0, rfl, rfl, ok_rl rfl (by decide)⟩, ⟨pvR 2, l1, rfl, rfl, ok_rl rfl (by decide)⟩, trivial⟩, trivial, fun c hc => absurd hc List.not_mem_nil⟩ (by omega) (fun o G1 X1 M1 P1 => ?_)
  obtain ⟨o1, gD⟩ := o
  obtain ⟨rfl, -⟩ := po_n P1
  have hJD := J_up Wvk.2.2.2.1 hJC ⟨G1, M1⟩
  exact hP gD hJD X1 (cpR_e QB (cF_M M2 Wxk.1) (fA_M M2 Wxk.2.2.1) (fA_M M2 Wxk.2.2.2.1) ((cF_M M1 Wxk.2.2.2.2.2.2.2.2.2.2.2.2.1).trans (cF_M JC.2 Wxk.2.2.2.2.2.2.2.2.2.1)) ((fA_M M1 Wxk.2.2.2.2.2.2.2.2.2.2.2.2.2.2.1).trans (fA_M JC.2 Wxk.2.2.2.2.2.2.2.2.2.2.1)) ((fA_M M1 Wxk.2.2.2.2.2.2.2.2.2.2.2.2.2.2.2.1).trans (fA_M JC.2 Wxk.2.2.2.2.2.2.2.2.2.2.2.1))) (cpR_e QC ((cF_M JB.2 Wxk.2.2.2.2.2.2.1).trans (cF_M M2 Wxk.2.1)) ((fA_M JB.2 Wxk.2.2.2.2.2.2.2.1).trans (fA_M M2 Wxk.2.2.2.2.1)) ((fA_M JB.2 Wxk.2.2.2.2.2.2.2.2.1).trans (fA_M M2 Wxk.2.2.2.2.2.1)) (cF_M M1 Wxk.2.2.2.2.2.2.2.2.2.2.2.2.2.1) (fA_M M1 Wxk.2.2.2.2.2.2.2.2.2.2.2.2.2.2.2.2.1) (fA_M M1 Wxk.2.2.2.2.2.2.2.2.2.2.2.2.2.2.2.2.2))
def kvu : eK := (79, (2, [(0, 2, (0, 100000, [3])), (1, 2, (0, 100000, [77]))], [], []), (0, []), 307715388294501874267701154910077513390954813760189912998783262771883427633908491136443737497169098948157978738688, [])
def svu : eCc := (75, (2, [(0, 2, (0, 100000, [3])), (1, 2, (0, 100000, [77]))], [], []), (-1, []))
theorem evu : ex_to eG eKT eDX 4000 kvu kc_130 svu 0 = true := by decide +kernel
def kwu : eK := (79, (2, [(0, 2, (0, 100000, [3])), (1, 2, (0, 100000, [77]))], [], []), (0, []), 2097152, [(none, [], [])])
theorem ewu : ex_mid eG eKT eDX 4000 kwu [] 97 = true := by decide +kernel
theorem Wvu : kvu.2.2.2.1 &&& kk_130.2.2.2.1 = kvu.2.2.2.1 ∧ Wk70 &&& kk_130.2.2.2.1 = Wk70 ∧ Wk73 &&& kk_130.2.2.2.1 = Wk73 ∧ kwu.2.2.2.1 &&& kk_130.2.2.2.1 = kwu.2.2.2.1 ∧ kk_130.2.2.2.1 &&& eDX = 0 := by decide +kernel
theorem Wxu : kvu.2.2.2.1.testBit (cn 144 + 2) = false ∧ kvu.2.2.2.1.testBit (cn 147 + 2) = false ∧ kvu.2.2.2.1.testBit (cn 145) = false ∧ kvu.2.2.2.1.testBit (cn 146) = false ∧ kvu.2.2.2.1.testBit (cn 148) = false ∧ kvu.2.2.2.1.testBit (cn 149) = false ∧ Wk70.testBit (cn 147 + 2) = false ∧ Wk70.testBit (cn 148) = false ∧ Wk70.testBit (cn 149) = false ∧ Wk73.testBit (cn 70 + 2) = false ∧ Wk73.testBit (cn 71) = false ∧ Wk73.testBit (cn 72) = false ∧ kwu.2.2.2.1.testBit (cn 70 + 2) = false ∧ kwu.2.2.2.1.testBit (cn 73 + 2) = false ∧ kwu.2.2.2.1.testBit (cn 71) = false ∧ kwu.2.2.2.1.testBit (cn 72) = false ∧ kwu.2.2.2.1.testBit (cn 74) = false ∧ kwu.2.2.2.1.testBit (cn 75) = false := by decide +kernel
set_option maxHeartbeats 2000000 in
theorem s9u_run {d : Nat} (hd : 5 ≤ d) (hd2 : d ≤ 1000000) {g : pH} (hG : g_I eG g) (hx : xL g) {P : Option pv × pH → Prop} (hP : ∀ g1 : pH, J_ kk_130.2.2.2.1 g g1 → xL g1 → cpR 144 145 146 70 71 72 g g1 → cpR 147 148 149 73 74 75 g g1 → P (none, g1)) {lv : List (Nat × pv)} (l0 : px_lg lv 0 = some (pvR 2)) (l1 : px_lg lv 1 = some (pvR 76)) : t_X d 79 0 lv [] g P := by
  refine to_L (k := kvu) evu rfl hG hx (xs := [cv (pvR 2), cv (pvR 76)]) (ys := []) ⟨by show 2 ≤ _; omega, ⟨⟨pvR 2, l0, rfl, rfl, ok_rl rfl (by decide)⟩, ⟨pvR 76, l1, rfl, rfl, ok_rl rfl (by decide)⟩, trivial⟩, trivial, fun c hc => absurd hc List.not_mem_nil⟩ (by omega) (fun lvA gA xs2 ys2 G2 X2 M2 P2 => ?_)
  clear l0 l1
  obtain ⟨-, L2, -, -⟩ := P2
  obtain ⟨l0, y0, L2⟩ := lv_q rfl L2
  obtain ⟨l1, y1, L2⟩ := lv_q rfl L2
  have hJA : J_ kk_130.2.2.2.1 g gA := ⟨G2, f_M_w Wvu.1 M2⟩
  show t_X d 79 75 lvA [] gA P
  refine t_0 qvu_75 rfl (ld_a l0) ?_
  refine t_0 qvu_76 rfl (cr_2_5 hJA.1) ?_
  refine t_0 qvu_79 rfl (ld_a l1) ?_
  refine t_0 qvu_80 rfl (cr_76_5 hJA.1) ?_
  refine t_3 qvu_83 rfl (ar := ([pvR 70, pvR 144], [])) (pcal_v1 rfl rfl er_70) ⟨by omega, Nat.le_of_ble_eq_true rfl, Nat.le_of_ble_eq_true rfl, rfl⟩ ?_
  refine pk_70 (by omega) hJA.1 (fun gB JB QB => ?_) rfl rfl
  have hJB := J_up Wvu.2.1 hJA JB
  show t_X d 79 86 lvA [] gB P
  refine t_0 qvu_86 rfl (ld_a l0) ?_
  refine t_0 qvu_87 rfl (cr_2_6 hJB.1) ?_
  refine t_0 qvu_90 rfl (ld_a l1) ?_
  refine t_0 qvu_91 rfl (cr_76_6 hJB.1) ?_
  refine t_3 qvu_94 rfl (ar := ([pvR 73, pvR 147], [])) (pcal_v1 rfl rfl er_73) ⟨by omega, Nat.le_of_ble_eq_true rfl, Nat.le_of_ble_eq_true rfl, rfl⟩ ?_
  refine pk_73 (by omega) hJB.1 (fun gC JC QC => ?_) rfl rfl
  have hJC := J_up Wvu.2.2.1 hJB JC
  show t_X d 79 97 lvA [] gC P
  refine mid_L (k := kwu) ewu hJC.1 (xL_K _ _ _ hJC.2 Wvu.2.2.2.2 hx) (xs := [cv (pvR 2), cv (pvR 76)]) (ys := []) ⟨by show 2 ≤ _; omega, ⟨⟨pvR 2, l0, rfl, rfl, ok_rl rfl (by decide)⟩, ⟨pvR 76, l1, rfl, rfl, ok_rl rfl (by decide)⟩, trivial⟩, trivial, fun c hc => absurd hc List.not_mem_nil⟩ (by omega) (fun o G1 X1 M1 P1 => ?_)
  obtain ⟨o1, gD⟩ := o
  obtain ⟨rfl, -⟩ := po_n P1
  have hJD := J_up Wvu.2.2.2.1 hJC ⟨G1, M1⟩
  exact hP gD hJD X1 (cpR_e QB (cF_M M2 Wxu.1) (fA_M M2 Wxu.2.2.1) (fA_M M2 Wxu.2.2.2.1) ((cF_M M1 Wxu.2.2.2.2.2.2.2.2.2.2.2.2.1).trans (cF_M JC.2 Wxu.2.2.2.2.2.2.2.2.2.1)) ((fA_M M1 Wxu.2.2.2.2.2.2.2.2.2.2.2.2.2.2.1).trans (fA_M JC.2 Wxu.2.2.2.2.2.2.2.2.2.2.1)) ((fA_M M1 Wxu.2.2.2.2.2.2.2.2.2.2.2.2.2.2.2.1).trans (fA_M JC.2 Wxu.2.2.2.2.2.2.2.2.2.2.2.1))) (cpR_e QC ((cF_M JB.2 Wxu.2.2.2.2.2.2.1).trans (cF_M M2 Wxu.2.1)) ((fA_M JB.2 Wxu.2.2.2.2.2.2.2.1).trans (fA_M M2 Wxu.2.2.2.2.1)) ((fA_M JB.2 Wxu.2.2.2.2.2.2.2.2.1).trans (fA_M M2 Wxu.2.2.2.2.2.1)) (cF_M M1 Wxu.2.2.2.2.2.2.2.2.2.2.2.2.2.1) (fA_M M1 Wxu.2.2.2.2.2.2.2.2.2.2.2.2.2.2.2.2.1) (fA_M M1 Wxu.2.2.2.2.2.2.2.2.2.2.2.2.2.2.2.2.2))
def kk9 : eK := (126, (2, [(0, 2, (0, 100000, [1]))], [], []), (0, []), 16, [(some (0, ((-2147483648), 2147483647, [])), [], [])])
theorem ek9 : ex_mid eG eKT eDX 4000 kk9 [] 11 = true := by decide +kernel
def ku9 : eK := (160, (2, [(0, 2, (0, 100000, [1]))], [], []), (0, []), 0, [(some (0, ((-2147483648), 2147483647, [])), [], [])])
theorem eu9 : ex_mid eG eKT eDX 4000 ku9 [] 18 = true := by decide +kernel
theorem Wk9 : kk9.2.2.2.1.testBit (cn 144 + 2) = false ∧ kk9.2.2.2.1.testBit (cn 145) = false ∧ kk9.2.2.2.1.testBit (cn 146) = false ∧ kk9.2.2.2.1.testBit (cn 147 + 2) = false ∧ kk9.2.2.2.1.testBit (cn 148) = false ∧ kk9.2.2.2.1.testBit (cn 149) = false := by decide +kernel
theorem ck9_run {d : Nat} (hd : 8 ≤ d) (hd2 : d ≤ 1000000) {g : pH} (hG : g_I eG g) (hx : xL g) {P : Option pv × pH → Prop} (hP : ∀ (r : Option pv) (g1 : pH), cpR 70 71 72 144 145 146 g g1 → cpR 73 74 75 147 148 149 g g1 → P (r, g1)) {lv : List (Nat × pv)} (l0 : px_lg lv 0 = some (pvR 0)) : t_X d 126 0 lv [] g P := by
  have hJ : J_ 0 g g := J_rf hG
  refine t_0 qkq_0 rfl (ld_a l0) ?_
  refine t_0 qkq_1 rfl (cr_0_3 hJ.1) ?_
  refine t_0 qkq_4 rfl (ld_a l0) ?_
  refine t_0 qkq_5 rfl (cr_0_2 hJ.1) ?_
  refine t_3 qkq_8 rfl (ar := ([pvR 76, pvR 2], [])) (pcal_v1 rfl rfl er_76) ⟨by omega, Nat.le_of_ble_eq_true rfl, Nat.le_of_ble_eq_true rfl, rfl⟩ ?_
  refine s9k_run (by omega) (by omega) hG hx (fun gq Jq Xq C1 C2 => ?_) rfl rfl
  show t_X d 126 11 lv [] gq P
  refine mid_L (k := kk9) ek9 Jq.1 Xq (xs := [cv (pvR 0)]) (ys := []) ⟨by show 2 ≤ _; omega, ⟨⟨pvR 0, l0, rfl, rfl, ok_0⟩, trivial⟩, trivial, fun c hc => absurd hc List.not_mem_nil⟩ (by omega) (fun o G1 X1 M1 P1 => ?_)
  obtain ⟨o1, gD⟩ := o
  obtain ⟨w1, w2, w3, w4, w5, w6⟩ := Wk9
  exact hP o1 gD (cpR_e C1 rfl rfl rfl (cF_M M1 w1) (fA_M M1 w2) (fA_M M1 w3)) (cpR_e C2 rfl rfl rfl (cF_M M1 w4) (fA_M M1 w5) (fA_M M1 w6))
theorem cu9_run {d : Nat} (hd : 8 ≤ d) (hd2 : d ≤ 1000000) {g : pH} (hG : g_I eG g) (hx : xL g) {P : Option pv × pH → Prop} (hA : cF g 0 4 ≠ 0 → ∀ (r : Option pv) (g1 : pH), cpR 144 145 146 70 71 72 g g1 → cpR 147 148 149 73 74 75 g g1 → P (r, g1)) (hR : cF g 0 4 = 0 → ∀ (r : Option pv) (g1 : pH), f_M 0 g g1 → P (r, g1)) {lv : List (Nat × pv)} (l0 : px_lg lv 0 = some (pvR 0)) : t_X d 160 0 lv [] g P := by
  have hJ : J_ 0 g g := J_rf hG
  refine t_0 qunq_0 rfl (ld_a l0) ?_
  have r1 := cb_0_4 hJ.1
  refine t_0 qunq_1 rfl (pq_cz (y := 4) er_0 rfl) ?_
  refine tz_eq qunq_4 (by decide) ⟨by omega, by omega⟩ (fun c2 => ?_) (fun c2 => ?_)
  · show t_X d 160 18 lv [] g P
    refine mid_L (k := ku9) eu9 hG hx (xs := [cv (pvR 0)]) (ys := []) ⟨by show 2 ≤ _; omega, ⟨⟨pvR 0, l0, rfl, rfl, ok_0⟩, trivial⟩, trivial, fun c hc => absurd hc List.not_mem_nil⟩ (by omega) (fun o G1 X1 M1 P1 => ?_)
    obtain ⟨o1, gD⟩ := o
    exact hR (by omega) o1 gD M1
  · show t_X d 160 7 lv [] g P
    refine t_0 qunq_7 rfl (ld_a l0) ?_
    refine t_0 qunq_8 rfl (cr_0_2 hJ.1) ?_
    refine t_0 qunq_11 rfl (ld_a l0) ?_
    refine t_0 qunq_12 rfl (cr_0_3 hJ.1) ?_
    refine t_3 qunq_15 rfl (ar := ([pvR 2, pvR 76], [])) (pcal_v1 rfl rfl er_2) ⟨by omega, Nat.le_of_ble_eq_true rfl, Nat.le_of_ble_eq_true rfl, rfl⟩ ?_
    refine s9u_run (by omega) (by omega) hG hx (fun gq Jq Xq C1 C2 => ?_) rfl rfl
    show t_X d 160 18 lv [] gq P
    refine mid_L (k := ku9) eu9 Jq.1 Xq (xs := [cv (pvR 0)]) (ys := []) ⟨by show 2 ≤ _; omega, ⟨⟨pvR 0, l0, rfl, rfl, ok_0⟩, trivial⟩, trivial, fun c hc => absurd hc List.not_mem_nil⟩ (by omega) (fun o G1 X1 M1 P1 => ?_)
    obtain ⟨o1, gD⟩ := o
    exact hA (by omega) o1 gD (cpR_e C1 rfl rfl rfl (cF_M0 M1 _ _) (fA_M M1 (Nat.zero_testBit _)) (fA_M M1 (Nat.zero_testBit _))) (cpR_e C2 rfl rfl rfl (cF_M0 M1 _ _) (fA_M M1 (Nat.zero_testBit _)) (fA_M M1 (Nat.zero_testBit _)))
def cpQ (y A B N y2 A2 B2 : Nat) (g g1 : pH) : Prop := fF g1 y2 = fF g y ∧ ∀ j, j < N → fA g1 A2 j = fA g A j ∧ fA g1 B2 j = fA g B j
theorem gX_76 : eG (cn 196 + 76) = (0, 12, []) := by decide +kernel
theorem gX_75 : eG (cn 196 + 75) = (0, 24, []) := by decide +kernel
theorem gX_74 : eG (cn 196 + 74) = (0, 255, []) := by decide +kernel
theorem gX_73 : eG (cn 196 + 73) = ((-2147483648), 2147483647, []) := by decide +kernel
theorem gX_23 : eG (cn 196 + 23) = (0, 12, []) := by decide +kernel
theorem gX_22 : eG (cn 196 + 22) = (0, 24, []) := by decide +kernel
theorem gX_1 : eG (cn 196 + 1) = (0, 255, []) := by decide +kernel
theorem gX_0 : eG (cn 196 + 0) = ((-2147483648), 2147483647, []) := by decide +kernel
def kyk : eK := (209, (2, [(0, 2, (0, 100000, [197]))], [], []), (0, []), 174870204692798826778782968006592295483621265270343084734820063382041291543589575190889975422721564046423450620144673561870542110624985651915268306019080740800212146085131449682071937554617897035448212252737718471732057281483947886565581677199977666765801926515844368176218214852570829993183196502892216320, [])
def syk : eCc := (141, (2, [(0, 2, (0, 100000, [197]))], [], []), (-1, []))
theorem eyk : ex_to eG eKT eDX 4000 kyk [] syk 37 = true := by decide +kernel
def kzk : eK := (209, (2, [(0, 2, (0, 100000, [197]))], [], []), (0, []), 2808895523222368605827039360607851146278089029597354019897345018089573059460952548948569958162617750330001779372990521213418590137725259726450741103741783193402623334763523207442222181269470220616454421126328215138096104411600982523029892352200425580677351729446660909999175717788745567263052442650378502144, [(some (0, ((-2147483648), 2147483647, [])), [], [])])
theorem ezk : ex_mid eG eKT eDX 4000 kzk kc_58 193 = true := by decide +kernel
theorem Wyk : kk_58.2.2.2.1.testBit (cn 196 + 72) = true ∧ kk_58.2.2.2.1.testBit (cn 196 + 73) = true ∧ kk_58.2.2.2.1.testBit (cn 196 + 74) = true ∧ kk_58.2.2.2.1.testBit (cn 196 + 75) = true ∧ kk_58.2.2.2.1.testBit (cn 196 + 76) = true ∧ kyk.2.2.2.1.testBit (cn 196 + 22) = false ∧ kyk.2.2.2.1.testBit (cn 196 + 23) = false ∧ kyk.2.2.2.1.testBit (cn 196 + 75) = false ∧ kyk.2.2.2.1.testBit (cn 196 + 76) = false ∧ kyk.2.2.2.1.testBit (cn 206) = false ∧ kyk.2.2.2.1.testBit (cn 207) = false ∧ kyk.2.2.2.1.testBit (cn 208) = false ∧ kyk.2.2.2.1.testBit (cn 209) = false ∧ kzk.2.2.2.1.testBit (cn 196 + 22) = false ∧ kzk.2.2.2.1.testBit (cn 196 + 23) = false ∧ kzk.2.2.2.1.testBit (cn 196 + 75) = false ∧ kzk.2.2.2.1.testBit (cn 196 + 76) = false ∧ kzk.2.2.2.1.testBit (cn 249) = false ∧ kzk.2.2.2.1.testBit (cn 250) = false ∧ kzk.2.2.2.1.testBit (cn 251) = false ∧ kzk.2.2.2.1.testBit (cn 252) = false ∧ kk_58.2.2.2.1 &&& eDX = 0 ∧ kyk.2.2.2.1 &&& kk_58.2.2.2.1 = kyk.2.2.2.1 ∧ 2 ^ cn 249 &&& kk_58.2.2.2.1 = 2 ^ cn 249 ∧ 2 ^ cn 250 &&& kk_58.2.2.2.1 = 2 ^ cn 250 ∧ 2 ^ cn 251 &&& kk_58.2.2.2.1 = 2 ^ cn 251 ∧ 2 ^ cn 252 &&& kk_58.2.2.2.1 = 2 ^ cn 252 := by decide +kernel
set_option maxHeartbeats 4000000 in
theorem mk9_run {d : Nat} (hd : 8 ≤ d) (hd2 : d ≤ 1000000) {g : pH} (hG : g_I eG g) (hx : xL g) {P : Option pv × pH → Prop} (hP : ∀ (r : Option pv) (g1 : pH), cpQ 22 206 207 24 75 249 250 g g1 → cpQ 23 208 209 12 76 251 252 g g1 → P (r, g1)) {lv : List (Nat × pv)} (l0 : px_lg lv 0 = some (pvR 196)) : t_X d 209 0 lv [] g P := by
  have hJ : J_ kk_58.2.2.2.1 g g := J_rf hG
  refine t_0 qzk_0 rfl (ld_a l0) ?_
  refine t_0 qzk_1 rfl rfl ?_
  refine tw_z qzk_2 el_196 rfl hJ Wyk.1 gz_72 (by decide) ⟨by omega, by omega⟩ (by omega) (fun g1 hJ1 e1 => ?_)
  have v1_22 : fF g1 22 = fF g 22 := by rw [e1]; exact congrArg Int32.toInt (pr_ne (by decide))
  have v1_23 : fF g1 23 = fF g 23 := by rw [e1]; exact congrArg Int32.toInt (pr_ne (by decide))
  have v1_75 : fF g1 75 = fF g 75 := by rw [e1]; exact congrArg Int32.toInt (pr_ne (by decide))
  have v1_76 : fF g1 76 = fF g 76 := by rw [e1]; exact congrArg Int32.toInt (pr_ne (by decide))
  have u1_206 : fA g1 206 = fA g 206 := by rw [e1]; rfl
  have u1_207 : fA g1 207 = fA g 207 := by rw [e1]; rfl
  have u1_208 : fA g1 208 = fA g 208 := by rw [e1]; rfl
  have u1_209 : fA g1 209 = fA g 209 := by rw [e1]; rfl
  show t_X d 209 5 lv [] g1 P
  refine t_0 qzk_5 rfl (ld_a l0) ?_
  refine t_0 qzk_6 rfl (ld_a l0) ?_
  have r2 := fF_b g1 0
  refine t_0 qzk_7 rfl (pq_gf (y := 0) rfl) ?_
  refine tw_c qzk_10 el_196 rfl hJ1 Wyk.2.1 gX_73 (by decide) ⟨by omega, by omega⟩ (fun g3 hJ3 e3 => ?_)
  have v3_22 : fF g3 22 = fF g1 22 := by rw [e3]; exact congrArg Int32.toInt (pr_ne (by decide))
  have v3_23 : fF g3 23 = fF g1 23 := by rw [e3]; exact congrArg Int32.toInt (pr_ne (by decide))
  have v3_75 : fF g3 75 = fF g1 75 := by rw [e3]; exact congrArg Int32.toInt (pr_ne (by decide))
  have v3_76 : fF g3 76 = fF g1 76 := by rw [e3]; exact congrArg Int32.toInt (pr_ne (by decide))
  have u3_206 : fA g3 206 = fA g1 206 := by rw [e3]; rfl
  have u3_207 : fA g3 207 = fA g1 207 := by rw [e3]; rfl
  have u3_208 : fA g3 208 = fA g1 208 := by rw [e3]; rfl
  have u3_209 : fA g3 209 = fA g1 209 := by rw [e3]; rfl
  show t_X d 209 13 lv [] g3 P
  refine t_0 qzk_13 rfl (ld_a l0) ?_
  refine t_0 qzk_14 rfl (ld_a l0) ?_
  have r4 := gb_f hJ3.1 (y := 1) rfl rfl gf_1
  refine t_0 qzk_15 rfl (pq_gf (y := 1) rfl) ?_
  refine tw_c qzk_18 el_196 rfl hJ3 Wyk.2.2.1 gX_74 (by decide) ⟨by omega, by omega⟩ (fun g5 hJ5 e5 => ?_)
  have v5_22 : fF g5 22 = fF g3 22 := by rw [e5]; exact congrArg Int32.toInt (pr_ne (by decide))
  have v5_23 : fF g5 23 = fF g3 23 := by rw [e5]; exact congrArg Int32.toInt (pr_ne (by decide))
  have v5_75 : fF g5 75 = fF g3 75 := by rw [e5]; exact congrArg Int32.toInt (pr_ne (by decide))
  have v5_76 : fF g5 76 = fF g3 76 := by rw [e5]; exact congrArg Int32.toInt (pr_ne (by decide))
  have u5_206 : fA g5 206 = fA g3 206 := by rw [e5]; rfl
  have u5_207 : fA g5 207 = fA g3 207 := by rw [e5]; rfl
  have u5_208 : fA g5 208 = fA g3 208 := by rw [e5]; rfl
  have u5_209 : fA g5 209 = fA g3 209 := by rw [e5]; rfl
  show t_X d 209 21 lv [] g5 P
  refine t_0 qzk_21 rfl (ld_a l0) ?_
  refine t_0 qzk_22 rfl (ld_a l0) ?_
  have r6 := gb_f hJ5.1 (y := 22) rfl rfl gf_22
  refine t_0 qzk_23 rfl (pq_gf (y := 22) rfl) ?_
  refine tw_c qzk_26 el_196 rfl hJ5 Wyk.2.2.2.1 gX_75 (by decide) ⟨by omega, by omega⟩ (fun g7 hJ7 e7 => ?_)
  have v7_22 : fF g7 22 = fF g5 22 := by rw [e7]; exact congrArg Int32.toInt (pr_ne (by decide))
  have v7_23 : fF g7 23 = fF g5 23 := by rw [e7]; exact congrArg Int32.toInt (pr_ne (by decide))
  have v7_75 : fF g7 75 = fF g5 22 := by rw [e7]; exact pc_at (by omega) (by omega)
  have v7_76 : fF g7 76 = fF g5 76 := by rw [e7]; exact congrArg Int32.toInt (pr_ne (by decide))
  have u7_206 : fA g7 206 = fA g5 206 := by rw [e7]; rfl
  have u7_207 : fA g7 207 = fA g5 207 := by rw [e7]; rfl
  have u7_208 : fA g7 208 = fA g5 208 := by rw [e7]; rfl
  have u7_209 : fA g7 209 = fA g5 209 := by rw [e7]; rfl
  show t_X d 209 29 lv [] g7 P
  refine t_0 qzk_29 rfl (ld_a l0) ?_
  refine t_0 qzk_30 rfl (ld_a l0) ?_
  have r8 := gb_f hJ7.1 (y := 23) rfl rfl gf_23
  refine t_0 qzk_31 rfl (pq_gf (y := 23) rfl) ?_
  refine tw_c qzk_34 el_196 rfl hJ7 Wyk.2.2.2.2.1 gX_76 (by decide) ⟨by omega, by omega⟩ (fun g9 hJ9 e9 => ?_)
  have v9_22 : fF g9 22 = fF g7 22 := by rw [e9]; exact congrArg Int32.toInt (pr_ne (by decide))
  have v9_23 : fF g9 23 = fF g7 23 := by rw [e9]; exact congrArg Int32.toInt (pr_ne (by decide))
  have v9_75 : fF g9 75 = fF g7 75 := by rw [e9]; exact congrArg Int32.toInt (pr_ne (by decide))
  have v9_76 : fF g9 76 = fF g7 23 := by rw [e9]; exact pc_at (by omega) (by omega)
  have u9_206 : fA g9 206 = fA g7 206 := by rw [e9]; rfl
  have u9_207 : fA g9 207 = fA g7 207 := by rw [e9]; rfl
  have u9_208 : fA g9 208 = fA g7 208 := by rw [e9]; rfl
  have u9_209 : fA g9 209 = fA g7 209 := by rw [e9]; rfl
  show t_X d 209 37 lv [] g9 P
  refine to_L (k := kyk) eyk rfl hJ9.1 (xL_K _ _ _ hJ9.2 Wyk.2.2.2.2.2.2.2.2.2.2.2.2.2.2.2.2.2.2.2.2.2.1 hx) (xs := [cv (pvR 196)]) (ys := []) ⟨by show 2 ≤ _; omega, ⟨⟨pvR 196, l0, rfl, rfl, ok_this⟩, trivial⟩, trivial, fun c hc => absurd hc List.not_mem_nil⟩ (by omega) (fun lvA gA xs2 ys2 G2 X2 M2 P2 => ?_)
  have hJA := J_up Wyk.2.2.2.2.2.2.2.2.2.2.2.2.2.2.2.2.2.2.2.2.2.2.1 hJ9 ⟨G2, M2⟩
  clear l0
  obtain ⟨-, L2, -, -⟩ := P2
  obtain ⟨l0, -⟩ := lv_r rfl L2
  show t_X d 209 141 lvA [] gA P
  refine t_0 qzk_141 rfl (ld_a l0) ?_
  refine t_0 qzk_142 rfl (ar_11 hJA.1) ?_
  refine t_0 qzk_145 rfl (ld_a l0) ?_
  refine t_0 qzk_146 rfl (ar_85 hJA.1) ?_
  refine t_0 qzk_149 rfl (pq_b (by decide)) ?_
  refine t_3 qzk_151 rfl (ar := ([pvR 206, pvR 249, oI (24)], [])) (pcal_s ⟨Or.inl rfl, rfl, Nat.le_of_ble_eq_true rfl⟩) ⟨by omega, Nat.le_of_ble_eq_true rfl, Nat.le_of_ble_eq_true rfl, rfl⟩ ?_
  refine cx_run hJA.1 el_206 el_249 (by decide) rfl rfl ga_206 ga_249 (fun gB JB pB oB fB => ?_) rfl rfl rfl
  have hJB := J_up Wyk.2.2.2.2.2.2.2.2.2.2.2.2.2.2.2.2.2.2.2.2.2.2.2.1 hJA JB
  show t_X d 209 154 lvA [] gB P
  refine t_0 qzk_154 rfl (ld_a l0) ?_
  refine t_0 qzk_155 rfl (ar_12 hJB.1) ?_
  refine t_0 qzk_158 rfl (ld_a l0) ?_
  refine t_0 qzk_159 rfl (ar_86 hJB.1) ?_
  refine t_0 qzk_162 rfl (pq_b (by decide)) ?_
  refine t_3 qzk_164 rfl (ar := ([pvR 207, pvR 250, oI (24)], [])) (pcal_s ⟨Or.inl rfl, rfl, Nat.le_of_ble_eq_true rfl⟩) ⟨by omega, Nat.le_of_ble_eq_true rfl, Nat.le_of_ble_eq_true rfl, rfl⟩ ?_
  refine cx_run hJB.1 el_207 el_250 (by decide) rfl rfl ga_207 ga_250 (fun gC JC pC oC fC => ?_) rfl rfl rfl
  have hJC := J_up Wyk.2.2.2.2.2.2.2.2.2.2.2.2.2.2.2.2.2.2.2.2.2.2.2.2.1 hJB JC
  show t_X d 209 167 lvA [] gC P
  refine t_0 qzk_167 rfl (ld_a l0) ?_
  refine t_0 qzk_168 rfl (ar_13 hJC.1) ?_
  refine t_0 qzk_171 rfl (ld_a l0) ?_
  refine t_0 qzk_172 rfl (ar_87 hJC.1) ?_
  refine t_0 qzk_175 rfl (pq_b (by decide)) ?_
  refine t_3 qzk_177 rfl (ar := ([pvR 208, pvR 251, oI (12)], [])) (pcal_s ⟨Or.inl rfl, rfl, Nat.le_of_ble_eq_true rfl⟩) ⟨by omega, Nat.le_of_ble_eq_true rfl, Nat.le_of_ble_eq_true rfl, rfl⟩ ?_
  refine cx_run hJC.1 el_208 el_251 (by decide) rfl rfl ga_208 ga_251 (fun gD JD pD oD fD => ?_) rfl rfl rfl
  have hJD := J_up Wyk.2.2.2.2.2.2.2.2.2.2.2.2.2.2.2.2.2.2.2.2.2.2.2.2.2.1 hJC JD
  show t_X d 209 180 lvA [] gD P
  refine t_0 qzk_180 rfl (ld_a l0) ?_
  refine t_0 qzk_181 rfl (ar_14 hJD.1) ?_
  refine t_0 qzk_184 rfl (ld_a l0) ?_
  refine t_0 qzk_185 rfl (ar_88 hJD.1) ?_
  refine t_0 qzk_188 rfl (pq_b (by decide)) ?_
  refine t_3 qzk_190 rfl (ar := ([pvR 209, pvR 252, oI (12)], [])) (pcal_s ⟨Or.inl rfl, rfl, Nat.le_of_ble_eq_true rfl⟩) ⟨by omega, Nat.le_of_ble_eq_true rfl, Nat.le_of_ble_eq_true rfl, rfl⟩ ?_
  refine cx_run hJD.1 el_209 el_252 (by decide) rfl rfl ga_209 ga_252 (fun gE JE pE oE fE => ?_) rfl rfl rfl
  have hJE := J_up Wyk.2.2.2.2.2.2.2.2.2.2.2.2.2.2.2.2.2.2.2.2.2.2.2.2.2.2 hJD JE
  show t_X d 209 193 lvA [] gE P
  refine mid_L (k := kzk) ezk hJE.1 (xL_K _ _ _ hJE.2 Wyk.2.2.2.2.2.2.2.2.2.2.2.2.2.2.2.2.2.2.2.2.2.1 hx) (xs := [cv (pvR 196)]) (ys := []) ⟨by show 2 ≤ _; omega, ⟨⟨pvR 196, l0, rfl, rfl, ok_this⟩, trivial⟩, trivial, fun c hc => absurd hc List.not_mem_nil⟩ (by omega) (fun o G1 X1 M1 P1 => ?_)
  obtain ⟨o1, gF⟩ := o
  have fFA : ∀ y, fF gE y = fF gA y := fun y => by show (gE.1 196 y).toInt = (gA.1 196 y).toInt; rw [fE, fD, fC, fB]
  exact hP o1 gF ⟨(by rw [fF_M M1 Wyk.2.2.2.2.2.2.2.2.2.2.2.2.2.2.2.1, fFA, fF_M M2 Wyk.2.2.2.2.2.2.2.1]; simp only [v9_75, v9_22, v7_75, v7_22, v5_75, v5_22, v3_75, v3_22, v1_75, v1_22]), fun j hj => ⟨(by rw [fA_M M1 Wyk.2.2.2.2.2.2.2.2.2.2.2.2.2.2.2.2.2.1, oE 249 (by decide), oD 249 (by decide), oC 249 (by decide), pB j (by omega), fA_M M2 Wyk.2.2.2.2.2.2.2.2.2.1, u9_206, u7_206, u5_206, u3_206, u1_206]), (by rw [fA_M M1 Wyk.2.2.2.2.2.2.2.2.2.2.2.2.2.2.2.2.2.2.1, oE 250 (by decide), oD 250 (by decide), pC j (by omega), oB 207 (by decide), fA_M M2 Wyk.2.2.2.2.2.2.2.2.2.2.1, u9_207, u7_207, u5_207, u3_207, u1_207])⟩⟩ ⟨(by rw [fF_M M1 Wyk.2.2.2.2.2.2.2.2.2.2.2.2.2.2.2.2.1, fFA, fF_M M2 Wyk.2.2.2.2.2.2.2.2.1]; simp only [v9_76, v9_23, v7_76, v7_23, v5_76, v5_23, v3_76, v3_23, v1_76, v1_23]), fun j hj => ⟨(by rw [fA_M M1 Wyk.2.2.2.2.2.2.2.2.2.2.2.2.2.2.2.2.2.2.2.1, oE 251 (by decide), pD j (by omega), oC 208 (by decide), oB 208 (by decide), fA_M M2 Wyk.2.2.2.2.2.2.2.2.2.2.2.1, u9_208, u7_208, u5_208, u3_208, u1_208]), (by rw [fA_M M1 Wyk.2.2.2.2.2.2.2.2.2.2.2.2.2.2.2.2.2.2.2.2.1, pE j (by omega), oD 209 (by decide), oC 209 (by decide), oB 209 (by decide), fA_M M2 Wyk.2.2.2.2.2.2.2.2.2.2.2.2.1, u9_209, u7_209, u5_209, u3_209, u1_209])⟩⟩
def kyu : eK := (270, (2, [(0, 2, (0, 100000, [197]))], [], []), (0, []), 19841459327210398127599486541713883400943997882063435324703057546885563534400443544619992274135772887782720809447148048421522869845553499478832782135292562362165681397111379088816927738577749228046299972323688619386823877376103965389539596321094813987717276203120309085858603009223537129947136, [])
def syu : eCc := (145, (2, [(0, 2, (0, 100000, [197]))], [], []), (-1, []))
theorem eyu : ex_to eG eKT eDX 4000 kyu [] syu 41 = true := by decide +kernel
def kzu : eK := (270, (2, [(0, 2, (0, 100000, [197]))], [], []), (0, []), 319334449525555169865019634085894170570792201669673206640407558789953902699034250525593274478821712174294791495070799239035590078142974985718267487725573027251200907672173708242806035431098077949224537079127027838932929672819339262222216842951687065201139345100120966662777359236855041588461568, [(some (0, ((-2147483648), 2147483647, [])), [], [])])
theorem ezu : ex_mid eG eKT eDX 4000 kzu kc_60 197 = true := by decide +kernel
theorem Wyu : kk_60.2.2.2.1.testBit (cn 196 + 0) = true ∧ kk_60.2.2.2.1.testBit (cn 196 + 1) = true ∧ kk_60.2.2.2.1.testBit (cn 196 + 22) = true ∧ kk_60.2.2.2.1.testBit (cn 196 + 23) = true ∧ kyu.2.2.2.1.testBit (cn 196 + 22) = false ∧ kyu.2.2.2.1.testBit (cn 196 + 23) = false ∧ kyu.2.2.2.1.testBit (cn 196 + 75) = false ∧ kyu.2.2.2.1.testBit (cn 196 + 76) = false ∧ kyu.2.2.2.1.testBit (cn 249) = false ∧ kyu.2.2.2.1.testBit (cn 250) = false ∧ kyu.2.2.2.1.testBit (cn 251) = false ∧ kyu.2.2.2.1.testBit (cn 252) = false ∧ kzu.2.2.2.1.testBit (cn 196 + 22) = false ∧ kzu.2.2.2.1.testBit (cn 196 + 23) = false ∧ kzu.2.2.2.1.testBit (cn 196 + 75) = false ∧ kzu.2.2.2.1.testBit (cn 196 + 76) = false ∧ kzu.2.2.2.1.testBit (cn 206) = false ∧ kzu.2.2.2.1.testBit (cn 207) = false ∧ kzu.2.2.2.1.testBit (cn 208) = false ∧ kzu.2.2.2.1.testBit (cn 209) = false ∧ kk_60.2.2.2.1 &&& eDX = 0 ∧ kyu.2.2.2.1 &&& kk_60.2.2.2.1 = kyu.2.2.2.1 ∧ 2 ^ cn 206 &&& kk_60.2.2.2.1 = 2 ^ cn 206 ∧ 2 ^ cn 207 &&& kk_60.2.2.2.1 = 2 ^ cn 207 ∧ 2 ^ cn 208 &&& kk_60.2.2.2.1 = 2 ^ cn 208 ∧ 2 ^ cn 209 &&& kk_60.2.2.2.1 = 2 ^ cn 209 := by decide +kernel
set_option maxHeartbeats 4000000 in
theorem mu9_run {d : Nat} (hd : 8 ≤ d) (hd2 : d ≤ 1000000) {g : pH} (hG : g_I eG g) (hx : xL g) {P : Option pv × pH → Prop} (hA : cF g 196 72 ≠ 0 → ∀ (r : Option pv) (g1 : pH), cpQ 75 249 250 24 22 206 207 g g1 → cpQ 76 251 252 12 23 208 209 g g1 → P (r, g1)) (hR : cF g 196 72 = 0 → P (some (oI 0), g)) {lv : List (Nat × pv)} (l0 : px_lg lv 0 = some (pvR 196)) : t_X d 270 0 lv [] g P := by
  have hJ : J_ kk_60.2.2.2.1 g g := J_rf hG
  refine t_0 qzu_0 rfl (ld_a l0) ?_
  have r1 : 0 ≤ fF g 72 ∧ fF g 72 ≤ 1 := cb_z hJ.1 el_196 (Nat.le_of_ble_eq_true rfl) rfl gz_72
  refine t_0 qzu_1 rfl (pq_cz (y := 72) el_196 rfl) ?_
  show t_X d 270 4 lv [oI (fF g 72)] g P
  refine tz_ne qzu_4 (by decide) ⟨by omega, by omega⟩ (fun c2 => ?_) (fun c2 => ?_)
  · show t_X d 270 9 lv [] g P
    refine t_0 qzu_9 rfl (ld_a l0) ?_
    refine t_0 qzu_10 rfl (ld_a l0) ?_
    have r3 := fF_b g 73
    refine t_0 qzu_11 rfl (pq_gf (y := 73) rfl) ?_
    refine tw_c qzu_14 el_196 rfl hJ Wyu.1 gX_0 (by decide) ⟨by omega, by omega⟩ (fun g4 hJ4 e4 => ?_)
    have v4_22 : fF g4 22 = fF g 22 := by rw [e4]; exact congrArg Int32.toInt (pr_ne (by decide))
    have v4_23 : fF g4 23 = fF g 23 := by rw [e4]; exact congrArg Int32.toInt (pr_ne (by decide))
    have v4_75 : fF g4 75 = fF g 75 := by rw [e4]; exact congrArg Int32.toInt (pr_ne (by decide))
    have v4_76 : fF g4 76 = fF g 76 := by rw [e4]; exact congrArg Int32.toInt (pr_ne (by decide))
    have u4_249 : fA g4 249 = fA g 249 := by rw [e4]; rfl
    have u4_250 : fA g4 250 = fA g 250 := by rw [e4]; rfl
    have u4_251 : fA g4 251 = fA g 251 := by rw [e4]; rfl
    have u4_252 : fA g4 252 = fA g 252 := by rw [e4]; rfl
    show t_X d 270 17 lv [] g4 P
    refine t_0 qzu_17 rfl (ld_a l0) ?_
    refine t_0 qzu_18 rfl (ld_a l0) ?_
    have r5 := gb_f hJ4.1 (y := 74) rfl rfl gf_74
    refine t_0 qzu_19 rfl (pq_gf (y := 74) rfl) ?_
    refine tw_c qzu_22 el_196 rfl hJ4 Wyu.2.1 gX_1 (by decide) ⟨by omega, by omega⟩ (fun g6 hJ6 e6 => ?_)
    have v6_22 : fF g6 22 = fF g4 22 := by rw [e6]; exact congrArg Int32.toInt (pr_ne (by decide))
    have v6_23 : fF g6 23 = fF g4 23 := by rw [e6]; exact congrArg Int32.toInt (pr_ne (by decide))
    have v6_75 : fF g6 75 = fF g4 75 := by rw [e6]; exact congrArg Int32.toInt (pr_ne (by decide))
    have v6_76 : fF g6 76 = fF g4 76 := by rw [e6]; exact congrArg Int32.toInt (pr_ne (by decide))
    have u6_249 : fA g6 249 = fA g4 249 := by rw [e6]; rfl
    have u6_250 : fA g6 250 = fA g4 250 := by rw [e6]; rfl
    have u6_251 : fA g6 251 = fA g4 251 := by rw [e6]; rfl
    have u6_252 : fA g6 252 = fA g4 252 := by rw [e6]; rfl
    show t_X d 270 25 lv [] g6 P
    refine t_0 qzu_25 rfl (ld_a l0) ?_
    refine t_0 qzu_26 rfl (ld_a l0) ?_
    have r7 := gb_f hJ6.1 (y := 75) rfl rfl gf_75
    refine t_0 qzu_27 rfl (pq_gf (y := 75) rfl) ?_
    refine tw_c qzu_30 el_196 rfl hJ6 Wyu.2.2.1 gX_22 (by decide) ⟨by omega, by omega⟩ (fun g8 hJ8 e8 => ?_)
    have v8_22 : fF g8 22 = fF g6 75 := by rw [e8]; exact pc_at (by omega) (by omega)
    have v8_23 : fF g8 23 = fF g6 23 := by rw [e8]; exact congrArg Int32.toInt (pr_ne (by decide))
    have v8_75 : fF g8 75 = fF g6 75 := by rw [e8]; exact congrArg Int32.toInt (pr_ne (by decide))
    have v8_76 : fF g8 76 = fF g6 76 := by rw [e8]; exact congrArg Int32.toInt (pr_ne (by decide))
    have u8_249 : fA g8 249 = fA g6 249 := by rw [e8]; rfl
    have u8_250 : fA g8 250 = fA g6 250 := by rw [e8]; rfl
    have u8_251 : fA g8 251 = fA g6 251 := by rw [e8]; rfl
    have u8_252 : fA g8 252 = fA g6 252 := by rw [e8]; rfl
    show t_X d 270 33 lv [] g8 P
    refine t_0 qzu_33 rfl (ld_a l0) ?_
    refine t_0 qzu_34 rfl (ld_a l0) ?_
    have r9 := gb_f hJ8.1 (y := 76) rfl rfl gf_76
    refine t_0 qzu_35 rfl (pq_gf (y := 76) rfl) ?_
    refine tw_c qzu_38 el_196 rfl hJ8 Wyu.2.2.2.1 gX_23 (by decide) ⟨by omega, by omega⟩ (fun g10 hJ10 e10 => ?_)
    have v10_22 : fF g10 22 = fF g8 22 := by rw [e10]; exact congrArg Int32.toInt (pr_ne (by decide))
    have v10_23 : fF g10 23 = fF g8 76 := by rw [e10]; exact pc_at (by omega) (by omega)
    have v10_75 : fF g10 75 = fF g8 75 := by rw [e10]; exact congrArg Int32.toInt (pr_ne (by decide))
    have v10_76 : fF g10 76 = fF g8 76 := by rw [e10]; exact congrArg Int32.toInt (pr_ne (by decide))
    have u10_249 : fA g10 249 = fA g8 249 := by rw [e10]; rfl
    have u10_250 : fA g10 250 = fA g8 250 := by rw [e10]; rfl
    have u10_251 : fA g10 251 = fA g8 251 := by rw [e10]; rfl
    have u10_252 : fA g10 252 = fA g8 252 := by rw [e10]; rfl
    show t_X d 270 41 lv [] g10 P
    refine to_L (k := kyu) eyu rfl hJ10.1 (xL_K _ _ _ hJ10.2 Wyu.2.2.2.2.2.2.2.2.2.2.2.2.2.2.2.2.2.2.2.2.1 hx) (xs := [cv (pvR 196)]) (ys := []) ⟨by show 2 ≤ _; omega, ⟨⟨pvR 196, l0, rfl, rfl, ok_this⟩, trivial⟩, trivial, fun c hc => absurd hc List.not_mem_nil⟩ (by omega) (fun lvA gA xs2 ys2 G2 X2 M2 P2 => ?_)
    have hJA := J_up Wyu.2.2.2.2.2.2.2.2.2.2.2.2.2.2.2.2.2.2.2.2.2.1 hJ10 ⟨G2, M2⟩
    clear l0
    obtain ⟨-, L2, -, -⟩ := P2
    obtain ⟨l0, -⟩ := lv_r rfl L2
    show t_X d 270 145 lvA [] gA P
    refine t_0 qzu_145 rfl (ld_a l0) ?_
    refine t_0 qzu_146 rfl (ar_85 hJA.1) ?_
    refine t_0 qzu_149 rfl (ld_a l0) ?_
    refine t_0 qzu_150 rfl (ar_11 hJA.1) ?_
    refine t_0 qzu_153 rfl (pq_b (by decide)) ?_
    refine t_3 qzu_155 rfl (ar := ([pvR 249, pvR 206, oI (24)], [])) (pcal_s ⟨Or.inl rfl, rfl, Nat.le_of_ble_eq_true rfl⟩) ⟨by omega, Nat.le_of_ble_eq_true rfl, Nat.le_of_ble_eq_true rfl, rfl⟩ ?_
    refine cx_run hJA.1 el_249 el_206 (by decide) rfl rfl ga_249 ga_206 (fun gB JB pB oB fB => ?_) rfl rfl rfl
    have hJB := J_up Wyu.2.2.2.2.2.2.2.2.2.2.2.2.2.2.2.2.2.2.2.2.2.2.1 hJA JB
    show t_X d 270 158 lvA [] gB P
    refine t_0 qzu_158 rfl (ld_a l0) ?_
    refine t_0 qzu_159 rfl (ar_86 hJB.1) ?_
    refine t_0 qzu_162 rfl (ld_a l0) ?_
    refine t_0 qzu_163 rfl (ar_12 hJB.1) ?_
    refine t_0 qzu_166 rfl (pq_b (by decide)) ?_
    refine t_3 qzu_168 rfl (ar := ([pvR 250, pvR 207, oI (24)], [])) (pcal_s ⟨Or.inl rfl, rfl, Nat.le_of_ble_eq_true rfl⟩) ⟨by omega, Nat.le_of_ble_eq_true rfl, Nat.le_of_ble_eq_true rfl, rfl⟩ ?_
    refine cx_run hJB.1 el_250 el_207 (by decide) rfl rfl ga_250 ga_207 (fun gC JC pC oC fC => ?_) rfl rfl rfl
    have hJC := J_up Wyu.2.2.2.2.2.2.2.2.2.2.2.2.2.2.2.2.2.2.2.2.2.2.2.1 hJB JC
    show t_X d 270 171 lvA [] gC P
    refine t_0 qzu_171 rfl (ld_a l0) ?_
    refine t_0 qzu_172 rfl (ar_87 hJC.1) ?_
    refine t_0 qzu_175 rfl (ld_a l0) ?_
    refine t_0 qzu_176 rfl (ar_13 hJC.1) ?_
    refine t_0 qzu_179 rfl (pq_b (by decide)) ?_
    refine t_3 qzu_181 rfl (ar := ([pvR 251, pvR 208, oI (12)], [])) (pcal_s ⟨Or.inl rfl, rfl, Nat.le_of_ble_eq_true rfl⟩) ⟨by omega, Nat.le_of_ble_eq_true rfl, Nat.le_of_ble_eq_true rfl, rfl⟩ ?_
    refine cx_run hJC.1 el_251 el_208 (by decide) rfl rfl ga_251 ga_208 (fun gD JD pD oD fD => ?_) rfl rfl rfl
    have hJD := J_up Wyu.2.2.2.2.2.2.2.2.2.2.2.2.2.2.2.2.2.2.2.2.2.2.2.2.1 hJC JD
    show t_X d 270 184 lvA [] gD P
    refine t_0 qzu_184 rfl (ld_a l0) ?_
    refine t_0 qzu_185 rfl (ar_88 hJD.1) ?_
    refine t_0 qzu_188 rfl (ld_a l0) ?_
    refine t_0 qzu_189 rfl (ar_14 hJD.1) ?_
    refine t_0 qzu_192 rfl (pq_b (by decide)) ?_
    refine t_3 qzu_194 rfl (ar := ([pvR 252, pvR 209, oI (12)], [])) (pcal_s ⟨Or.inl rfl, rfl, Nat.le_of_ble_eq_true rfl⟩) ⟨by omega, Nat.le_of_ble_eq_true rfl, Nat.le_of_ble_eq_true rfl, rfl⟩ ?_
    refine cx_run hJD.1 el_252 el_209 (by decide) rfl rfl ga_252 ga_209 (fun gE JE pE oE fE => ?_) rfl rfl rfl
    have hJE := J_up Wyu.2.2.2.2.2.2.2.2.2.2.2.2.2.2.2.2.2.2.2.2.2.2.2.2.2 hJD JE
    show t_X d 270 197 lvA [] gE P
    refine mid_L (k := kzu) ezu hJE.1 (xL_K _ _ _ hJE.2 Wyu.2.2.2.2.2.2.2.2.2.2.2.2.2.2.2.2.2.2.2.2.1 hx) (xs := [cv (pvR 196)]) (ys := []) ⟨by show 2 ≤ _; omega, ⟨⟨pvR 196, l0, rfl, rfl, ok_this⟩, trivial⟩, trivial, fun c hc => absurd hc List.not_mem_nil⟩ (by omega) (fun o G1 X1 M1 P1 => ?_)
    obtain ⟨o1, gF⟩ := o
    have fFA : ∀ y, fF gE y = fF gA y := fun y => by show (gE.1 196 y).toInt = (gA.1 196 y).toInt; rw [fE, fD, fC, fB]
    exact hA (fun z => by have z2 : fF g 72 = 0 := z; omega) o1 gF ⟨(by rw [fF_M M1 Wyu.2.2.2.2.2.2.2.2.2.2.2.2.1, fFA, fF_M M2 Wyu.2.2.2.2.1]; simp only [v10_22, v10_75, v8_22, v8_75, v6_22, v6_75, v4_22, v4_75]), fun j hj => ⟨(by rw [fA_M M1 Wyu.2.2.2.2.2.2.2.2.2.2.2.2.2.2.2.2.1, oE 206 (by decide), oD 206 (by decide), oC 206 (by decide), pB j (by omega), fA_M M2 Wyu.2.2.2.2.2.2.2.2.1, u10_249, u8_249, u6_249, u4_249]), (by rw [fA_M M1 Wyu.2.2.2.2.2.2.2.2.2.2.2.2.2.2.2.2.2.1, oE 207 (by decide), oD 207 (by decide), pC j (by omega), oB 250 (by decide), fA_M M2 Wyu.2.2.2.2.2.2.2.2.2.1, u10_250, u8_250, u6_250, u4_250])⟩⟩ ⟨(by rw [fF_M M1 Wyu.2.2.2.2.2.2.2.2.2.2.2.2.2.1, fFA, fF_M M2 Wyu.2.2.2.2.2.1]; simp only [v10_23, v10_76, v8_23, v8_76, v6_23, v6_76, v4_23, v4_76]), fun j hj => ⟨(by rw [fA_M M1 Wyu.2.2.2.2.2.2.2.2.2.2.2.2.2.2.2.2.2.2.1, oE 208 (by decide), pD j (by omega), oC 251 (by decide), oB 251 (by decide), fA_M M2 Wyu.2.2.2.2.2.2.2.2.2.2.1, u10_251, u8_251, u6_251, u4_251]), (by rw [fA_M M1 Wyu.2.2.2.2.2.2.2.2.2.2.2.2.2.2.2.2.2.2.2.1, pE j (by omega), oD 252 (by decide), oC 252 (by decide), oB 252 (by decide), fA_M M2 Wyu.2.2.2.2.2.2.2.2.2.2.2.1, u10_252, u8_252, u6_252, u4_252])⟩⟩
  · show t_X d 270 7 lv [] g P
    refine t_0 qzu_7 rfl rfl ?_
    refine t_5 qzu_8 rfl rfl ?_
    exact hR (by show fF g 72 = 0; omega)
