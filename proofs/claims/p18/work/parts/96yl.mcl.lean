/-! reference: the law's text: clauses (printed by wip/e2/v9.py) -/
theorem jrl_0 : xe_look (xc 233) 0 = some (.aload_n 0, 1, 0, 0, 0) := by decide +kernel
theorem jrl_1 : xe_look (xc 233) 1 = some (.invokevirtual 252, 3, 0, 198, 1137) := by decide +kernel
theorem jrl_4 : xe_look (xc 233) 4 = some (.istore_n 1, 1, 0, 0, 0) := by decide +kernel
theorem jrl_5 : xe_look (xc 233) 5 = some (.iload_n 1, 1, 0, 0, 0) := by decide +kernel
theorem jrl_6 : xe_look (xc 233) 6 = some (.invokestatic 350, 3, 0, 202, 1254) := by decide +kernel
theorem jrl_9 : xe_look (xc 233) 9 = some (.ifCond .ne 13, 3, 0, 0, 0) := by decide +kernel
theorem jrl_12 : xe_look (xc 233) 12 = some (.aload_n 0, 1, 0, 0, 0) := by decide +kernel
theorem jrl_13 : xe_look (xc 233) 13 = some (.iconst 1, 1, 0, 0, 0) := by decide +kernel
theorem jrl_14 : xe_look (xc 233) 14 = some (.aload_n 0, 1, 0, 0, 0) := by decide +kernel
theorem jrl_15 : xe_look (xc 233) 15 = some (.getfield 242, 3, 12, 18, 1135) := by decide +kernel
theorem jrl_18 : xe_look (xc 233) 18 = some (.invokevirtual 256, 3, 0, 274, 1138) := by decide +kernel
theorem jrl_21 : xe_look (xc 233) 21 = some (.ireturn, 1, 0, 0, 0) := by decide +kernel
theorem jrl_22 : xe_look (xc 233) 22 = some (.aload_n 0, 1, 0, 0, 0) := by decide +kernel
theorem jrl_23 : xe_look (xc 233) 23 = some (.getfield 353, 3, 12, 34, 1230) := by decide +kernel
theorem jrl_26 : xe_look (xc 233) 26 = some (.bipush 16, 2, 0, 0, 0) := by decide +kernel
theorem jrl_28 : xe_look (xc 233) 28 = some (.if_icmp .ne 13, 3, 0, 0, 0) := by decide +kernel
theorem jrl_31 : xe_look (xc 233) 31 = some (.aload_n 0, 1, 0, 0, 0) := by decide +kernel
theorem jrl_32 : xe_look (xc 233) 32 = some (.iconst 4, 1, 0, 0, 0) := by decide +kernel
theorem jrl_33 : xe_look (xc 233) 33 = some (.aload_n 0, 1, 0, 0, 0) := by decide +kernel
theorem jrl_34 : xe_look (xc 233) 34 = some (.getfield 242, 3, 12, 18, 1135) := by decide +kernel
theorem jrl_37 : xe_look (xc 233) 37 = some (.invokevirtual 256, 3, 0, 274, 1138) := by decide +kernel
theorem jrl_40 : xe_look (xc 233) 40 = some (.ireturn, 1, 0, 0, 0) := by decide +kernel
theorem jrl_41 : xe_look (xc 233) 41 = some (.aload_n 0, 1, 0, 0, 0) := by decide +kernel
theorem jrl_42 : xe_look (xc 233) 42 = some (.getfield 74, 3, 12, 38, 1195) := by decide +kernel
theorem jrl_45 : xe_look (xc 233) 45 = some (.aload_n 0, 1, 0, 0, 0) := by decide +kernel
theorem jrl_46 : xe_look (xc 233) 46 = some (.getfield 353, 3, 12, 34, 1230) := by decide +kernel
theorem jrl_49 : xe_look (xc 233) 49 = some (.iload_n 1, 1, 0, 0, 0) := by decide +kernel
theorem jrl_50 : xe_look (xc 233) 50 = some (.iastore, 1, 0, 0, 0) := by decide +kernel
theorem jrl_51 : xe_look (xc 233) 51 = some (.aload_n 0, 1, 0, 0, 0) := by decide +kernel
theorem jrl_52 : xe_look (xc 233) 52 = some (.aload_n 0, 1, 0, 0, 0) := by decide +kernel
theorem jrl_53 : xe_look (xc 233) 53 = some (.getfield 242, 3, 12, 18, 1135) := by decide +kernel
theorem jrl_56 : xe_look (xc 233) 56 = some (.iconst 1, 1, 0, 0, 0) := by decide +kernel
theorem jrl_57 : xe_look (xc 233) 57 = some (.iadd, 1, 0, 0, 0) := by decide +kernel
theorem jrl_58 : xe_look (xc 233) 58 = some (.putfield 242, 3, 12, 18, 1135) := by decide +kernel
theorem jrl_61 : xe_look (xc 233) 61 = some (.aload_n 0, 1, 0, 0, 0) := by decide +kernel
theorem jrl_62 : xe_look (xc 233) 62 = some (.getfield 77, 3, 12, 39, 1196) := by decide +kernel
theorem jrl_65 : xe_look (xc 233) 65 = some (.aload_n 0, 1, 0, 0, 0) := by decide +kernel
theorem jrl_66 : xe_look (xc 233) 66 = some (.getfield 353, 3, 12, 34, 1230) := by decide +kernel
theorem jrl_69 : xe_look (xc 233) 69 = some (.aload_n 0, 1, 0, 0, 0) := by decide +kernel
theorem jrl_70 : xe_look (xc 233) 70 = some (.getfield 296, 3, 12, 32, 1222) := by decide +kernel
theorem jrl_73 : xe_look (xc 233) 73 = some (.iastore, 1, 0, 0, 0) := by decide +kernel
theorem jrl_74 : xe_look (xc 233) 74 = some (.aload_n 0, 1, 0, 0, 0) := by decide +kernel
theorem jrl_75 : xe_look (xc 233) 75 = some (.iconst 0, 1, 0, 0, 0) := by decide +kernel
theorem jrl_76 : xe_look (xc 233) 76 = some (.putfield 300, 3, 12, 31, 1170) := by decide +kernel
theorem jrl_79 : xe_look (xc 233) 79 = some (.aload_n 0, 1, 0, 0, 0) := by decide +kernel
theorem jrl_80 : xe_look (xc 233) 80 = some (.iconst 0, 1, 0, 0, 0) := by decide +kernel
theorem jrl_81 : xe_look (xc 233) 81 = some (.putfield 303, 3, 12, 33, 1146) := by decide +kernel
theorem jrl_84 : xe_look (xc 233) 84 = some (.aload_n 0, 1, 0, 0, 0) := by decide +kernel
theorem jrl_85 : xe_look (xc 233) 85 = some (.invokevirtual 335, 3, 0, 241, 1255) := by decide +kernel
theorem jrl_88 : xe_look (xc 233) 88 = some (.ifCond .ne 5, 3, 0, 0, 0) := by decide +kernel
theorem jrl_91 : xe_look (xc 233) 91 = some (.iconst 0, 1, 0, 0, 0) := by decide +kernel
theorem jrl_92 : xe_look (xc 233) 92 = some (.ireturn, 1, 0, 0, 0) := by decide +kernel
theorem jrl_93 : xe_look (xc 233) 93 = some (.aload_n 0, 1, 0, 0, 0) := by decide +kernel
theorem jrl_94 : xe_look (xc 233) 94 = some (.getfield 80, 3, 12, 40, 1197) := by decide +kernel
theorem jrl_97 : xe_look (xc 233) 97 = some (.aload_n 0, 1, 0, 0, 0) := by decide +kernel
theorem jrl_98 : xe_look (xc 233) 98 = some (.getfield 353, 3, 12, 34, 1230) := by decide +kernel
theorem jrl_101 : xe_look (xc 233) 101 = some (.aload_n 0, 1, 0, 0, 0) := by decide +kernel
theorem jrl_102 : xe_look (xc 233) 102 = some (.getfield 296, 3, 12, 32, 1222) := by decide +kernel
theorem jrl_105 : xe_look (xc 233) 105 = some (.iastore, 1, 0, 0, 0) := by decide +kernel
theorem jrl_106 : xe_look (xc 233) 106 = some (.aload_n 0, 1, 0, 0, 0) := by decide +kernel
theorem jrl_107 : xe_look (xc 233) 107 = some (.invokevirtual 356, 3, 0, 235, 1256) := by decide +kernel
theorem jrl_110 : xe_look (xc 233) 110 = some (.ifCond .ne 5, 3, 0, 0, 0) := by decide +kernel
theorem jrl_113 : xe_look (xc 233) 113 = some (.iconst 0, 1, 0, 0, 0) := by decide +kernel
theorem jrl_114 : xe_look (xc 233) 114 = some (.ireturn, 1, 0, 0, 0) := by decide +kernel
theorem jrl_115 : xe_look (xc 233) 115 = some (.aload_n 0, 1, 0, 0, 0) := by decide +kernel
theorem jrl_116 : xe_look (xc 233) 116 = some (.getfield 83, 3, 12, 41, 1198) := by decide +kernel
theorem jrl_119 : xe_look (xc 233) 119 = some (.aload_n 0, 1, 0, 0, 0) := by decide +kernel
theorem jrl_120 : xe_look (xc 233) 120 = some (.getfield 353, 3, 12, 34, 1230) := by decide +kernel
theorem jrl_123 : xe_look (xc 233) 123 = some (.aload_n 0, 1, 0, 0, 0) := by decide +kernel
theorem jrl_124 : xe_look (xc 233) 124 = some (.getfield 296, 3, 12, 32, 1222) := by decide +kernel
theorem jrl_127 : xe_look (xc 233) 127 = some (.iastore, 1, 0, 0, 0) := by decide +kernel
theorem jrl_128 : xe_look (xc 233) 128 = some (.aload_n 0, 1, 0, 0, 0) := by decide +kernel
theorem jrl_129 : xe_look (xc 233) 129 = some (.aload_n 0, 1, 0, 0, 0) := by decide +kernel
theorem jrl_130 : xe_look (xc 233) 130 = some (.getfield 353, 3, 12, 34, 1230) := by decide +kernel
theorem jrl_133 : xe_look (xc 233) 133 = some (.iconst 1, 1, 0, 0, 0) := by decide +kernel
theorem jrl_134 : xe_look (xc 233) 134 = some (.iadd, 1, 0, 0, 0) := by decide +kernel
theorem jrl_135 : xe_look (xc 233) 135 = some (.putfield 353, 3, 12, 34, 1230) := by decide +kernel
theorem jrl_138 : xe_look (xc 233) 138 = some (.iconst 1, 1, 0, 0, 0) := by decide +kernel
theorem jrl_139 : xe_look (xc 233) 139 = some (.ireturn, 1, 0, 0, 0) := by decide +kernel
def jZ : Nat := jW + 2 ^ (cn 196 + 34) + 2 ^ cn 218 + 2 ^ cn 219 + 2 ^ cn 220 + 2 ^ cn 221
def jzk : List (Nat × Nat) := [(196, 18), (196, 32), (196, 33), (196, 31), (196, 20), (196, 21), (196, 34)]
def jza : List Nat := [216, 217, 218, 219, 220, 221]
abbrev zS (g0 g : pH) (p k w op ft u c : Int) (sa wa sl ss sc se : tC) : Prop := sE jzk jza jZ g0 g [p, k, w, op, ft, u, c] [sa, wa, sl, ss, sc, se]
theorem jZ_b : jW &&& jZ = jW ∧ jW.testBit (cn 196 + 34) = false ∧ jW.testBit (cn 218) = false ∧ jW.testBit (cn 219) = false ∧ jW.testBit (cn 220) = false ∧ jW.testBit (cn 221) = false ∧ jZ.testBit (cn 196 + 19) = false ∧ jZ.testBit (cn 211) = false := by decide +kernel
/-- it failed -/
def zF (g0 g : pH) (f : Int) : Prop := ∃ (p k w op u c : Int) (sa wa sl ss sc se : tC), zS g0 g p k w op f u c sa wa sl ss sc se
/-- it stands after a clause -/
def zT (g0 g : pH) (p k : Int) (o v : tC) (c : Int) (le st co en : tC) : Prop := ∃ (w op ft u : Int) (sa wa sl ss sc se : tC), zS g0 g p k w op ft u c sa wa sl ss sc se ∧ jC k o v sa ∧ (∀ j : Nat, (j : Int) < c → sl j = le j ∧ ss j = st j ∧ sc j = co j ∧ se j = en j)
theorem jgu_218 : eG (cn 218) = ((-2147483648), 2147483647, []) := by decide +kernel
theorem jgu_219 : eG (cn 219) = ((-2147483648), 2147483647, []) := by decide +kernel
theorem jgu_220 : eG (cn 220) = ((-2147483648), 2147483647, []) := by decide +kernel
theorem jgu_221 : eG (cn 221) = ((-2147483648), 2147483647, []) := by decide +kernel
theorem jgy_196_34 : eG (cn 196 + 34) = ((-2147483648), 2147483647, []) := by decide +kernel
theorem jch_196_38 : (eG (cn 196 + 38)).2.2 = [219] := by decide +kernel
theorem jcq_196_38 {d i : Nat} {lv : List (Nat × pv)} {r : List pv} {g : pH} (hG : g_I eG g) : px_push eL d none (.getfield i) 12 38 lv (pvR 196 :: r) g = some (pvR 218 :: r) := pget jeo_196 (gI_r (r := 218) hG jeo_196 (Nat.le_of_ble_eq_true rfl) (y := 38) rfl jch_196_38)
theorem jch_196_39 : (eG (cn 196 + 39)).2.2 = [220] := by decide +kernel
theorem jcq_196_39 {d i : Nat} {lv : List (Nat × pv)} {r : List pv} {g : pH} (hG : g_I eG g) : px_push eL d none (.getfield i) 12 39 lv (pvR 196 :: r) g = some (pvR 219 :: r) := pget jeo_196 (gI_r (r := 219) hG jeo_196 (Nat.le_of_ble_eq_true rfl) (y := 39) rfl jch_196_39)
theorem jch_196_40 : (eG (cn 196 + 40)).2.2 = [221] := by decide +kernel
theorem jcq_196_40 {d i : Nat} {lv : List (Nat × pv)} {r : List pv} {g : pH} (hG : g_I eG g) : px_push eL d none (.getfield i) 12 40 lv (pvR 196 :: r) g = some (pvR 220 :: r) := pget jeo_196 (gI_r (r := 220) hG jeo_196 (Nat.le_of_ble_eq_true rfl) (y := 40) rfl jch_196_40)
theorem jch_196_41 : (eG (cn 196 + 41)).2.2 = [222] := by decide +kernel
theorem jcq_196_41 {d i : Nat} {lv : List (Nat × pv)} {r : List pv} {g : pH} (hG : g_I eG g) : px_push eL d none (.getfield i) 12 41 lv (pvR 196 :: r) g = some (pvR 221 :: r) := pget jeo_196 (gI_r (r := 221) hG jeo_196 (Nat.le_of_ble_eq_true rfl) (y := 41) rfl jch_196_41)
theorem jez_218 : eL[218]? = some (1, 16) := by decide +kernel
theorem jez_219 : eL[219]? = some (1, 16) := by decide +kernel
theorem jez_220 : eL[220]? = some (1, 16) := by decide +kernel
theorem jez_221 : eL[221]? = some (1, 16) := by decide +kernel
theorem wt_jZ_196_18 : jZ.testBit (cn 196 + 18) = true := by decide +kernel
theorem wt_jZ_196_31 : jZ.testBit (cn 196 + 31) = true := by decide +kernel
theorem wt_jZ_196_33 : jZ.testBit (cn 196 + 33) = true := by decide +kernel
theorem wt_jZ_196_34 : jZ.testBit (cn 196 + 34) = true := by decide +kernel
theorem wu_jZ_218 : jZ.testBit (cn 218) = true := by decide +kernel
theorem wu_jZ_219 : jZ.testBit (cn 219) = true := by decide +kernel
theorem wu_jZ_220 : jZ.testBit (cn 220) = true := by decide +kernel
theorem wu_jZ_221 : jZ.testBit (cn 221) = true := by decide +kernel
theorem ze_l {g0 g : pH} {B : tC} {n p k w op ft u c : Int} {sa wa sl ss sc se : tC} (hB : jB g0 B n) (h : zS g0 g p k w op ft u c sa wa sl ss sc se) : cF g 196 19 = n := (cF_M (S_J h).2 jZ_b.2.2.2.2.2.2.1).trans hB.1
theorem z_B {B : tC} {n : Int} {g0 g : pH} (hB : jB g0 B n) {p k w op ft u c : Int} {sa wa sl ss sc se : tC} (hS : zS g0 g p k w op ft u c sa wa sl ss sc se) : jB g B n := ⟨ze_l hB hS, by rw [fA_M (S_J hS).2 jZ_b.2.2.2.2.2.2.2]; exact hB.2.1, hB.2.2⟩
theorem zj_in {g0 g : pH} {p k w op ft u c : Int} {sa wa sl ss sc se : tC} (hS : zS g0 g p k w op ft u c sa wa sl ss sc se) : jS g g p k w op ft u sa wa := by
  refine ⟨J_rf (S_J hS).1, fun i hi => ?_, fun i hi => ?_⟩
  · have hi : i < 6 := hi
    have : i = 0 ∨ i = 1 ∨ i = 2 ∨ i = 3 ∨ i = 4 ∨ i = 5 := by omega
    rcases this with rfl | rfl | rfl | rfl | rfl | rfl
    · exact S_f hS 0 (Nat.le_of_ble_eq_true rfl)
    · exact S_f hS 1 (Nat.le_of_ble_eq_true rfl)
    · exact S_f hS 2 (Nat.le_of_ble_eq_true rfl)
    · exact S_f hS 3 (Nat.le_of_ble_eq_true rfl)
    · exact S_f hS 4 (Nat.le_of_ble_eq_true rfl)
    · exact S_f hS 5 (Nat.le_of_ble_eq_true rfl)
  · have hi : i < 2 := hi
    have : i = 0 ∨ i = 1 := by omega
    rcases this with rfl | rfl
    · exact S_a hS 0 (Nat.le_of_ble_eq_true rfl)
    · exact S_a hS 1 (Nat.le_of_ble_eq_true rfl)
theorem z_out {g0 g : pH} {p k w op ft u c : Int} {sa wa sl ss sc se : tC} (hS : zS g0 g p k w op ft u c sa wa sl ss sc se) {g1 : pH} {p1 k1 w1 op1 ft1 u1 : Int} {sa1 wa1 : tC} (h1 : jS g g1 p1 k1 w1 op1 ft1 u1 sa1 wa1) : zS g0 g1 p1 k1 w1 op1 ft1 u1 c sa1 wa1 sl ss sc se := by
  refine ⟨J_up jZ_b.1 (S_J hS) (S_J h1), fun i hi => ?_, fun i hi => ?_⟩
  · have hi : i < 7 := hi
    have : i = 0 ∨ i = 1 ∨ i = 2 ∨ i = 3 ∨ i = 4 ∨ i = 5 ∨ i = 6 := by omega
    rcases this with rfl | rfl | rfl | rfl | rfl | rfl | rfl
    · exact S_f h1 0 (Nat.le_of_ble_eq_true rfl)
    · exact S_f h1 1 (Nat.le_of_ble_eq_true rfl)
    · exact S_f h1 2 (Nat.le_of_ble_eq_true rfl)
    · exact S_f h1 3 (Nat.le_of_ble_eq_true rfl)
    · exact S_f h1 4 (Nat.le_of_ble_eq_true rfl)
    · exact S_f h1 5 (Nat.le_of_ble_eq_true rfl)
    · exact (cF_M (S_J h1).2 jZ_b.2.1).trans (S_f hS 6 (Nat.le_of_ble_eq_true rfl))
  · have hi : i < 6 := hi
    have : i = 0 ∨ i = 1 ∨ i = 2 ∨ i = 3 ∨ i = 4 ∨ i = 5 := by omega
    rcases this with rfl | rfl | rfl | rfl | rfl | rfl
    · exact S_a h1 0 (Nat.le_of_ble_eq_true rfl)
    · exact S_a h1 1 (Nat.le_of_ble_eq_true rfl)
    · exact (fA_M (S_J h1).2 jZ_b.2.2.1).trans (S_a hS 2 (Nat.le_of_ble_eq_true rfl))
    · exact (fA_M (S_J h1).2 jZ_b.2.2.2.1).trans (S_a hS 3 (Nat.le_of_ble_eq_true rfl))
    · exact (fA_M (S_J h1).2 jZ_b.2.2.2.2.1).trans (S_a hS 4 (Nat.le_of_ble_eq_true rfl))
    · exact (fA_M (S_J h1).2 jZ_b.2.2.2.2.2.1).trans (S_a hS 5 (Nat.le_of_ble_eq_true rfl))
theorem z_bad {g0 g : pH} {p k w op ft u c : Int} {sa wa sl ss sc se : tC} (hS : zS g0 g p k w op ft u c sa wa sl ss sc se) {g1 : pH} {f : Int} (h1 : jFt g g1 f) : zF g0 g1 f := by
  obtain ⟨p1, k1, w1, op1, u1, sa1, wa1, h1⟩ := h1
  exact ⟨_, _, _, _, _, _, _, _, _, _, _, _, z_out hS h1⟩
set_option maxHeartbeats 2000000 in
theorem cl_1 {d : Nat} (hd : 13 ≤ d) {g0 : pH} {B : tC} {n : Int} (hB : jB g0 B n) {p k c : Int} {o v le st co en : tC} (hLP : lP n p k) (hc : 0 ≤ c ∧ c ≤ 16) {g : pH} (hg : zT g0 g p k o v c le st co en) (hL : ¬ lLe (tH B n p)) {Q : Option pv × pH → Prop} (hQ : ∀ g1, zF g0 g1 (-1000 - p) → Q (some (oI 0), g1)) {lv : List (Nat × pv)} (l0 : px_lg lv 0 = some (pvR 196)) : t_X d 233 0 lv [] g Q := by
  obtain ⟨w, op, ft, u, sa, wa, sl, ss, sc, se, hS, hC, hA⟩ := hg
  have hLP9 := hLP
  unfold lP at hLP9
  have hn0 := hB.2.2.1
  have hn1 := hB.2.2.2
  have hH : ∀ q, 0 ≤ q → -1 ≤ tH B n q ∧ tH B n q ≤ 255 := fun q hq => tH_b (jp_b hB.2.1) (by omega) hq
  have hH9 := hH p (by omega)
  refine t_0 jrl_0 rfl (ld_a l0) ?_
  refine t_3 jrl_1 rfl (ar := ([pvR 196], [])) (pcal_w (as := []) rfl rfl rfl jeo_196) ⟨by omega, Nat.le_of_ble_eq_true rfl, Nat.le_of_ble_eq_true rfl, rfl⟩ ?_
  refine jh_run (z_B hB hS) (zj_in hS) (by omega) ?_ rfl
  show t_X d 233 4 lv [oI (tH B n p)] g Q
  refine t_2 jrl_4 rfl (w := (px_s1 lv 1 (oI (tH B n p)), [])) rfl ?_
  replace l0 : px_lg (px_s1 lv 1 (oI (tH B n p))) 0 = some (pvR 196) := s1_ne (by decide) (fun _ => rfl) l0
  have l1 : px_lg (px_s1 lv 1 (oI (tH B n p))) 1 = some (oI (tH B n p)) := s1_eq
  generalize px_s1 lv 1 (oI (tH B n p)) = lv1 at l0 l1 ⊢
  show t_X d 233 5 lv1 [] g Q
  refine t_0 jrl_5 rfl (ld_i l1) ?_
  refine t_3 jrl_6 rfl (ar := ([oI (tH B n p)], [])) (pcal_s ⟨Or.inl rfl, rfl, Nat.le_of_ble_eq_true rfl⟩) ⟨by omega, Nat.le_of_ble_eq_true rfl, Nat.le_of_ble_eq_true rfl, rfl⟩ ?_
  refine jic_run ⟨by omega, by omega⟩ (fun z => absurd z hL) (fun _ => ?_) rfl
  show t_X d 233 9 lv1 [oI 0] g Q
  refine tz_ne jrl_9 (by decide) ⟨by omega, by omega⟩ (fun c2 => absurd c2 (by omega)) (fun c2 => ?_)
  show t_X d 233 12 lv1 [] g Q
  refine t_0 jrl_12 rfl (ld_a l0) ?_
  refine t_0 jrl_13 rfl rfl ?_
  refine t_0 jrl_14 rfl (ld_a l0) ?_
  refine t_0 jrl_15 rfl (pq_cv jeo_196 rfl (show cF g 196 18 = p from S_f hS 0 (Nat.le_of_ble_eq_true rfl))) ?_
  show t_X d 233 18 lv1 [oI (p), oI 1, pvR 196] g Q
  refine t_3 jrl_18 rfl (ar := ([pvR 196, oI 1, oI (p)], [])) (pcal_w (as := [oI (p), oI 1]) rfl rfl rfl jeo_196) ⟨by omega, Nat.le_of_ble_eq_true rfl, Nat.le_of_ble_eq_true rfl, rfl⟩ ?_
  refine jw_run (z_B hB hS) (zj_in hS) ⟨by omega, by omega⟩ ⟨by omega, by omega⟩ (fun g3 hj3 => ?_) rfl rfl rfl
  have hS3 := z_out hS hj3
  replace hS3 : zS g0 g3 p k w op (-1000 * 1 - p) u c sa wa sl ss sc se := hS3
  show t_X d 233 21 lv1 [oI 0] g3 Q
  refine t_5 jrl_21 rfl rfl ?_
  exact hQ _ ⟨_, _, _, _, _, _, _, _, _, _, _, _, (show zS g0 g3 _ _ _ _ (-1000 - p) _ _ _ _ _ _ _ _ by rw [show -1000 - p = -1000 * 1 - p by omega]; exact hS3)⟩
set_option maxHeartbeats 2000000 in
theorem cl_2 {d : Nat} (hd : 13 ≤ d) {g0 : pH} {B : tC} {n : Int} (hB : jB g0 B n) {p k c : Int} {o v le st co en : tC} (hLP : lP n p k) (hc : 0 ≤ c ∧ c ≤ 16) {g : pH} (hg : zT g0 g p k o v c le st co en) (hL : lLe (tH B n p)) (h16 : 16 ≤ c) {Q : Option pv × pH → Prop} (hQ : ∀ g1, zF g0 g1 (-4000 - p) → Q (some (oI 0), g1)) {lv : List (Nat × pv)} (l0 : px_lg lv 0 = some (pvR 196)) : t_X d 233 0 lv [] g Q := by
  obtain ⟨w, op, ft, u, sa, wa, sl, ss, sc, se, hS, hC, hA⟩ := hg
  have hLP9 := hLP
  unfold lP at hLP9
  have hn0 := hB.2.2.1
  have hn1 := hB.2.2.2
  have hH : ∀ q, 0 ≤ q → -1 ≤ tH B n q ∧ tH B n q ≤ 255 := fun q hq => tH_b (jp_b hB.2.1) (by omega) hq
  have hH9 := hH p (by omega)
  have hpn : p < n := by
    have := hL
    unfold lLe at this
    exact tH_n (B := B) (by omega)
  have hc9 : 0 ≤ tH B n p ∧ tH B n p ≤ 255 := by
    have := hL
    unfold lLe at this
    omega
  refine t_0 jrl_0 rfl (ld_a l0) ?_
  refine t_3 jrl_1 rfl (ar := ([pvR 196], [])) (pcal_w (as := []) rfl rfl rfl jeo_196) ⟨by omega, Nat.le_of_ble_eq_true rfl, Nat.le_of_ble_eq_true rfl, rfl⟩ ?_
  refine jh_run (z_B hB hS) (zj_in hS) (by omega) ?_ rfl
  show t_X d 233 4 lv [oI (tH B n p)] g Q
  refine t_2 jrl_4 rfl (w := (px_s1 lv 1 (oI (tH B n p)), [])) rfl ?_
  replace l0 : px_lg (px_s1 lv 1 (oI (tH B n p))) 0 = some (pvR 196) := s1_ne (by decide) (fun _ => rfl) l0
  have l1 : px_lg (px_s1 lv 1 (oI (tH B n p))) 1 = some (oI (tH B n p)) := s1_eq
  generalize px_s1 lv 1 (oI (tH B n p)) = lv1 at l0 l1 ⊢
  show t_X d 233 5 lv1 [] g Q
  refine t_0 jrl_5 rfl (ld_i l1) ?_
  refine t_3 jrl_6 rfl (ar := ([oI (tH B n p)], [])) (pcal_s ⟨Or.inl rfl, rfl, Nat.le_of_ble_eq_true rfl⟩) ⟨by omega, Nat.le_of_ble_eq_true rfl, Nat.le_of_ble_eq_true rfl, rfl⟩ ?_
  refine jic_run ⟨by omega, by omega⟩ (fun _ => ?_) (fun z => absurd hL z) rfl
  show t_X d 233 9 lv1 [oI 1] g Q
  refine tz_ne jrl_9 (by decide) ⟨by omega, by omega⟩ (fun c2 => ?_) (fun c2 => absurd c2 (by omega))
  show t_X d 233 22 lv1 [] g Q
  refine t_0 jrl_22 rfl (ld_a l0) ?_
  refine t_0 jrl_23 rfl (pq_cv jeo_196 rfl (show cF g 196 34 = c from S_f hS 6 (Nat.le_of_ble_eq_true rfl))) ?_
  show t_X d 233 26 lv1 [oI (c)] g Q
  refine t_0 jrl_26 rfl (pq_b (by decide)) ?_
  refine tb_ne jrl_28 (by decide) ⟨by omega, by omega⟩ ⟨by omega, by omega⟩ (fun c3 => absurd c3 (by omega)) (fun c3 => ?_)
  show t_X d 233 31 lv1 [] g Q
  refine t_0 jrl_31 rfl (ld_a l0) ?_
  refine t_0 jrl_32 rfl rfl ?_
  refine t_0 jrl_33 rfl (ld_a l0) ?_
  refine t_0 jrl_34 rfl (pq_cv jeo_196 rfl (show cF g 196 18 = p from S_f hS 0 (Nat.le_of_ble_eq_true rfl))) ?_
  show t_X d 233 37 lv1 [oI (p), oI 4, pvR 196] g Q
  refine t_3 jrl_37 rfl (ar := ([pvR 196, oI 4, oI (p)], [])) (pcal_w (as := [oI (p), oI 4]) rfl rfl rfl jeo_196) ⟨by omega, Nat.le_of_ble_eq_true rfl, Nat.le_of_ble_eq_true rfl, rfl⟩ ?_
  refine jw_run (z_B hB hS) (zj_in hS) ⟨by omega, by omega⟩ ⟨by omega, by omega⟩ (fun g4 hj4 => ?_) rfl rfl rfl
  have hS4 := z_out hS hj4
  replace hS4 : zS g0 g4 p k w op (-1000 * 4 - p) u c sa wa sl ss sc se := hS4
  show t_X d 233 40 lv1 [oI 0] g4 Q
  refine t_5 jrl_40 rfl rfl ?_
  exact hQ _ ⟨_, _, _, _, _, _, _, _, _, _, _, _, (show zS g0 g4 _ _ _ _ (-4000 - p) _ _ _ _ _ _ _ _ by rw [show -4000 - p = -1000 * 4 - p by omega]; exact hS4)⟩
set_option maxHeartbeats 2000000 in
theorem cl_3 {d : Nat} (hd : 13 ≤ d) {g0 : pH} {B : tC} {n : Int} (hB : jB g0 B n) {p k c : Int} {o v le st co en : tC} (hLP : lP n p k) (hc : 0 ≤ c ∧ c ≤ 16) {g : pH} (hg : zT g0 g p k o v c le st co en) (hL : lLe (tH B n p)) (h16 : c < 16) {f : Int} (hr : lI (tH B n) n 4 0 (p + 1) k o v (.inl f)) {Q : Option pv × pH → Prop} (hQ : ∀ g1, zF g0 g1 (f) → Q (some (oI 0), g1)) {lv : List (Nat × pv)} (l0 : px_lg lv 0 = some (pvR 196)) : t_X d 233 0 lv [] g Q := by
  obtain ⟨w, op, ft, u, sa, wa, sl, ss, sc, se, hS, hC, hA⟩ := hg
  have hLP9 := hLP
  unfold lP at hLP9
  have hn0 := hB.2.2.1
  have hn1 := hB.2.2.2
  have hH : ∀ q, 0 ≤ q → -1 ≤ tH B n q ∧ tH B n q ≤ 255 := fun q hq => tH_b (jp_b hB.2.1) (by omega) hq
  have hH9 := hH p (by omega)
  have hpn : p < n := by
    have := hL
    unfold lLe at this
    exact tH_n (B := B) (by omega)
  have hc9 : 0 ≤ tH B n p ∧ tH B n p ≤ 255 := by
    have := hL
    unfold lLe at this
    omega
  have hL1 : lP n (p + 1) k := by unfold lP; omega
  refine t_0 jrl_0 rfl (ld_a l0) ?_
  refine t_3 jrl_1 rfl (ar := ([pvR 196], [])) (pcal_w (as := []) rfl rfl rfl jeo_196) ⟨by omega, Nat.le_of_ble_eq_true rfl, Nat.le_of_ble_eq_true rfl, rfl⟩ ?_
  refine jh_run (z_B hB hS) (zj_in hS) (by omega) ?_ rfl
  show t_X d 233 4 lv [oI (tH B n p)] g Q
  refine t_2 jrl_4 rfl (w := (px_s1 lv 1 (oI (tH B n p)), [])) rfl ?_
  replace l0 : px_lg (px_s1 lv 1 (oI (tH B n p))) 0 = some (pvR 196) := s1_ne (by decide) (fun _ => rfl) l0
  have l1 : px_lg (px_s1 lv 1 (oI (tH B n p))) 1 = some (oI (tH B n p)) := s1_eq
  generalize px_s1 lv 1 (oI (tH B n p)) = lv1 at l0 l1 ⊢
  show t_X d 233 5 lv1 [] g Q
  refine t_0 jrl_5 rfl (ld_i l1) ?_
  refine t_3 jrl_6 rfl (ar := ([oI (tH B n p)], [])) (pcal_s ⟨Or.inl rfl, rfl, Nat.le_of_ble_eq_true rfl⟩) ⟨by omega, Nat.le_of_ble_eq_true rfl, Nat.le_of_ble_eq_true rfl, rfl⟩ ?_
  refine jic_run ⟨by omega, by omega⟩ (fun _ => ?_) (fun z => absurd hL z) rfl
  show t_X d 233 9 lv1 [oI 1] g Q
  refine tz_ne jrl_9 (by decide) ⟨by omega, by omega⟩ (fun c2 => ?_) (fun c2 => absurd c2 (by omega))
  show t_X d 233 22 lv1 [] g Q
  refine t_0 jrl_22 rfl (ld_a l0) ?_
  refine t_0 jrl_23 rfl (pq_cv jeo_196 rfl (show cF g 196 34 = c from S_f hS 6 (Nat.le_of_ble_eq_true rfl))) ?_
  show t_X d 233 26 lv1 [oI (c)] g Q
  refine t_0 jrl_26 rfl (pq_b (by decide)) ?_
  refine tb_ne jrl_28 (by decide) ⟨by omega, by omega⟩ ⟨by omega, by omega⟩ (fun c3 => ?_) (fun c3 => absurd c3 (by omega))
  show t_X d 233 41 lv1 [] g Q
  refine t_0 jrl_41 rfl (ld_a l0) ?_
  refine t_0 jrl_42 rfl (jcq_196_38 (S_J hS).1) ?_
  show t_X d 233 45 lv1 [pvR 218] g Q
  refine t_0 jrl_45 rfl (ld_a l0) ?_
  refine t_0 jrl_46 rfl (pq_cv jeo_196 rfl (show cF g 196 34 = c from S_f hS 6 (Nat.le_of_ble_eq_true rfl))) ?_
  show t_X d 233 49 lv1 [oI (c), pvR 218] g Q
  refine t_0 jrl_49 rfl (ld_i l1) ?_
  refine ts_a (n := 2) rfl rfl (by decide) jrl_50 hS jez_218 rfl wu_jZ_218 jgu_218 (by decide) ⟨by omega, by omega⟩ ⟨by omega, by omega⟩ (fun g4 hS4 => ?_)
  replace hS4 : zS g0 g4 p k w op ft u c sa wa (updI sl c.toNat (tH B n p)) ss sc se := hS4
  show t_X d 233 51 lv1 [] g4 Q
  refine t_0 jrl_51 rfl (ld_a l0) ?_
  refine t_0 jrl_52 rfl (ld_a l0) ?_
  refine t_0 jrl_53 rfl (pq_cv jeo_196 rfl (show cF g4 196 18 = p from S_f hS4 0 (Nat.le_of_ble_eq_true rfl))) ?_
  show t_X d 233 56 lv1 [oI (p), pvR 196] g4 Q
  refine t_0 jrl_56 rfl rfl ?_
  refine t_0 jrl_57 rfl pq_add ?_
  refine ts_f (n := 0) rfl rfl (by decide) jrl_58 rfl jeo_196 hS4 wt_jZ_196_18 jgy_196_18 (by decide) ⟨by omega, by omega⟩ (fun g5 hS5 => ?_)
  replace hS5 : zS g0 g5 (p + 1) k w op ft u c sa wa (updI sl c.toNat (tH B n p)) ss sc se := hS5
  show t_X d 233 61 lv1 [] g5 Q
  refine t_0 jrl_61 rfl (ld_a l0) ?_
  refine t_0 jrl_62 rfl (jcq_196_39 (S_J hS5).1) ?_
  show t_X d 233 65 lv1 [pvR 219] g5 Q
  refine t_0 jrl_65 rfl (ld_a l0) ?_
  refine t_0 jrl_66 rfl (pq_cv jeo_196 rfl (show cF g5 196 34 = c from S_f hS5 6 (Nat.le_of_ble_eq_true rfl))) ?_
  show t_X d 233 69 lv1 [oI (c), pvR 219] g5 Q
  refine t_0 jrl_69 rfl (ld_a l0) ?_
  refine t_0 jrl_70 rfl (pq_cv jeo_196 rfl (show cF g5 196 32 = k from S_f hS5 1 (Nat.le_of_ble_eq_true rfl))) ?_
  show t_X d 233 73 lv1 [oI (k), oI (c), pvR 219] g5 Q
  refine ts_a (n := 3) rfl rfl (by decide) jrl_73 hS5 jez_219 rfl wu_jZ_219 jgu_219 (by decide) ⟨by omega, by omega⟩ ⟨by omega, by omega⟩ (fun g6 hS6 => ?_)
  replace hS6 : zS g0 g6 (p + 1) k w op ft u c sa wa (updI sl c.toNat (tH B n p)) (updI ss c.toNat k) sc se := hS6
  show t_X d 233 74 lv1 [] g6 Q
  refine t_0 jrl_74 rfl (ld_a l0) ?_
  refine t_0 jrl_75 rfl rfl ?_
  refine ts_f (n := 3) rfl rfl (by decide) jrl_76 rfl jeo_196 hS6 wt_jZ_196_31 jgy_196_31 (by decide) ⟨by omega, by omega⟩ (fun g7 hS7 => ?_)
  replace hS7 : zS g0 g7 (p + 1) k w 0 ft u c sa wa (updI sl c.toNat (tH B n p)) (updI ss c.toNat k) sc se := hS7
  show t_X d 233 79 lv1 [] g7 Q
  refine t_0 jrl_79 rfl (ld_a l0) ?_
  refine t_0 jrl_80 rfl rfl ?_
  refine ts_f (n := 2) rfl rfl (by decide) jrl_81 rfl jeo_196 hS7 wt_jZ_196_33 jgy_196_33 (by decide) ⟨by omega, by omega⟩ (fun g8 hS8 => ?_)
  replace hS8 : zS g0 g8 (p + 1) k 0 0 ft u c sa wa (updI sl c.toNat (tH B n p)) (updI ss c.toNat k) sc se := hS8
  show t_X d 233 84 lv1 [] g8 Q
  refine t_0 jrl_84 rfl (ld_a l0) ?_
  refine t_3 jrl_85 rfl (ar := ([pvR 196], [])) (pcal_w (as := []) rfl rfl rfl jeo_196) ⟨by omega, Nat.le_of_ble_eq_true rfl, Nat.le_of_ble_eq_true rfl, rfl⟩ ?_
  refine sm_f (by omega) (z_B hB hS8) hL1 (zj_in hS8) hC hr (fun g9 hj9 => ?_) _ rfl
  have hZ := z_bad hS8 hj9
  show t_X d 233 88 lv1 [oI 0] g9 Q
  refine tz_ne jrl_88 (by decide) ⟨by omega, by omega⟩ (fun c10 => absurd c10 (by omega)) (fun c10 => ?_)
  show t_X d 233 91 lv1 [] g9 Q
  refine t_0 jrl_91 rfl rfl ?_
  refine t_5 jrl_92 rfl rfl ?_
  exact hQ _ hZ
set_option maxHeartbeats 2000000 in
theorem cl_4 {d : Nat} (hd : 13 ≤ d) {g0 : pH} {B : tC} {n : Int} (hB : jB g0 B n) {p k c : Int} {o v le st co en : tC} (hLP : lP n p k) (hc : 0 ≤ c ∧ c ≤ 16) {g : pH} (hg : zT g0 g p k o v c le st co en) (hL : lLe (tH B n p)) (h16 : c < 16) {p1 k1 : Int} {o1 v1 : tC} (hr : lI (tH B n) n 4 0 (p + 1) k o v (.inr (p1, k1, o1, v1))) (hL2 : lP n p1 k1) (hh : tH B n p1 ≠ 40) {Q : Option pv × pH → Prop} (hQ : ∀ g1, zF g0 g1 (-1000 - p1) → Q (some (oI 0), g1)) {lv : List (Nat × pv)} (l0 : px_lg lv 0 = some (pvR 196)) : t_X d 233 0 lv [] g Q := by
  obtain ⟨w, op, ft, u, sa, wa, sl, ss, sc, se, hS, hC, hA⟩ := hg
  have hLP9 := hLP
  unfold lP at hLP9
  have hn0 := hB.2.2.1
  have hn1 := hB.2.2.2
  have hH : ∀ q, 0 ≤ q → -1 ≤ tH B n q ∧ tH B n q ≤ 255 := fun q hq => tH_b (jp_b hB.2.1) (by omega) hq
  have hH9 := hH p (by omega)
  have hpn : p < n := by
    have := hL
    unfold lLe at this
    exact tH_n (B := B) (by omega)
  have hc9 : 0 ≤ tH B n p ∧ tH B n p ≤ 255 := by
    have := hL
    unfold lLe at this
    omega
  have hL1 : lP n (p + 1) k := by unfold lP; omega
  have hLP8 := hL2
  unfold lP at hLP8
  refine t_0 jrl_0 rfl (ld_a l0) ?_
  refine t_3 jrl_1 rfl (ar := ([pvR 196], [])) (pcal_w (as := []) rfl rfl rfl jeo_196) ⟨by omega, Nat.le_of_ble_eq_true rfl, Nat.le_of_ble_eq_true rfl, rfl⟩ ?_
  refine jh_run (z_B hB hS) (zj_in hS) (by omega) ?_ rfl
  show t_X d 233 4 lv [oI (tH B n p)] g Q
  refine t_2 jrl_4 rfl (w := (px_s1 lv 1 (oI (tH B n p)), [])) rfl ?_
  replace l0 : px_lg (px_s1 lv 1 (oI (tH B n p))) 0 = some (pvR 196) := s1_ne (by decide) (fun _ => rfl) l0
  have l1 : px_lg (px_s1 lv 1 (oI (tH B n p))) 1 = some (oI (tH B n p)) := s1_eq
  generalize px_s1 lv 1 (oI (tH B n p)) = lv1 at l0 l1 ⊢
  show t_X d 233 5 lv1 [] g Q
  refine t_0 jrl_5 rfl (ld_i l1) ?_
  refine t_3 jrl_6 rfl (ar := ([oI (tH B n p)], [])) (pcal_s ⟨Or.inl rfl, rfl, Nat.le_of_ble_eq_true rfl⟩) ⟨by omega, Nat.le_of_ble_eq_true rfl, Nat.le_of_ble_eq_true rfl, rfl⟩ ?_
  refine jic_run ⟨by omega, by omega⟩ (fun _ => ?_) (fun z => absurd hL z) rfl
  show t_X d 233 9 lv1 [oI 1] g Q
  refine tz_ne jrl_9 (by decide) ⟨by omega, by omega⟩ (fun c2 => ?_) (fun c2 => absurd c2 (by omega))
  show t_X d 233 22 lv1 [] g Q
  refine t_0 jrl_22 rfl (ld_a l0) ?_
  refine t_0 jrl_23 rfl (pq_cv jeo_196 rfl (show cF g 196 34 = c from S_f hS 6 (Nat.le_of_ble_eq_true rfl))) ?_
  show t_X d 233 26 lv1 [oI (c)] g Q
  refine t_0 jrl_26 rfl (pq_b (by decide)) ?_
  refine tb_ne jrl_28 (by decide) ⟨by omega, by omega⟩ ⟨by omega, by omega⟩ (fun c3 => ?_) (fun c3 => absurd c3 (by omega))
  show t_X d 233 41 lv1 [] g Q
  refine t_0 jrl_41 rfl (ld_a l0) ?_
  refine t_0 jrl_42 rfl (jcq_196_38 (S_J hS).1) ?_
  show t_X d 233 45 lv1 [pvR 218] g Q
  refine t_0 jrl_45 rfl (ld_a l0) ?_
  refine t_0 jrl_46 rfl (pq_cv jeo_196 rfl (show cF g 196 34 = c from S_f hS 6 (Nat.le_of_ble_eq_true rfl))) ?_
  show t_X d 233 49 lv1 [oI (c), pvR 218] g Q
  refine t_0 jrl_49 rfl (ld_i l1) ?_
  refine ts_a (n := 2) rfl rfl (by decide) jrl_50 hS jez_218 rfl wu_jZ_218 jgu_218 (by decide) ⟨by omega, by omega⟩ ⟨by omega, by omega⟩ (fun g4 hS4 => ?_)
  replace hS4 : zS g0 g4 p k w op ft u c sa wa (updI sl c.toNat (tH B n p)) ss sc se := hS4
  show t_X d 233 51 lv1 [] g4 Q
  refine t_0 jrl_51 rfl (ld_a l0) ?_
  refine t_0 jrl_52 rfl (ld_a l0) ?_
  refine t_0 jrl_53 rfl (pq_cv jeo_196 rfl (show cF g4 196 18 = p from S_f hS4 0 (Nat.le_of_ble_eq_true rfl))) ?_
  show t_X d 233 56 lv1 [oI (p), pvR 196] g4 Q
  refine t_0 jrl_56 rfl rfl ?_
  refine t_0 jrl_57 rfl pq_add ?_
  refine ts_f (n := 0) rfl rfl (by decide) jrl_58 rfl jeo_196 hS4 wt_jZ_196_18 jgy_196_18 (by decide) ⟨by omega, by omega⟩ (fun g5 hS5 => ?_)
  replace hS5 : zS g0 g5 (p + 1) k w op ft u c sa wa (updI sl c.toNat (tH B n p)) ss sc se := hS5
  show t_X d 233 61 lv1 [] g5 Q
  refine t_0 jrl_61 rfl (ld_a l0) ?_
  refine t_0 jrl_62 rfl (jcq_196_39 (S_J hS5).1) ?_
  show t_X d 233 65 lv1 [pvR 219] g5 Q
  refine t_0 jrl_65 rfl (ld_a l0) ?_
  refine t_0 jrl_66 rfl (pq_cv jeo_196 rfl (show cF g5 196 34 = c from S_f hS5 6 (Nat.le_of_ble_eq_true rfl))) ?_
  show t_X d 233 69 lv1 [oI (c), pvR 219] g5 Q
  refine t_0 jrl_69 rfl (ld_a l0) ?_
  refine t_0 jrl_70 rfl (pq_cv jeo_196 rfl (show cF g5 196 32 = k from S_f hS5 1 (Nat.le_of_ble_eq_true rfl))) ?_
  show t_X d 233 73 lv1 [oI (k), oI (c), pvR 219] g5 Q
  refine ts_a (n := 3) rfl rfl (by decide) jrl_73 hS5 jez_219 rfl wu_jZ_219 jgu_219 (by decide) ⟨by omega, by omega⟩ ⟨by omega, by omega⟩ (fun g6 hS6 => ?_)
  replace hS6 : zS g0 g6 (p + 1) k w op ft u c sa wa (updI sl c.toNat (tH B n p)) (updI ss c.toNat k) sc se := hS6
  show t_X d 233 74 lv1 [] g6 Q
  refine t_0 jrl_74 rfl (ld_a l0) ?_
  refine t_0 jrl_75 rfl rfl ?_
  refine ts_f (n := 3) rfl rfl (by decide) jrl_76 rfl jeo_196 hS6 wt_jZ_196_31 jgy_196_31 (by decide) ⟨by omega, by omega⟩ (fun g7 hS7 => ?_)
  replace hS7 : zS g0 g7 (p + 1) k w 0 ft u c sa wa (updI sl c.toNat (tH B n p)) (updI ss c.toNat k) sc se := hS7
  show t_X d 233 79 lv1 [] g7 Q
  refine t_0 jrl_79 rfl (ld_a l0) ?_
  refine t_0 jrl_80 rfl rfl ?_
  refine ts_f (n := 2) rfl rfl (by decide) jrl_81 rfl jeo_196 hS7 wt_jZ_196_33 jgy_196_33 (by decide) ⟨by omega, by omega⟩ (fun g8 hS8 => ?_)
  replace hS8 : zS g0 g8 (p + 1) k 0 0 ft u c sa wa (updI sl c.toNat (tH B n p)) (updI ss c.toNat k) sc se := hS8
  show t_X d 233 84 lv1 [] g8 Q
  refine t_0 jrl_84 rfl (ld_a l0) ?_
  refine t_3 jrl_85 rfl (ar := ([pvR 196], [])) (pcal_w (as := []) rfl rfl rfl jeo_196) ⟨by omega, Nat.le_of_ble_eq_true rfl, Nat.le_of_ble_eq_true rfl, rfl⟩ ?_
  refine sm_o (by omega) (z_B hB hS8) hL1 (zj_in hS8) hC hr hL2 (fun g9 hj9 => ?_) _ rfl
  obtain ⟨ft9, u9, sa9, wa9, hj9, hC9, -, -⟩ := hj9
  have hS9 := z_out hS8 hj9
  replace hS9 : zS g0 g9 p1 k1 0 0 ft9 u9 c sa9 wa9 (updI sl c.toNat (tH B n p)) (updI ss c.toNat k) sc se := hS9
  show t_X d 233 88 lv1 [oI 1] g9 Q
  refine tz_ne jrl_88 (by decide) ⟨by omega, by omega⟩ (fun c10 => ?_) (fun c10 => absurd c10 (by omega))
  show t_X d 233 93 lv1 [] g9 Q
  refine t_0 jrl_93 rfl (ld_a l0) ?_
  refine t_0 jrl_94 rfl (jcq_196_40 (S_J hS9).1) ?_
  show t_X d 233 97 lv1 [pvR 220] g9 Q
  refine t_0 jrl_97 rfl (ld_a l0) ?_
  refine t_0 jrl_98 rfl (pq_cv jeo_196 rfl (show cF g9 196 34 = c from S_f hS9 6 (Nat.le_of_ble_eq_true rfl))) ?_
  show t_X d 233 101 lv1 [oI (c), pvR 220] g9 Q
  refine t_0 jrl_101 rfl (ld_a l0) ?_
  refine t_0 jrl_102 rfl (pq_cv jeo_196 rfl (show cF g9 196 32 = k1 from S_f hS9 1 (Nat.le_of_ble_eq_true rfl))) ?_
  show t_X d 233 105 lv1 [oI (k1), oI (c), pvR 220] g9 Q
  refine ts_a (n := 4) rfl rfl (by decide) jrl_105 hS9 jez_220 rfl wu_jZ_220 jgu_220 (by decide) ⟨by omega, by omega⟩ ⟨by omega, by omega⟩ (fun g11 hS11 => ?_)
  replace hS11 : zS g0 g11 p1 k1 0 0 ft9 u9 c sa9 wa9 (updI sl c.toNat (tH B n p)) (updI ss c.toNat k) (updI sc c.toNat k1) se := hS11
  show t_X d 233 106 lv1 [] g11 Q
  refine t_0 jrl_106 rfl (ld_a l0) ?_
  refine t_3 jrl_107 rfl (ar := ([pvR 196], [])) (pcal_w (as := []) rfl rfl rfl jeo_196) ⟨by omega, Nat.le_of_ble_eq_true rfl, Nat.le_of_ble_eq_true rfl, rfl⟩ ?_
  refine rc_n (o := o1) (v := v1) (by omega) (z_B hB hS11) hL2 (zj_in hS11) hh (fun g12 hj12 => ?_) _ rfl
  have hZ := z_bad hS11 hj12
  show t_X d 233 110 lv1 [oI 0] g12 Q
  refine tz_ne jrl_110 (by decide) ⟨by omega, by omega⟩ (fun c13 => absurd c13 (by omega)) (fun c13 => ?_)
  show t_X d 233 113 lv1 [] g12 Q
  refine t_0 jrl_113 rfl rfl ?_
  refine t_5 jrl_114 rfl rfl ?_
  exact hQ _ hZ
set_option maxHeartbeats 2000000 in
theorem cl_5 {d : Nat} (hd : 13 ≤ d) {g0 : pH} {B : tC} {n : Int} (hB : jB g0 B n) {p k c : Int} {o v le st co en : tC} (hLP : lP n p k) (hc : 0 ≤ c ∧ c ≤ 16) {g : pH} (hg : zT g0 g p k o v c le st co en) (hL : lLe (tH B n p)) (h16 : c < 16) {p1 k1 : Int} {o1 v1 : tC} (hr : lI (tH B n) n 4 0 (p + 1) k o v (.inr (p1, k1, o1, v1))) (hL2 : lP n p1 k1) (hh : tH B n p1 = 40) {f : Int} (hr2 : lI (tH B n) n 10 1 (p1 + 1) k1 o1 v1 (.inl f)) {Q : Option pv × pH → Prop} (hQ : ∀ g1, zF g0 g1 (f) → Q (some (oI 0), g1)) {lv : List (Nat × pv)} (l0 : px_lg lv 0 = some (pvR 196)) : t_X d 233 0 lv [] g Q := by
  obtain ⟨w, op, ft, u, sa, wa, sl, ss, sc, se, hS, hC, hA⟩ := hg
  have hLP9 := hLP
  unfold lP at hLP9
  have hn0 := hB.2.2.1
  have hn1 := hB.2.2.2
  have hH : ∀ q, 0 ≤ q → -1 ≤ tH B n q ∧ tH B n q ≤ 255 := fun q hq => tH_b (jp_b hB.2.1) (by omega) hq
  have hH9 := hH p (by omega)
  have hpn : p < n := by
    have := hL
    unfold lLe at this
    exact tH_n (B := B) (by omega)
  have hc9 : 0 ≤ tH B n p ∧ tH B n p ≤ 255 := by
    have := hL
    unfold lLe at this
    omega
  have hL1 : lP n (p + 1) k := by unfold lP; omega
  have hLP8 := hL2
  unfold lP at hLP8
  refine t_0 jrl_0 rfl (ld_a l0) ?_
  refine t_3 jrl_1 rfl (ar := ([pvR 196], [])) (pcal_w (as := []) rfl rfl rfl jeo_196) ⟨by omega, Nat.le_of_ble_eq_true rfl, Nat.le_of_ble_eq_true rfl, rfl⟩ ?_
  refine jh_run (z_B hB hS) (zj_in hS) (by omega) ?_ rfl
  show t_X d 233 4 lv [oI (tH B n p)] g Q
  refine t_2 jrl_4 rfl (w := (px_s1 lv 1 (oI (tH B n p)), [])) rfl ?_
  replace l0 : px_lg (px_s1 lv 1 (oI (tH B n p))) 0 = some (pvR 196) := s1_ne (by decide) (fun _ => rfl) l0
  have l1 : px_lg (px_s1 lv 1 (oI (tH B n p))) 1 = some (oI (tH B n p)) := s1_eq
  generalize px_s1 lv 1 (oI (tH B n p)) = lv1 at l0 l1 ⊢
  show t_X d 233 5 lv1 [] g Q
  refine t_0 jrl_5 rfl (ld_i l1) ?_
  refine t_3 jrl_6 rfl (ar := ([oI (tH B n p)], [])) (pcal_s ⟨Or.inl rfl, rfl, Nat.le_of_ble_eq_true rfl⟩) ⟨by omega, Nat.le_of_ble_eq_true rfl, Nat.le_of_ble_eq_true rfl, rfl⟩ ?_
  refine jic_run ⟨by omega, by omega⟩ (fun _ => ?_) (fun z => absurd hL z) rfl
  show t_X d 233 9 lv1 [oI 1] g Q
  refine tz_ne jrl_9 (by decide) ⟨by omega, by omega⟩ (fun c2 => ?_) (fun c2 => absurd c2 (by omega))
  show t_X d 233 22 lv1 [] g Q
  refine t_0 jrl_22 rfl (ld_a l0) ?_
  refine t_0 jrl_23 rfl (pq_cv jeo_196 rfl (show cF g 196 34 = c from S_f hS 6 (Nat.le_of_ble_eq_true rfl))) ?_
  show t_X d 233 26 lv1 [oI (c)] g Q
  refine t_0 jrl_26 rfl (pq_b (by decide)) ?_
  refine tb_ne jrl_28 (by decide) ⟨by omega, by omega⟩ ⟨by omega, by omega⟩ (fun c3 => ?_) (fun c3 => absurd c3 (by omega))
  show t_X d 233 41 lv1 [] g Q
  refine t_0 jrl_41 rfl (ld_a l0) ?_
  refine t_0 jrl_42 rfl (jcq_196_38 (S_J hS).1) ?_
  show t_X d 233 45 lv1 [pvR 218] g Q
  refine t_0 jrl_45 rfl (ld_a l0) ?_
  refine t_0 jrl_46 rfl (pq_cv jeo_196 rfl (show cF g 196 34 = c from S_f hS 6 (Nat.le_of_ble_eq_true rfl))) ?_
  show t_X d 233 49 lv1 [oI (c), pvR 218] g Q
  refine t_0 jrl_49 rfl (ld_i l1) ?_
  refine ts_a (n := 2) rfl rfl (by decide) jrl_50 hS jez_218 rfl wu_jZ_218 jgu_218 (by decide) ⟨by omega, by omega⟩ ⟨by omega, by omega⟩ (fun g4 hS4 => ?_)
  replace hS4 : zS g0 g4 p k w op ft u c sa wa (updI sl c.toNat (tH B n p)) ss sc se := hS4
  show t_X d 233 51 lv1 [] g4 Q
  refine t_0 jrl_51 rfl (ld_a l0) ?_
  refine t_0 jrl_52 rfl (ld_a l0) ?_
  refine t_0 jrl_53 rfl (pq_cv jeo_196 rfl (show cF g4 196 18 = p from S_f hS4 0 (Nat.le_of_ble_eq_true rfl))) ?_
  show t_X d 233 56 lv1 [oI (p), pvR 196] g4 Q
  refine t_0 jrl_56 rfl rfl ?_
  refine t_0 jrl_57 rfl pq_add ?_
  refine ts_f (n := 0) rfl rfl (by decide) jrl_58 rfl jeo_196 hS4 wt_jZ_196_18 jgy_196_18 (by decide) ⟨by omega, by omega⟩ (fun g5 hS5 => ?_)
  replace hS5 : zS g0 g5 (p + 1) k w op ft u c sa wa (updI sl c.toNat (tH B n p)) ss sc se := hS5
  show t_X d 233 61 lv1 [] g5 Q
  refine t_0 jrl_61 rfl (ld_a l0) ?_
  refine t_0 jrl_62 rfl (jcq_196_39 (S_J hS5).1) ?_
  show t_X d 233 65 lv1 [pvR 219] g5 Q
  refine t_0 jrl_65 rfl (ld_a l0) ?_
  refine t_0 jrl_66 rfl (pq_cv jeo_196 rfl (show cF g5 196 34 = c from S_f hS5 6 (Nat.le_of_ble_eq_true rfl))) ?_
  show t_X d 233 69 lv1 [oI (c), pvR 219] g5 Q
  refine t_0 jrl_69 rfl (ld_a l0) ?_
  refine t_0 jrl_70 rfl (pq_cv jeo_196 rfl (show cF g5 196 32 = k from S_f hS5 1 (Nat.le_of_ble_eq_true rfl))) ?_
  show t_X d 233 73 lv1 [oI (k), oI (c), pvR 219] g5 Q
  refine ts_a (n := 3) rfl rfl (by decide) jrl_73 hS5 jez_219 rfl wu_jZ_219 jgu_219 (by decide) ⟨by omega, by omega⟩ ⟨by omega, by omega⟩ (fun g6 hS6 => ?_)
  replace hS6 : zS g0 g6 (p + 1) k w op ft u c sa wa (updI sl c.toNat (tH B n p)) (updI ss c.toNat k) sc se := hS6
  show t_X d 233 74 lv1 [] g6 Q
  refine t_0 jrl_74 rfl (ld_a l0) ?_
  refine t_0 jrl_75 rfl rfl ?_
  refine ts_f (n := 3) rfl rfl (by decide) jrl_76 rfl jeo_196 hS6 wt_jZ_196_31 jgy_196_31 (by decide) ⟨by omega, by omega⟩ (fun g7 hS7 => ?_)
  replace hS7 : zS g0 g7 (p + 1) k w 0 ft u c sa wa (updI sl c.toNat (tH B n p)) (updI ss c.toNat k) sc se := hS7
  show t_X d 233 79 lv1 [] g7 Q
  refine t_0 jrl_79 rfl (ld_a l0) ?_
  refine t_0 jrl_80 rfl rfl ?_
  refine ts_f (n := 2) rfl rfl (by decide) jrl_81 rfl jeo_196 hS7 wt_jZ_196_33 jgy_196_33 (by decide) ⟨by omega, by omega⟩ (fun g8 hS8 => ?_)
  replace hS8 : zS g0 g8 (p + 1) k 0 0 ft u c sa wa (updI sl c.toNat (tH B n p)) (updI ss c.toNat k) sc se := hS8
  show t_X d 233 84 lv1 [] g8 Q
  refine t_0 jrl_84 rfl (ld_a l0) ?_
  refine t_3 jrl_85 rfl (ar := ([pvR 196], [])) (pcal_w (as := []) rfl rfl rfl jeo_196) ⟨by omega, Nat.le_of_ble_eq_true rfl, Nat.le_of_ble_eq_true rfl, rfl⟩ ?_
  refine sm_o (by omega) (z_B hB hS8) hL1 (zj_in hS8) hC hr hL2 (fun g9 hj9 => ?_) _ rfl
  obtain ⟨ft9, u9, sa9, wa9, hj9, hC9, -, -⟩ := hj9
  have hS9 := z_out hS8 hj9
  replace hS9 : zS g0 g9 p1 k1 0 0 ft9 u9 c sa9 wa9 (updI sl c.toNat (tH B n p)) (updI ss c.toNat k) sc se := hS9
  show t_X d 233 88 lv1 [oI 1] g9 Q
  refine tz_ne jrl_88 (by decide) ⟨by omega, by omega⟩ (fun c10 => ?_) (fun c10 => absurd c10 (by omega))
  show t_X d 233 93 lv1 [] g9 Q
  refine t_0 jrl_93 rfl (ld_a l0) ?_
  refine t_0 jrl_94 rfl (jcq_196_40 (S_J hS9).1) ?_
  show t_X d 233 97 lv1 [pvR 220] g9 Q
  refine t_0 jrl_97 rfl (ld_a l0) ?_
  refine t_0 jrl_98 rfl (pq_cv jeo_196 rfl (show cF g9 196 34 = c from S_f hS9 6 (Nat.le_of_ble_eq_true rfl))) ?_
  show t_X d 233 101 lv1 [oI (c), pvR 220] g9 Q
  refine t_0 jrl_101 rfl (ld_a l0) ?_
  refine t_0 jrl_102 rfl (pq_cv jeo_196 rfl (show cF g9 196 32 = k1 from S_f hS9 1 (Nat.le_of_ble_eq_true rfl))) ?_
  show t_X d 233 105 lv1 [oI (k1), oI (c), pvR 220] g9 Q
  refine ts_a (n := 4) rfl rfl (by decide) jrl_105 hS9 jez_220 rfl wu_jZ_220 jgu_220 (by decide) ⟨by omega, by omega⟩ ⟨by omega, by omega⟩ (fun g11 hS11 => ?_)
  replace hS11 : zS g0 g11 p1 k1 0 0 ft9 u9 c sa9 wa9 (updI sl c.toNat (tH B n p)) (updI ss c.toNat k) (updI sc c.toNat k1) se := hS11
  show t_X d 233 106 lv1 [] g11 Q
  refine t_0 jrl_106 rfl (ld_a l0) ?_
  refine t_3 jrl_107 rfl (ar := ([pvR 196], [])) (pcal_w (as := []) rfl rfl rfl jeo_196) ⟨by omega, Nat.le_of_ble_eq_true rfl, Nat.le_of_ble_eq_true rfl, rfl⟩ ?_
  refine cd_f (by omega) (z_B hB hS11) hL2 (zj_in hS11) hC9 hh hr2 (fun g12 hj12 => ?_) _ rfl
  have hZ := z_bad hS11 hj12
  show t_X d 233 110 lv1 [oI 0] g12 Q
  refine tz_ne jrl_110 (by decide) ⟨by omega, by omega⟩ (fun c13 => absurd c13 (by omega)) (fun c13 => ?_)
  show t_X d 233 113 lv1 [] g12 Q
  refine t_0 jrl_113 rfl rfl ?_
  refine t_5 jrl_114 rfl rfl ?_
  exact hQ _ hZ
set_option maxHeartbeats 2000000 in
theorem cl_6 {d : Nat} (hd : 13 ≤ d) {g0 : pH} {B : tC} {n : Int} (hB : jB g0 B n) {p k c : Int} {o v le st co en : tC} (hLP : lP n p k) (hc : 0 ≤ c ∧ c ≤ 16) {g : pH} (hg : zT g0 g p k o v c le st co en) (hL : lLe (tH B n p)) (h16 : c < 16) {p1 k1 : Int} {o1 v1 : tC} (hr : lI (tH B n) n 4 0 (p + 1) k o v (.inr (p1, k1, o1, v1))) (hL2 : lP n p1 k1) (hh : tH B n p1 = 40) {p2 k2 : Int} {o2 v2 : tC} (hr2 : lI (tH B n) n 10 1 (p1 + 1) k1 o1 v1 (.inr (p2, k2, o2, v2))) (hL3 : lP n p2 k2) (hh2 : tH B n p2 ≠ 41) {Q : Option pv × pH → Prop} (hQ : ∀ g1, zF g0 g1 (-1000 - p2) → Q (some (oI 0), g1)) {lv : List (Nat × pv)} (l0 : px_lg lv 0 = some (pvR 196)) : t_X d 233 0 lv [] g Q := by
  obtain ⟨w, op, ft, u, sa, wa, sl, ss, sc, se, hS, hC, hA⟩ := hg
  have hLP9 := hLP
  unfold lP at hLP9
  have hn0 := hB.2.2.1
  have hn1 := hB.2.2.2
  have hH : ∀ q, 0 ≤ q → -1 ≤ tH B n q ∧ tH B n q ≤ 255 := fun q hq => tH_b (jp_b hB.2.1) (by omega) hq
  have hH9 := hH p (by omega)
  have hpn : p < n := by
    have := hL
    unfold lLe at this
    exact tH_n (B := B) (by omega)
  have hc9 : 0 ≤ tH B n p ∧ tH B n p ≤ 255 := by
    have := hL
    unfold lLe at this
    omega
  have hL1 : lP n (p + 1) k := by unfold lP; omega
  have hLP8 := hL2
  unfold lP at hLP8
  refine t_0 jrl_0 rfl (ld_a l0) ?_
  refine t_3 jrl_1 rfl (ar := ([pvR 196], [])) (pcal_w (as := []) rfl rfl rfl jeo_196) ⟨by omega, Nat.le_of_ble_eq_true rfl, Nat.le_of_ble_eq_true rfl, rfl⟩ ?_
  refine jh_run (z_B hB hS) (zj_in hS) (by omega) ?_ rfl
  show t_X d 233 4 lv [oI (tH B n p)] g Q
  refine t_2 jrl_4 rfl (w := (px_s1 lv 1 (oI (tH B n p)), [])) rfl ?_
  replace l0 : px_lg (px_s1 lv 1 (oI (tH B n p))) 0 = some (pvR 196) := s1_ne (by decide) (fun _ => rfl) l0
  have l1 : px_lg (px_s1 lv 1 (oI (tH B n p))) 1 = some (oI (tH B n p)) := s1_eq
  generalize px_s1 lv 1 (oI (tH B n p)) = lv1 at l0 l1 ⊢
  show t_X d 233 5 lv1 [] g Q
  refine t_0 jrl_5 rfl (ld_i l1) ?_
  refine t_3 jrl_6 rfl (ar := ([oI (tH B n p)], [])) (pcal_s ⟨Or.inl rfl, rfl, Nat.le_of_ble_eq_true rfl⟩) ⟨by omega, Nat.le_of_ble_eq_true rfl, Nat.le_of_ble_eq_true rfl, rfl⟩ ?_
  refine jic_run ⟨by omega, by omega⟩ (fun _ => ?_) (fun z => absurd hL z) rfl
  show t_X d 233 9 lv1 [oI 1] g Q
  refine tz_ne jrl_9 (by decide) ⟨by omega, by omega⟩ (fun c2 => ?_) (fun c2 => absurd c2 (by omega))
  show t_X d 233 22 lv1 [] g Q
  refine t_0 jrl_22 rfl (ld_a l0) ?_
  refine t_0 jrl_23 rfl (pq_cv jeo_196 rfl (show cF g 196 34 = c from S_f hS 6 (Nat.le_of_ble_eq_true rfl))) ?_
  show t_X d 233 26 lv1 [oI (c)] g Q
  refine t_0 jrl_26 rfl (pq_b (by decide)) ?_
  refine tb_ne jrl_28 (by decide) ⟨by omega, by omega⟩ ⟨by omega, by omega⟩ (fun c3 => ?_) (fun c3 => absurd c3 (by omega))
  show t_X d 233 41 lv1 [] g Q
  refine t_0 jrl_41 rfl (ld_a l0) ?_
  refine t_0 jrl_42 rfl (jcq_196_38 (S_J hS).1) ?_
  show t_X d 233 45 lv1 [pvR 218] g Q
  refine t_0 jrl_45 rfl (ld_a l0) ?_
  refine t_0 jrl_46 rfl (pq_cv jeo_196 rfl (show cF g 196 34 = c from S_f hS 6 (Nat.le_of_ble_eq_true rfl))) ?_
  show t_X d 233 49 lv1 [oI (c), pvR 218] g Q
  refine t_0 jrl_49 rfl (ld_i l1) ?_
  refine ts_a (n := 2) rfl rfl (by decide) jrl_50 hS jez_218 rfl wu_jZ_218 jgu_218 (by decide) ⟨by omega, by omega⟩ ⟨by omega, by omega⟩ (fun g4 hS4 => ?_)
  replace hS4 : zS g0 g4 p k w op ft u c sa wa (updI sl c.toNat (tH B n p)) ss sc se := hS4
  show t_X d 233 51 lv1 [] g4 Q
  refine t_0 jrl_51 rfl (ld_a l0) ?_
  refine t_0 jrl_52 rfl (ld_a l0) ?_
  refine t_0 jrl_53 rfl (pq_cv jeo_196 rfl (show cF g4 196 18 = p from S_f hS4 0 (Nat.le_of_ble_eq_true rfl))) ?_
  show t_X d 233 56 lv1 [oI (p), pvR 196] g4 Q
  refine t_0 jrl_56 rfl rfl ?_
  refine t_0 jrl_57 rfl pq_add ?_
  refine ts_f (n := 0) rfl rfl (by decide) jrl_58 rfl jeo_196 hS4 wt_jZ_196_18 jgy_196_18 (by decide) ⟨by omega, by omega⟩ (fun g5 hS5 => ?_)
  replace hS5 : zS g0 g5 (p + 1) k w op ft u c sa wa (updI sl c.toNat (tH B n p)) ss sc se := hS5
  show t_X d 233 61 lv1 [] g5 Q
  refine t_0 jrl_61 rfl (ld_a l0) ?_
  refine t_0 jrl_62 rfl (jcq_196_39 (S_J hS5).1) ?_
  show t_X d 233 65 lv1 [pvR 219] g5 Q
  refine t_0 jrl_65 rfl (ld_a l0) ?_
  refine t_0 jrl_66 rfl (pq_cv jeo_196 rfl (show cF g5 196 34 = c from S_f hS5 6 (Nat.le_of_ble_eq_true rfl))) ?_
  show t_X d 233 69 lv1 [oI (c), pvR 219] g5 Q
  refine t_0 jrl_69 rfl (ld_a l0) ?_
  refine t_0 jrl_70 rfl (pq_cv jeo_196 rfl (show cF g5 196 32 = k from S_f hS5 1 (Nat.le_of_ble_eq_true rfl))) ?_
  show t_X d 233 73 lv1 [oI (k), oI (c), pvR 219] g5 Q
  refine ts_a (n := 3) rfl rfl (by decide) jrl_73 hS5 jez_219 rfl wu_jZ_219 jgu_219 (by decide) ⟨by omega, by omega⟩ ⟨by omega, by omega⟩ (fun g6 hS6 => ?_)
  replace hS6 : zS g0 g6 (p + 1) k w op ft u c sa wa (updI sl c.toNat (tH B n p)) (updI ss c.toNat k) sc se := hS6
  show t_X d 233 74 lv1 [] g6 Q
  refine t_0 jrl_74 rfl (ld_a l0) ?_
  refine t_0 jrl_75 rfl rfl ?_
  refine ts_f (n := 3) rfl rfl (by decide) jrl_76 rfl jeo_196 hS6 wt_jZ_196_31 jgy_196_31 (by decide) ⟨by omega, by omega⟩ (fun g7 hS7 => ?_)
  replace hS7 : zS g0 g7 (p + 1) k w 0 ft u c sa wa (updI sl c.toNat (tH B n p)) (updI ss c.toNat k) sc se := hS7
  show t_X d 233 79 lv1 [] g7 Q
  refine t_0 jrl_79 rfl (ld_a l0) ?_
  refine t_0 jrl_80 rfl rfl ?_
  refine ts_f (n := 2) rfl rfl (by decide) jrl_81 rfl jeo_196 hS7 wt_jZ_196_33 jgy_196_33 (by decide) ⟨by omega, by omega⟩ (fun g8 hS8 => ?_)
  replace hS8 : zS g0 g8 (p + 1) k 0 0 ft u c sa wa (updI sl c.toNat (tH B n p)) (updI ss c.toNat k) sc se := hS8
  show t_X d 233 84 lv1 [] g8 Q
  refine t_0 jrl_84 rfl (ld_a l0) ?_
  refine t_3 jrl_85 rfl (ar := ([pvR 196], [])) (pcal_w (as := []) rfl rfl rfl jeo_196) ⟨by omega, Nat.le_of_ble_eq_true rfl, Nat.le_of_ble_eq_true rfl, rfl⟩ ?_
  refine sm_o (by omega) (z_B hB hS8) hL1 (zj_in hS8) hC hr hL2 (fun g9 hj9 => ?_) _ rfl
  obtain ⟨ft9, u9, sa9, wa9, hj9, hC9, -, -⟩ := hj9
  have hS9 := z_out hS8 hj9
  replace hS9 : zS g0 g9 p1 k1 0 0 ft9 u9 c sa9 wa9 (updI sl c.toNat (tH B n p)) (updI ss c.toNat k) sc se := hS9
  show t_X d 233 88 lv1 [oI 1] g9 Q
  refine tz_ne jrl_88 (by decide) ⟨by omega, by omega⟩ (fun c10 => ?_) (fun c10 => absurd c10 (by omega))
  show t_X d 233 93 lv1 [] g9 Q
  refine t_0 jrl_93 rfl (ld_a l0) ?_
  refine t_0 jrl_94 rfl (jcq_196_40 (S_J hS9).1) ?_
  show t_X d 233 97 lv1 [pvR 220] g9 Q
  refine t_0 jrl_97 rfl (ld_a l0) ?_
  refine t_0 jrl_98 rfl (pq_cv jeo_196 rfl (show cF g9 196 34 = c from S_f hS9 6 (Nat.le_of_ble_eq_true rfl))) ?_
  show t_X d 233 101 lv1 [oI (c), pvR 220] g9 Q
  refine t_0 jrl_101 rfl (ld_a l0) ?_
  refine t_0 jrl_102 rfl (pq_cv jeo_196 rfl (show cF g9 196 32 = k1 from S_f hS9 1 (Nat.le_of_ble_eq_true rfl))) ?_
  show t_X d 233 105 lv1 [oI (k1), oI (c), pvR 220] g9 Q
  refine ts_a (n := 4) rfl rfl (by decide) jrl_105 hS9 jez_220 rfl wu_jZ_220 jgu_220 (by decide) ⟨by omega, by omega⟩ ⟨by omega, by omega⟩ (fun g11 hS11 => ?_)
  replace hS11 : zS g0 g11 p1 k1 0 0 ft9 u9 c sa9 wa9 (updI sl c.toNat (tH B n p)) (updI ss c.toNat k) (updI sc c.toNat k1) se := hS11
  show t_X d 233 106 lv1 [] g11 Q
  refine t_0 jrl_106 rfl (ld_a l0) ?_
  refine t_3 jrl_107 rfl (ar := ([pvR 196], [])) (pcal_w (as := []) rfl rfl rfl jeo_196) ⟨by omega, Nat.le_of_ble_eq_true rfl, Nat.le_of_ble_eq_true rfl, rfl⟩ ?_
  refine cd_w (by omega) (z_B hB hS11) hL2 (zj_in hS11) hC9 hh hr2 hL3 hh2 (fun g12 hj12 => ?_) _ rfl
  have hZ := z_bad hS11 hj12
  show t_X d 233 110 lv1 [oI 0] g12 Q
  refine tz_ne jrl_110 (by decide) ⟨by omega, by omega⟩ (fun c13 => absurd c13 (by omega)) (fun c13 => ?_)
  show t_X d 233 113 lv1 [] g12 Q
  refine t_0 jrl_113 rfl rfl ?_
  refine t_5 jrl_114 rfl rfl ?_
  exact hQ _ hZ
set_option maxHeartbeats 2000000 in
theorem cl_7 {d : Nat} (hd : 13 ≤ d) {g0 : pH} {B : tC} {n : Int} (hB : jB g0 B n) {p k c : Int} {o v le st co en : tC} (hLP : lP n p k) (hc : 0 ≤ c ∧ c ≤ 16) {g : pH} (hg : zT g0 g p k o v c le st co en) (hL : lLe (tH B n p)) (h16 : c < 16) {p1 k1 : Int} {o1 v1 : tC} (hr : lI (tH B n) n 4 0 (p + 1) k o v (.inr (p1, k1, o1, v1))) (hL2 : lP n p1 k1) (hh : tH B n p1 = 40) {p2 k2 : Int} {o2 v2 : tC} (hr2 : lI (tH B n) n 10 1 (p1 + 1) k1 o1 v1 (.inr (p2, k2, o2, v2))) (hL3 : lP n p2 k2) (hh2 : tH B n p2 = 41) {Q : Option pv × pH → Prop} (hQ : ∀ g1, zT g0 g1 (p2 + 1) k2 o2 v2 (c + 1) (updI le c.toNat (tH B n p)) (updI st c.toNat k) (updI co c.toNat k1) (updI en c.toNat k2) → Q (some (oI 1), g1)) {lv : List (Nat × pv)} (l0 : px_lg lv 0 = some (pvR 196)) : t_X d 233 0 lv [] g Q := by
  obtain ⟨w, op, ft, u, sa, wa, sl, ss, sc, se, hS, hC, hA⟩ := hg
  have hLP9 := hLP
  unfold lP at hLP9
  have hn0 := hB.2.2.1
  have hn1 := hB.2.2.2
  have hH : ∀ q, 0 ≤ q → -1 ≤ tH B n q ∧ tH B n q ≤ 255 := fun q hq => tH_b (jp_b hB.2.1) (by omega) hq
  have hH9 := hH p (by omega)
  have hpn : p < n := by
    have := hL
    unfold lLe at this
    exact tH_n (B := B) (by omega)
  have hc9 : 0 ≤ tH B n p ∧ tH B n p ≤ 255 := by
    have := hL
    unfold lLe at this
    omega
  have hL1 : lP n (p + 1) k := by unfold lP; omega
  have hLP8 := hL2
  unfold lP at hLP8
  have hLP7 := hL3
  unfold lP at hLP7
  refine t_0 jrl_0 rfl (ld_a l0) ?_
  refine t_3 jrl_1 rfl (ar := ([pvR 196], [])) (pcal_w (as := []) rfl rfl rfl jeo_196) ⟨by omega, Nat.le_of_ble_eq_true rfl, Nat.le_of_ble_eq_true rfl, rfl⟩ ?_
  refine jh_run (z_B hB hS) (zj_in hS) (by omega) ?_ rfl
  show t_X d 233 4 lv [oI (tH B n p)] g Q
  refine t_2 jrl_4 rfl (w := (px_s1 lv 1 (oI (tH B n p)), [])) rfl ?_
  replace l0 : px_lg (px_s1 lv 1 (oI (tH B n p))) 0 = some (pvR 196) := s1_ne (by decide) (fun _ => rfl) l0
  have l1 : px_lg (px_s1 lv 1 (oI (tH B n p))) 1 = some (oI (tH B n p)) := s1_eq
  generalize px_s1 lv 1 (oI (tH B n p)) = lv1 at l0 l1 ⊢
  show t_X d 233 5 lv1 [] g Q
  refine t_0 jrl_5 rfl (ld_i l1) ?_
  refine t_3 jrl_6 rfl (ar := ([oI (tH B n p)], [])) (pcal_s ⟨Or.inl rfl, rfl, Nat.le_of_ble_eq_true rfl⟩) ⟨by omega, Nat.le_of_ble_eq_true rfl, Nat.le_of_ble_eq_true rfl, rfl⟩ ?_
  refine jic_run ⟨by omega, by omega⟩ (fun _ => ?_) (fun z => absurd hL z) rfl
  show t_X d 233 9 lv1 [oI 1] g Q
  refine tz_ne jrl_9 (by decide) ⟨by omega, by omega⟩ (fun c2 => ?_) (fun c2 => absurd c2 (by omega))
  show t_X d 233 22 lv1 [] g Q
  refine t_0 jrl_22 rfl (ld_a l0) ?_
  refine t_0 jrl_23 rfl (pq_cv jeo_196 rfl (show cF g 196 34 = c from S_f hS 6 (Nat.le_of_ble_eq_true rfl))) ?_
  show t_X d 233 26 lv1 [oI (c)] g Q
  refine t_0 jrl_26 rfl (pq_b (by decide)) ?_
  refine tb_ne jrl_28 (by decide) ⟨by omega, by omega⟩ ⟨by omega, by omega⟩ (fun c3 => ?_) (fun c3 => absurd c3 (by omega))
  show t_X d 233 41 lv1 [] g Q
  refine t_0 jrl_41 rfl (ld_a l0) ?_
  refine t_0 jrl_42 rfl (jcq_196_38 (S_J hS).1) ?_
  show t_X d 233 45 lv1 [pvR 218] g Q
  refine t_0 jrl_45 rfl (ld_a l0) ?_
  refine t_0 jrl_46 rfl (pq_cv jeo_196 rfl (show cF g 196 34 = c from S_f hS 6 (Nat.le_of_ble_eq_true rfl))) ?_
  show t_X d 233 49 lv1 [oI (c), pvR 218] g Q
  refine t_0 jrl_49 rfl (ld_i l1) ?_
  refine ts_a (n := 2) rfl rfl (by decide) jrl_50 hS jez_218 rfl wu_jZ_218 jgu_218 (by decide) ⟨by omega, by omega⟩ ⟨by omega, by omega⟩ (fun g4 hS4 => ?_)
  replace hS4 : zS g0 g4 p k w op ft u c sa wa (updI sl c.toNat (tH B n p)) ss sc se := hS4
  show t_X d 233 51 lv1 [] g4 Q
  refine t_0 jrl_51 rfl (ld_a l0) ?_
  refine t_0 jrl_52 rfl (ld_a l0) ?_
  refine t_0 jrl_53 rfl (pq_cv jeo_196 rfl (show cF g4 196 18 = p from S_f hS4 0 (Nat.le_of_ble_eq_true rfl))) ?_
  show t_X d 233 56 lv1 [oI (p), pvR 196] g4 Q
  refine t_0 jrl_56 rfl rfl ?_
  refine t_0 jrl_57 rfl pq_add ?_
  refine ts_f (n := 0) rfl rfl (by decide) jrl_58 rfl jeo_196 hS4 wt_jZ_196_18 jgy_196_18 (by decide) ⟨by omega, by omega⟩ (fun g5 hS5 => ?_)
  replace hS5 : zS g0 g5 (p + 1) k w op ft u c sa wa (updI sl c.toNat (tH B n p)) ss sc se := hS5
  show t_X d 233 61 lv1 [] g5 Q
  refine t_0 jrl_61 rfl (ld_a l0) ?_
  refine t_0 jrl_62 rfl (jcq_196_39 (S_J hS5).1) ?_
  show t_X d 233 65 lv1 [pvR 219] g5 Q
  refine t_0 jrl_65 rfl (ld_a l0) ?_
  refine t_0 jrl_66 rfl (pq_cv jeo_196 rfl (show cF g5 196 34 = c from S_f hS5 6 (Nat.le_of_ble_eq_true rfl))) ?_
  show t_X d 233 69 lv1 [oI (c), pvR 219] g5 Q
  refine t_0 jrl_69 rfl (ld_a l0) ?_
  refine t_0 jrl_70 rfl (pq_cv jeo_196 rfl (show cF g5 196 32 = k from S_f hS5 1 (Nat.le_of_ble_eq_true rfl))) ?_
  show t_X d 233 73 lv1 [oI (k), oI (c), pvR 219] g5 Q
  refine ts_a (n := 3) rfl rfl (by decide) jrl_73 hS5 jez_219 rfl wu_jZ_219 jgu_219 (by decide) ⟨by omega, by omega⟩ ⟨by omega, by omega⟩ (fun g6 hS6 => ?_)
  replace hS6 : zS g0 g6 (p + 1) k w op ft u c sa wa (updI sl c.toNat (tH B n p)) (updI ss c.toNat k) sc se := hS6
  show t_X d 233 74 lv1 [] g6 Q
  refine t_0 jrl_74 rfl (ld_a l0) ?_
  refine t_0 jrl_75 rfl rfl ?_
  refine ts_f (n := 3) rfl rfl (by decide) jrl_76 rfl jeo_196 hS6 wt_jZ_196_31 jgy_196_31 (by decide) ⟨by omega, by omega⟩ (fun g7 hS7 => ?_)
  replace hS7 : zS g0 g7 (p + 1) k w 0 ft u c sa wa (updI sl c.toNat (tH B n p)) (updI ss c.toNat k) sc se := hS7
  show t_X d 233 79 lv1 [] g7 Q
  refine t_0 jrl_79 rfl (ld_a l0) ?_
  refine t_0 jrl_80 rfl rfl ?_
  refine ts_f (n := 2) rfl rfl (by decide) jrl_81 rfl jeo_196 hS7 wt_jZ_196_33 jgy_196_33 (by decide) ⟨by omega, by omega⟩ (fun g8 hS8 => ?_)
  replace hS8 : zS g0 g8 (p + 1) k 0 0 ft u c sa wa (updI sl c.toNat (tH B n p)) (updI ss c.toNat k) sc se := hS8
  show t_X d 233 84 lv1 [] g8 Q
  refine t_0 jrl_84 rfl (ld_a l0) ?_
  refine t_3 jrl_85 rfl (ar := ([pvR 196], [])) (pcal_w (as := []) rfl rfl rfl jeo_196) ⟨by omega, Nat.le_of_ble_eq_true rfl, Nat.le_of_ble_eq_true rfl, rfl⟩ ?_
  refine sm_o (by omega) (z_B hB hS8) hL1 (zj_in hS8) hC hr hL2 (fun g9 hj9 => ?_) _ rfl
  obtain ⟨ft9, u9, sa9, wa9, hj9, hC9, -, -⟩ := hj9
  have hS9 := z_out hS8 hj9
  replace hS9 : zS g0 g9 p1 k1 0 0 ft9 u9 c sa9 wa9 (updI sl c.toNat (tH B n p)) (updI ss c.toNat k) sc se := hS9
  show t_X d 233 88 lv1 [oI 1] g9 Q
  refine tz_ne jrl_88 (by decide) ⟨by omega, by omega⟩ (fun c10 => ?_) (fun c10 => absurd c10 (by omega))
  show t_X d 233 93 lv1 [] g9 Q
  refine t_0 jrl_93 rfl (ld_a l0) ?_
  refine t_0 jrl_94 rfl (jcq_196_40 (S_J hS9).1) ?_
  show t_X d 233 97 lv1 [pvR 220] g9 Q
  refine t_0 jrl_97 rfl (ld_a l0) ?_
  refine t_0 jrl_98 rfl (pq_cv jeo_196 rfl (show cF g9 196 34 = c from S_f hS9 6 (Nat.le_of_ble_eq_true rfl))) ?_
  show t_X d 233 101 lv1 [oI (c), pvR 220] g9 Q
  refine t_0 jrl_101 rfl (ld_a l0) ?_
  refine t_0 jrl_102 rfl (pq_cv jeo_196 rfl (show cF g9 196 32 = k1 from S_f hS9 1 (Nat.le_of_ble_eq_true rfl))) ?_
  show t_X d 233 105 lv1 [oI (k1), oI (c), pvR 220] g9 Q
  refine ts_a (n := 4) rfl rfl (by decide) jrl_105 hS9 jez_220 rfl wu_jZ_220 jgu_220 (by decide) ⟨by omega, by omega⟩ ⟨by omega, by omega⟩ (fun g11 hS11 => ?_)
  replace hS11 : zS g0 g11 p1 k1 0 0 ft9 u9 c sa9 wa9 (updI sl c.toNat (tH B n p)) (updI ss c.toNat k) (updI sc c.toNat k1) se := hS11
  show t_X d 233 106 lv1 [] g11 Q
  refine t_0 jrl_106 rfl (ld_a l0) ?_
  refine t_3 jrl_107 rfl (ar := ([pvR 196], [])) (pcal_w (as := []) rfl rfl rfl jeo_196) ⟨by omega, Nat.le_of_ble_eq_true rfl, Nat.le_of_ble_eq_true rfl, rfl⟩ ?_
  refine cd_o (by omega) (z_B hB hS11) hL2 (zj_in hS11) hC9 hh hr2 hL3 hh2 (fun g12 hj12 => ?_) _ rfl
  obtain ⟨ft12, u12, sa12, wa12, hj12, hC12, -, -⟩ := hj12
  have hS12 := z_out hS11 hj12
  replace hS12 : zS g0 g12 (p2 + 1) k2 0 0 ft12 u12 c sa12 wa12 (updI sl c.toNat (tH B n p)) (updI ss c.toNat k) (updI sc c.toNat k1) se := hS12
  show t_X d 233 110 lv1 [oI 1] g12 Q
  refine tz_ne jrl_110 (by decide) ⟨by omega, by omega⟩ (fun c13 => ?_) (fun c13 => absurd c13 (by omega))
  show t_X d 233 115 lv1 [] g12 Q
  refine t_0 jrl_115 rfl (ld_a l0) ?_
  refine t_0 jrl_116 rfl (jcq_196_41 (S_J hS12).1) ?_
  show t_X d 233 119 lv1 [pvR 221] g12 Q
  refine t_0 jrl_119 rfl (ld_a l0) ?_
  refine t_0 jrl_120 rfl (pq_cv jeo_196 rfl (show cF g12 196 34 = c from S_f hS12 6 (Nat.le_of_ble_eq_true rfl))) ?_
  show t_X d 233 123 lv1 [oI (c), pvR 221] g12 Q
  refine t_0 jrl_123 rfl (ld_a l0) ?_
  refine t_0 jrl_124 rfl (pq_cv jeo_196 rfl (show cF g12 196 32 = k2 from S_f hS12 1 (Nat.le_of_ble_eq_true rfl))) ?_
  show t_X d 233 127 lv1 [oI (k2), oI (c), pvR 221] g12 Q
  refine ts_a (n := 5) rfl rfl (by decide) jrl_127 hS12 jez_221 rfl wu_jZ_221 jgu_221 (by decide) ⟨by omega, by omega⟩ ⟨by omega, by omega⟩ (fun g14 hS14 => ?_)
  replace hS14 : zS g0 g14 (p2 + 1) k2 0 0 ft12 u12 c sa12 wa12 (updI sl c.toNat (tH B n p)) (updI ss c.toNat k) (updI sc c.toNat k1) (updI se c.toNat k2) := hS14
  show t_X d 233 128 lv1 [] g14 Q
  refine t_0 jrl_128 rfl (ld_a l0) ?_
  refine t_0 jrl_129 rfl (ld_a l0) ?_
  refine t_0 jrl_130 rfl (pq_cv jeo_196 rfl (show cF g14 196 34 = c from S_f hS14 6 (Nat.le_of_ble_eq_true rfl))) ?_
  show t_X d 233 133 lv1 [oI (c), pvR 196] g14 Q
  refine t_0 jrl_133 rfl rfl ?_
  refine t_0 jrl_134 rfl pq_add ?_
  refine ts_f (n := 6) rfl rfl (by decide) jrl_135 rfl jeo_196 hS14 wt_jZ_196_34 jgy_196_34 (by decide) ⟨by omega, by omega⟩ (fun g15 hS15 => ?_)
  replace hS15 : zS g0 g15 (p2 + 1) k2 0 0 ft12 u12 (c + 1) sa12 wa12 (updI sl c.toNat (tH B n p)) (updI ss c.toNat k) (updI sc c.toNat k1) (updI se c.toNat k2) := hS15
  show t_X d 233 138 lv1 [] g15 Q
  refine t_0 jrl_138 rfl rfl ?_
  refine t_5 jrl_139 rfl rfl ?_
  refine hQ _ ⟨_, _, _, _, _, _, _, _, _, _, hS15, hC12, fun j hj => ?_⟩
  unfold updI
  by_cases e : j = c.toNat
  · rw [if_pos e, if_pos e, if_pos e, if_pos e, if_pos e, if_pos e, if_pos e, if_pos e]
    exact ⟨rfl, rfl, rfl, rfl⟩
  · rw [if_neg e, if_neg e, if_neg e, if_neg e, if_neg e, if_neg e, if_neg e, if_neg e]
    exact hA j (by omega)
def zG (g0 : pH) (Q : Option pv × pH → Prop) : lZ → Prop
  | .inl f => ∀ g1, zF g0 g1 f → Q (some (oI 0), g1)
  | .inr (p1, k1, o1, v1, c1, le1, st1, co1, en1) => ∀ g1, zT g0 g1 p1 k1 o1 v1 c1 le1 st1 co1 en1 → Q (some (oI 1), g1)
theorem cl_x {d : Nat} (hd : 13 ≤ d) {g0 : pH} {B : tC} {n : Int} (hB : jB g0 B n) {p k c : Int} {o v le st co en : tC} (hLP : lP n p k) (hc : 0 ≤ c ∧ c ≤ 16) {g : pH} (hg : zT g0 g p k o v c le st co en) {R : lZ} (hR : lU (tH B n) n p k o v c le st co en R) {Q : Option pv × pH → Prop} (hQ : zG g0 Q R) {lv : List (Nat × pv)} (l0 : px_lg lv 0 = some (pvR 196)) : t_X d 233 0 lv [] g Q := by
  rcases hR with ⟨hL, rfl⟩ | ⟨hL, h16, rfl⟩ | ⟨hL, h16, h⟩
  · exact cl_1 hd hB hLP hc hg hL hQ l0
  · exact cl_2 hd hB hLP hc hg hL h16 hQ l0
  rcases h with ⟨f, hr, rfl⟩ | ⟨p1, k1, o1, v1, hr, hq, h⟩
  · exact cl_3 hd hB hLP hc hg hL h16 hr hQ l0
  have hL2 : lP n p1 k1 := by unfold lQ at hq; unfold lP; omega
  rcases h with ⟨hh, rfl⟩ | ⟨hh, h⟩
  · exact cl_4 hd hB hLP hc hg hL h16 hr hL2 hh hQ l0
  rcases h with ⟨f, hr2, rfl⟩ | ⟨p2, k2, o2, v2, hr2, hq2, h⟩
  · exact cl_5 hd hB hLP hc hg hL h16 hr hL2 hh hr2 hQ l0
  have hL3 : lP n p2 k2 := by unfold lQ at hq2; unfold lP; omega
  rcases h with ⟨hh2, rfl⟩ | ⟨hh2, rfl⟩
  · exact cl_6 hd hB hLP hc hg hL h16 hr hL2 hh hr2 hL3 hh2 hQ l0
  · exact cl_7 hd hB hLP hc hg hL h16 hr hL2 hh hr2 hL3 hh2 hQ l0
