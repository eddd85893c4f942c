/-! the tray of both sides, exactly (printed by wip/e2/u4.py) -/
theorem ycy_0 : xe_look (xc 179) 0 = some (.iconst 0, 1, 0, 0, 0) := by decide +kernel
theorem ycy_1 : xe_look (xc 179) 1 = some (.istore_n 3, 1, 0, 0, 0) := by decide +kernel
theorem ycy_2 : xe_look (xc 179) 2 = some (.iload_n 3, 1, 0, 0, 0) := by decide +kernel
theorem ycy_3 : xe_look (xc 179) 3 = some (.iload_n 2, 1, 0, 0, 0) := by decide +kernel
theorem ycy_4 : xe_look (xc 179) 4 = some (.if_icmp .ge 15, 3, 0, 0, 0) := by decide +kernel
theorem ycy_7 : xe_look (xc 179) 7 = some (.aload_n 1, 1, 0, 0, 0) := by decide +kernel
theorem ycy_8 : xe_look (xc 179) 8 = some (.iload_n 3, 1, 0, 0, 0) := by decide +kernel
theorem ycy_9 : xe_look (xc 179) 9 = some (.aload_n 0, 1, 0, 0, 0) := by decide +kernel
theorem ycy_10 : xe_look (xc 179) 10 = some (.iload_n 3, 1, 0, 0, 0) := by decide +kernel
theorem ycy_11 : xe_look (xc 179) 11 = some (.iaload, 1, 0, 0, 0) := by decide +kernel
theorem ycy_12 : xe_look (xc 179) 12 = some (.iastore, 1, 0, 0, 0) := by decide +kernel
theorem ycy_13 : xe_look (xc 179) 13 = some (.iinc 3 1, 3, 0, 0, 0) := by decide +kernel
theorem ycy_16 : xe_look (xc 179) 16 = some (.goto (-14), 3, 0, 0, 0) := by decide +kernel
theorem ycy_19 : xe_look (xc 179) 19 = some (.return_, 1, 0, 0, 0) := by decide +kernel
theorem yth_0 : xe_look (xc 151) 0 = some (.iload_n 1, 1, 0, 0, 0) := by decide +kernel
theorem yth_1 : xe_look (xc 151) 1 = some (.iload_n 2, 1, 0, 0, 0) := by decide +kernel
theorem yth_2 : xe_look (xc 151) 2 = some (.if_icmp .lt 20, 3, 0, 0, 0) := by decide +kernel
theorem yth_5 : xe_look (xc 151) 5 = some (.iload_n 1, 1, 0, 0, 0) := by decide +kernel
theorem yth_6 : xe_look (xc 151) 6 = some (.iload_n 3, 1, 0, 0, 0) := by decide +kernel
theorem yth_7 : xe_look (xc 151) 7 = some (.if_icmp .gt 15, 3, 0, 0, 0) := by decide +kernel
theorem yth_10 : xe_look (xc 151) 10 = some (.iload_n 1, 1, 0, 0, 0) := by decide +kernel
theorem yth_11 : xe_look (xc 151) 11 = some (.aload_n 0, 1, 0, 0, 0) := by decide +kernel
theorem yth_12 : xe_look (xc 151) 12 = some (.getfield 81, 3, 11, 1, 981) := by decide +kernel
theorem yth_15 : xe_look (xc 151) 15 = some (.if_icmp .gt 7, 3, 0, 0, 0) := by decide +kernel
theorem yth_18 : xe_look (xc 151) 18 = some (.iconst 1, 1, 0, 0, 0) := by decide +kernel
theorem yth_19 : xe_look (xc 151) 19 = some (.goto 4, 3, 0, 0, 0) := by decide +kernel
theorem yth_22 : xe_look (xc 151) 22 = some (.iconst 0, 1, 0, 0, 0) := by decide +kernel
theorem yth_23 : xe_look (xc 151) 23 = some (.ireturn, 1, 0, 0, 0) := by decide +kernel
theorem ytr_0 : xe_look (xc 157) 0 = some (.aload_n 0, 1, 0, 0, 0) := by decide +kernel
theorem ytr_1 : xe_look (xc 157) 1 = some (.iload_n 1, 1, 0, 0, 0) := by decide +kernel
theorem ytr_2 : xe_look (xc 157) 2 = some (.iconst 1, 1, 0, 0, 0) := by decide +kernel
theorem ytr_3 : xe_look (xc 157) 3 = some (.bipush 120, 2, 0, 0, 0) := by decide +kernel
theorem ytr_5 : xe_look (xc 157) 5 = some (.invokevirtual 152, 3, 0, 151, 985) := by decide +kernel
theorem ytr_8 : xe_look (xc 157) 8 = some (.ifCond .ne 5, 3, 0, 0, 0) := by decide +kernel
theorem ytr_11 : xe_look (xc 157) 11 = some (.iconst (-1), 1, 0, 0, 0) := by decide +kernel
theorem ytr_12 : xe_look (xc 157) 12 = some (.ireturn, 1, 0, 0, 0) := by decide +kernel
theorem ytr_13 : xe_look (xc 157) 13 = some (.aload_n 0, 1, 0, 0, 0) := by decide +kernel
theorem ytr_14 : xe_look (xc 157) 14 = some (.getfield 30, 3, 11, 6, 1032) := by decide +kernel
theorem ytr_17 : xe_look (xc 157) 17 = some (.aload_n 0, 1, 0, 0, 0) := by decide +kernel
theorem ytr_18 : xe_look (xc 157) 18 = some (.getfield 9, 3, 11, 0, 982) := by decide +kernel
theorem ytr_21 : xe_look (xc 157) 21 = some (.iload_n 1, 1, 0, 0, 0) := by decide +kernel
theorem ytr_22 : xe_look (xc 157) 22 = some (.invokevirtual 155, 3, 0, 90, 1106) := by decide +kernel
theorem ytr_25 : xe_look (xc 157) 25 = some (.istore_n 2, 1, 0, 0, 0) := by decide +kernel
theorem ytr_26 : xe_look (xc 157) 26 = some (.aload_n 0, 1, 0, 0, 0) := by decide +kernel
theorem ytr_27 : xe_look (xc 157) 27 = some (.iconst 0, 1, 0, 0, 0) := by decide +kernel
theorem ytr_28 : xe_look (xc 157) 28 = some (.putfield 81, 3, 11, 1, 981) := by decide +kernel
theorem ytr_31 : xe_look (xc 157) 31 = some (.iload_n 2, 1, 0, 0, 0) := by decide +kernel
theorem ytr_32 : xe_look (xc 157) 32 = some (.ifCond .le 21, 3, 0, 0, 0) := by decide +kernel
theorem ytr_35 : xe_look (xc 157) 35 = some (.aload_n 0, 1, 0, 0, 0) := by decide +kernel
theorem ytr_36 : xe_look (xc 157) 36 = some (.getfield 26, 3, 11, 5, 1001) := by decide +kernel
theorem ytr_39 : xe_look (xc 157) 39 = some (.astore_n 3, 1, 0, 0, 0) := by decide +kernel
theorem ytr_40 : xe_look (xc 157) 40 = some (.aload_n 0, 1, 0, 0, 0) := by decide +kernel
theorem ytr_41 : xe_look (xc 157) 41 = some (.aload_n 0, 1, 0, 0, 0) := by decide +kernel
theorem ytr_42 : xe_look (xc 157) 42 = some (.getfield 30, 3, 11, 6, 1032) := by decide +kernel
theorem ytr_45 : xe_look (xc 157) 45 = some (.putfield 26, 3, 11, 5, 1001) := by decide +kernel
theorem ytr_48 : xe_look (xc 157) 48 = some (.aload_n 0, 1, 0, 0, 0) := by decide +kernel
theorem ytr_49 : xe_look (xc 157) 49 = some (.aload_n 3, 1, 0, 0, 0) := by decide +kernel
theorem ytr_50 : xe_look (xc 157) 50 = some (.putfield 30, 3, 11, 6, 1032) := by decide +kernel
theorem ytr_53 : xe_look (xc 157) 53 = some (.iload_n 2, 1, 0, 0, 0) := by decide +kernel
theorem ytr_54 : xe_look (xc 157) 54 = some (.ireturn, 1, 0, 0, 0) := by decide +kernel
theorem yty_0 : xe_look (xc 264) 0 = some (.iload_n 1, 1, 0, 0, 0) := by decide +kernel
theorem yty_1 : xe_look (xc 264) 1 = some (.iconst 1, 1, 0, 0, 0) := by decide +kernel
theorem yty_2 : xe_look (xc 264) 2 = some (.bipush 120, 2, 0, 0, 0) := by decide +kernel
theorem yty_4 : xe_look (xc 264) 4 = some (.invokestatic 201, 3, 0, 199, 1131) := by decide +kernel
theorem yty_7 : xe_look (xc 264) 7 = some (.ifCond .eq 11, 3, 0, 0, 0) := by decide +kernel
theorem yty_10 : xe_look (xc 264) 10 = some (.iload_n 1, 1, 0, 0, 0) := by decide +kernel
theorem yty_11 : xe_look (xc 264) 11 = some (.aload_n 0, 1, 0, 0, 0) := by decide +kernel
theorem yty_12 : xe_look (xc 264) 12 = some (.getfield 194, 3, 12, 17, 1132) := by decide +kernel
theorem yty_15 : xe_look (xc 264) 15 = some (.if_icmp .le 5, 3, 0, 0, 0) := by decide +kernel
theorem yty_18 : xe_look (xc 264) 18 = some (.iconst (-1), 1, 0, 0, 0) := by decide +kernel
theorem yty_19 : xe_look (xc 264) 19 = some (.ireturn, 1, 0, 0, 0) := by decide +kernel
theorem yty_20 : xe_look (xc 264) 20 = some (.aload_n 0, 1, 0, 0, 0) := by decide +kernel
theorem yty_21 : xe_look (xc 264) 21 = some (.iconst 0, 1, 0, 0, 0) := by decide +kernel
theorem yty_22 : xe_look (xc 264) 22 = some (.putfield 242, 3, 12, 18, 1135) := by decide +kernel
theorem yty_25 : xe_look (xc 264) 25 = some (.aload_n 0, 1, 0, 0, 0) := by decide +kernel
theorem yty_26 : xe_look (xc 264) 26 = some (.iload_n 1, 1, 0, 0, 0) := by decide +kernel
theorem yty_27 : xe_look (xc 264) 27 = some (.putfield 277, 3, 12, 19, 1190) := by decide +kernel
theorem yty_30 : xe_look (xc 264) 30 = some (.aload_n 0, 1, 0, 0, 0) := by decide +kernel
theorem yty_31 : xe_look (xc 264) 31 = some (.iconst 0, 1, 0, 0, 0) := by decide +kernel
theorem yty_32 : xe_look (xc 264) 32 = some (.putfield 262, 3, 12, 25, 1141) := by decide +kernel
theorem yty_35 : xe_look (xc 264) 35 = some (.aload_n 0, 1, 0, 0, 0) := by decide +kernel
theorem yty_36 : xe_look (xc 264) 36 = some (.iconst 0, 1, 0, 0, 0) := by decide +kernel
theorem yty_37 : xe_look (xc 264) 37 = some (.putfield 265, 3, 12, 26, 1139) := by decide +kernel
theorem yty_40 : xe_look (xc 264) 40 = some (.aload_n 0, 1, 0, 0, 0) := by decide +kernel
theorem yty_41 : xe_look (xc 264) 41 = some (.invokevirtual 280, 3, 0, 237, 1285) := by decide +kernel
theorem yty_44 : xe_look (xc 264) 44 = some (.istore_n 2, 1, 0, 0, 0) := by decide +kernel
theorem yty_92 : xe_look (xc 264) 92 = some (.aload_n 0, 1, 0, 0, 0) := by decide +kernel
theorem yty_93 : xe_look (xc 264) 93 = some (.iconst 0, 1, 0, 0, 0) := by decide +kernel
theorem yty_94 : xe_look (xc 264) 94 = some (.putfield 194, 3, 12, 17, 1132) := by decide +kernel
theorem yty_97 : xe_look (xc 264) 97 = some (.iload_n 2, 1, 0, 0, 0) := by decide +kernel
theorem yty_98 : xe_look (xc 264) 98 = some (.ifCond .ne 8, 3, 0, 0, 0) := by decide +kernel
theorem yty_101 : xe_look (xc 264) 101 = some (.aload_n 0, 1, 0, 0, 0) := by decide +kernel
theorem yty_102 : xe_look (xc 264) 102 = some (.getfield 286, 3, 12, 20, 1233) := by decide +kernel
theorem yty_105 : xe_look (xc 264) 105 = some (.ireturn, 1, 0, 0, 0) := by decide +kernel
theorem yty_106 : xe_look (xc 264) 106 = some (.aload_n 0, 1, 0, 0, 0) := by decide +kernel
theorem yty_107 : xe_look (xc 264) 107 = some (.aload_n 0, 1, 0, 0, 0) := by decide +kernel
theorem yty_108 : xe_look (xc 264) 108 = some (.getfield 262, 3, 12, 25, 1141) := by decide +kernel
theorem yty_111 : xe_look (xc 264) 111 = some (.putfield 289, 3, 12, 24, 1161) := by decide +kernel
theorem yty_114 : xe_look (xc 264) 114 = some (.aload_n 0, 1, 0, 0, 0) := by decide +kernel
theorem yty_115 : xe_look (xc 264) 115 = some (.getfield 59, 3, 12, 28, 1143) := by decide +kernel
theorem yty_118 : xe_look (xc 264) 118 = some (.aload_n 0, 1, 0, 0, 0) := by decide +kernel
theorem yty_119 : xe_look (xc 264) 119 = some (.getfield 56, 3, 12, 27, 1183) := by decide +kernel
theorem yty_122 : xe_look (xc 264) 122 = some (.aload_n 0, 1, 0, 0, 0) := by decide +kernel
theorem yty_123 : xe_look (xc 264) 123 = some (.getfield 262, 3, 12, 25, 1141) := by decide +kernel
theorem yty_126 : xe_look (xc 264) 126 = some (.invokestatic 292, 3, 0, 179, 1228) := by decide +kernel
theorem yty_129 : xe_look (xc 264) 129 = some (.aload_n 0, 1, 0, 0, 0) := by decide +kernel
theorem yty_130 : xe_look (xc 264) 130 = some (.getfield 262, 3, 12, 25, 1141) := by decide +kernel
theorem yty_133 : xe_look (xc 264) 133 = some (.ireturn, 1, 0, 0, 0) := by decide +kernel
theorem S_1 {ks : List (Nat × Nat)} {as : List Nat} {W : Nat} {g0 g : pH} (hJ : J_ W g0 g) : sE ks as W g0 g (ks.map (fun t => cF g t.1 t.2)) (as.map (fun k => fA g k)) := ⟨hJ, (S_0 (ks := ks) (as := as) (W := W) hJ.1).2⟩
theorem sp_2 {g : pH} (hG : g_I eG g) : (g.2.2.1 0 5 = some 150 ∨ g.2.2.1 0 5 = some 152) ∧ (g.2.2.1 0 6 = some 150 ∨ g.2.2.1 0 6 = some 152) := by
  have f : ∀ {y : Nat}, (eG (cn 0 + y)).2.2 = [151, 153] → ok_v (cv (.inr (.inr (g.2.2.1 0 y)))) (eG (cn 0 + y)) → g.2.2.1 0 y = some 150 ∨ g.2.2.1 0 y = some 152 := fun {y} h1 h2 => by
    have h3 := h2.2.2
    rw [h1] at h3
    rcases h3 with h3 | h3
    · cases h3
    cases q : g.2.2.1 0 y with
    | none =>
      rw [q] at h3
      exact absurd h3 (by decide)
    | some k =>
      rw [q] at h3
      have h4 : ((k : Int) + 1).toNat ∈ [151, 153] := h3
      rcases List.mem_cons.mp h4 with h4 | h4
      · exact Or.inl (by rw [show k = 150 by omega])
      · have h4 := List.mem_singleton.mp h4
        exact Or.inr (by rw [show k = 152 by omega])
  have e5 := (hG 0 (0, 11) er_0).1 rfl 5 (Nat.le_of_ble_eq_true rfl)
  have e6 := (hG 0 (0, 11) er_0).1 rfl 6 (Nat.le_of_ble_eq_true rfl)
  exact ⟨f (by decide +kernel) (by rw [pFo (x := 11) (y := 5) rfl] at e5; exact e5), f (by decide +kernel) (by rw [pFo (x := 11) (y := 6) rfl] at e6; exact e6)⟩
theorem gt_0_r : eG (cn 0 + 5) = (0, 100000, [151, 153]) ∧ eG (cn 0 + 6) = (0, 100000, [151, 153]) := by decide +kernel
def thk : List (Nat × Nat) := [(0, 1)]
def tN150 : Nat := tV150 + 2 ^ (cn 0 + 1)
def tX150 : Nat := tN150 + 2 ^ (cn 0 + 5) + 2 ^ (cn 0 + 6)
theorem tN150_b : tV150 &&& tN150 = tV150 ∧ tN150 &&& tX150 = tN150 ∧ tX150.testBit (cn 0 + 5) = true ∧ tX150.testBit (cn 0 + 6) = true ∧ tV150.testBit (cn 0 + 5) = false ∧ tV150.testBit (cn 0 + 6) = false ∧ tV150.testBit (cn 0 + 1) = false ∧ tV150 &&& tX150 = tV150 := by decide +kernel
def tt150k : List (Nat × Nat) := [(0, 1), (150, 1)]
def tt150a : List Nat := [151]
def tN152 : Nat := tV152 + 2 ^ (cn 0 + 1)
def tX152 : Nat := tN152 + 2 ^ (cn 0 + 5) + 2 ^ (cn 0 + 6)
theorem tN152_b : tV152 &&& tN152 = tV152 ∧ tN152 &&& tX152 = tN152 ∧ tX152.testBit (cn 0 + 5) = true ∧ tX152.testBit (cn 0 + 6) = true ∧ tV152.testBit (cn 0 + 5) = false ∧ tV152.testBit (cn 0 + 6) = false ∧ tV152.testBit (cn 0 + 1) = false ∧ tV152 &&& tX152 = tV152 := by decide +kernel
def tt152k : List (Nat × Nat) := [(0, 1), (152, 1)]
def tt152a : List Nat := [153]
def nV : Nat := nWr + 2 ^ (cn 196 + 17) + 2 ^ (cn 196 + 19) + 2 ^ (cn 196 + 24) + 2 ^ cn 212
theorem nV_b : nWr &&& nV = nWr ∧ nV.testBit (cn 211) = false ∧ nWr.testBit (cn 211) = false ∧ nWr.testBit (cn 196 + 24) = false ∧ nWr.testBit (cn 212) = false := by decide +kernel
def nvk : List (Nat × Nat) := [(196, 18), (196, 25), (196, 26), (196, 20), (196, 17), (196, 24), (196, 19)]
def nva : List Nat := [213, 212]
theorem eo_0 : eL[0]? = some (0, 11) := by decide +kernel
theorem gu_212 : eG (cn 212) = (0, 31, []) := by decide +kernel
theorem gy_0_1 : eG (cn 0 + 1) = (0, 260, []) := by decide +kernel
theorem gy_196_17 : eG (cn 196 + 17) = (0, 260, []) := by decide +kernel
theorem gy_196_19 : eG (cn 196 + 19) = ((-2147483648), 2147483647, []) := by decide +kernel
theorem gy_196_24 : eG (cn 196 + 24) = (0, 60, []) := by decide +kernel
theorem ch_0_0 : (eG (cn 0 + 0)).2.2 = [2] := by decide +kernel
theorem cq_0_0 {d i : Nat} {lv : List (Nat × pv)} {r : List pv} {g : pH} (hG : g_I eG g) : px_push eL d none (.getfield i) 11 0 lv (pvR 0 :: r) g = some (pvR 1 :: r) := pget eo_0 (gI_r (r := 1) hG eo_0 (Nat.le_of_ble_eq_true rfl) (y := 0) rfl ch_0_0)
theorem ch_196_27 : (eG (cn 196 + 27)).2.2 = [213] := by decide +kernel
theorem cq_196_27 {d i : Nat} {lv : List (Nat × pv)} {r : List pv} {g : pH} (hG : g_I eG g) : px_push eL d none (.getfield i) 12 27 lv (pvR 196 :: r) g = some (pvR 212 :: r) := pget eo_196 (gI_r (r := 212) hG eo_196 (Nat.le_of_ble_eq_true rfl) (y := 27) rfl ch_196_27)
theorem ez_212 : eL[212]? = some (1, 60) := by decide +kernel
theorem wt_nV_196_17 : nV.testBit (cn 196 + 17) = true := by decide +kernel
theorem wt_nV_196_18 : nV.testBit (cn 196 + 18) = true := by decide +kernel
theorem wt_nV_196_19 : nV.testBit (cn 196 + 19) = true := by decide +kernel
theorem wt_nV_196_24 : nV.testBit (cn 196 + 24) = true := by decide +kernel
theorem wt_nV_196_25 : nV.testBit (cn 196 + 25) = true := by decide +kernel
theorem wt_nV_196_26 : nV.testBit (cn 196 + 26) = true := by decide +kernel
theorem wt_tN150_0_1 : tN150.testBit (cn 0 + 1) = true := by decide +kernel
theorem wt_tN152_0_1 : tN152.testBit (cn 0 + 1) = true := by decide +kernel
theorem wt_tX150_0_1 : tX150.testBit (cn 0 + 1) = true := by decide +kernel
theorem wt_tX152_0_1 : tX152.testBit (cn 0 + 1) = true := by decide +kernel
theorem wu_nV_212 : nV.testBit (cn 212) = true := by decide +kernel
theorem thx_run {d W : Nat} {g0 g : pH} {tl : Int} (hS : sE thk [] W g0 g [tl] []) {n a b : Int} (hn : -2147483648 ≤ n ∧ n ≤ 2147483647) (ha : -2147483648 ≤ a ∧ a ≤ 2147483647) (hb : -2147483648 ≤ b ∧ b ≤ 2147483647) (ht : 0 ≤ tl ∧ tl ≤ 260) {P : Option pv × pH → Prop} (h1 : a ≤ n ∧ n ≤ b ∧ n ≤ tl → P (some (oI 1), g)) (h0 : ¬ (a ≤ n ∧ n ≤ b ∧ n ≤ tl) → P (some (oI 0), g)) {lv : List (Nat × pv)} (l0 : px_lg lv 0 = some (pvR 0)) (l1 : px_lg lv 1 = some (oI n)) (l2 : px_lg lv 2 = some (oI a)) (l3 : px_lg lv 3 = some (oI b)) : t_X d 151 0 lv [] g P := by
  refine t_0 yth_0 rfl (ld_i l1) ?_
  refine t_0 yth_1 rfl (ld_i l2) ?_
  refine tb_lt yth_2 (by decide) ⟨by omega, by omega⟩ ⟨by omega, by omega⟩ (fun c1 => ?_) (fun c1 => ?_)
  · show t_X d 151 22 lv [] g P
    refine t_0 yth_22 rfl rfl ?_
    refine t_5 yth_23 rfl rfl ?_
    exact h0 (by omega)
  · show t_X d 151 5 lv [] g P
    refine t_0 yth_5 rfl (ld_i l1) ?_
    refine t_0 yth_6 rfl (ld_i l3) ?_
    refine tb_gt yth_7 (by decide) ⟨by omega, by omega⟩ ⟨by omega, by omega⟩ (fun c2 => ?_) (fun c2 => ?_)
    · show t_X d 151 22 lv [] g P
      refine t_0 yth_22 rfl rfl ?_
      refine t_5 yth_23 rfl rfl ?_
      exact h0 (by omega)
    · show t_X d 151 10 lv [] g P
      refine t_0 yth_10 rfl (ld_i l1) ?_
      refine t_0 yth_11 rfl (ld_a l0) ?_
      refine t_0 yth_12 rfl (pq_cv eo_0 rfl (show cF g 0 1 = tl from S_f hS 0 (Nat.le_of_ble_eq_true rfl))) ?_
      show t_X d 151 15 lv [oI (tl), oI (n)] g P
      refine tb_gt yth_15 (by decide) ⟨by omega, by omega⟩ ⟨by omega, by omega⟩ (fun c3 => ?_) (fun c3 => ?_)
      · show t_X d 151 22 lv [] g P
        refine t_0 yth_22 rfl rfl ?_
        refine t_5 yth_23 rfl rfl ?_
        exact h0 (by omega)
      · show t_X d 151 18 lv [] g P
        refine t_0 yth_18 rfl rfl ?_
        refine t_1 yth_19 rfl (pb_goto (pc := 19) (by decide)) ?_
        show t_X d 151 23 lv [oI 1] g P
        refine t_5 yth_23 rfl rfl ?_
        exact h1 ⟨by omega, by omega, by omega⟩
set_option maxHeartbeats 4000000 in
theorem tr150_run {d : Nat} (hd : 18 ≤ d) {g : pH} {tl : Int} (hS : sE thk [] 0 g g [tl] []) (ht : 0 ≤ tl ∧ tl ≤ 260) (hr : g.2.2.1 0 6 = some 150) {K2 : Nat} (hr5 : g.2.2.1 0 5 = some K2) (hk2 : K2 = 150 ∨ K2 = 152) {n : Int} (hn : -2147483648 ≤ n ∧ n ≤ 2147483647) {P : Option pv × pH → Prop} (hR : ¬ (1 ≤ n ∧ n ≤ 120 ∧ n ≤ tl) → P (some (oI (-1)), g)) (hF : (1 ≤ n ∧ n ≤ 120 ∧ n ≤ tl) → ∀ (g1 : pH) (f : Int) (c : tC), J_ tN150 g g1 → cF g1 0 1 = 0 → f < 0 → tIs (tH (fA g 1) n) n 0 0 0 c (.inl f) → P (some (oI f), g1)) (hE : (1 ≤ n ∧ n ≤ 120 ∧ n ≤ tl) → ∀ (g1 : pH) (p m : Int) (c c1 : tC), J_ tN150 g g1 → cF g1 0 1 = 0 → 0 ≤ p → p < n → 0 ≤ m ∧ m ≤ 60 → tIs (tH (fA g 1) n) n 0 0 0 c (.inr (p, m, c1)) → P (some (oI (-1000 - p)), g1)) (hO : (1 ≤ n ∧ n ≤ 120 ∧ n ≤ tl) → ∀ (g1 : pH) (m : Int) (c c1 : tC), J_ tX150 g g1 → cF g1 0 1 = 0 → g1.2.2.1 0 5 = some 150 → g1.2.2.1 0 6 = some K2 → cF g1 150 1 = m → fA g1 151 = c1 → 1 ≤ m ∧ m ≤ 60 → tIs (tH (fA g 1) n) n 0 0 0 c (.inr (n, m, c1)) → P (some (oI m), g1)) {lv : List (Nat × pv)} (l0 : px_lg lv 0 = some (pvR 0)) (l1 : px_lg lv 1 = some (oI n)) : t_X d 157 0 lv [] g P := by
  refine t_0 ytr_0 rfl (ld_a l0) ?_
  refine t_0 ytr_1 rfl (ld_i l1) ?_
  refine t_0 ytr_2 rfl rfl ?_
  refine t_0 ytr_3 rfl (pq_b (by decide)) ?_
  refine t_3 ytr_5 rfl (ar := ([pvR 0, oI (n), oI 1, oI 120], [])) (pcal_w (as := [oI 120, oI 1, oI (n)]) rfl rfl rfl eo_0) ⟨by omega, Nat.le_of_ble_eq_true rfl, Nat.le_of_ble_eq_true rfl, rfl⟩ ?_
  refine thx_run hS ⟨by omega, by omega⟩ ⟨by omega, by omega⟩ ⟨by omega, by omega⟩ ⟨by omega, by omega⟩ (fun t1 => ?_) (fun t1 => ?_) rfl rfl rfl rfl
  · show t_X d 157 8 lv [oI 1] g P
    refine tz_ne ytr_8 (by decide) ⟨by omega, by omega⟩ (fun c2 => ?_) (fun c2 => absurd c2 (by omega))
    show t_X d 157 13 lv [] g P
    refine t_0 ytr_13 rfl (ld_a l0) ?_
    refine t_0 ytr_14 rfl (pq_ro eo_0 rfl hr) ?_
    show t_X d 157 17 lv [pvR 150] g P
    refine t_0 ytr_17 rfl (ld_a l0) ?_
    refine t_0 ytr_18 rfl (cq_0_0 (S_J hS).1) ?_
    show t_X d 157 21 lv [pvR 1, pvR 150] g P
    refine t_0 ytr_21 rfl (ld_i l1) ?_
    refine t_3 ytr_22 rfl (ar := ([pvR 150, pvR 1, oI (n)], [])) (pcal_w (as := [oI (n), pvR 1]) rfl rfl rfl eo_150) ⟨by omega, Nat.le_of_ble_eq_true rfl, Nat.le_of_ble_eq_true rfl, rfl⟩ ?_
    refine rd150_run (by omega) (J_rf (S_J hS).1) ⟨by omega, by omega⟩ (fun g1 f c J1 u1 x1 => ?_) (fun g1 p m c c1 J1 y0 y1 y2 x1 => ?_) (fun g1 m c c1 J1 x1 x2 x3 x4 => ?_) rfl rfl rfl
    · have hS1 : sE tt150k tt150a tN150 g g1 [cF g1 0 1, cF g1 150 1] [fA g1 151] := S_1 (J_wide tN150_b.1 J1)
      have q5 : g1.2.2.1 0 5 = some K2 := (J1.2.1 0 5 tN150_b.2.2.2.2.1).2.2.trans hr5
      have q6 : g1.2.2.1 0 6 = some 150 := (J1.2.1 0 6 tN150_b.2.2.2.2.2.1).2.2.trans hr
      show t_X d 157 25 lv [oI (f)] g1 P
      refine t_2 ytr_25 rfl (w := (px_s1 lv 2 (oI (f)), [])) rfl ?_
      replace l0 : px_lg (px_s1 lv 2 (oI (f))) 0 = some (pvR 0) := s1_ne (by decide) (fun _ => rfl) l0
      replace l1 : px_lg (px_s1 lv 2 (oI (f))) 1 = some (oI (n)) := s1_ne (by decide) (fun _ => rfl) l1
      have l2 : px_lg (px_s1 lv 2 (oI (f))) 2 = some (oI (f)) := s1_eq
      generalize px_s1 lv 2 (oI (f)) = lv3 at l0 l1 l2 ⊢
      show t_X d 157 26 lv3 [] g1 P
      refine t_0 ytr_26 rfl (ld_a l0) ?_
      refine t_0 ytr_27 rfl rfl ?_
      refine ts_fe (n := 0) rfl rfl (by decide) ytr_28 rfl eo_0 hS1 wt_tN150_0_1 gy_0_1 (by decide) ⟨by omega, by omega⟩ (fun g4 hS4 e4 => ?_)
      replace hS4 : sE tt150k tt150a tN150 g g4 [0, cF g1 150 1] [fA g1 151] := hS4
      replace q5 : g4.2.2.1 0 5 = some K2 := by rw [e4]; exact q5
      replace q6 : g4.2.2.1 0 6 = some 150 := by rw [e4]; exact q6
      show t_X d 157 31 lv3 [] g4 P
      refine t_0 ytr_31 rfl (ld_i l2) ?_
      refine tz_le ytr_32 (by decide) ⟨by omega, by omega⟩ (fun c5 => ?_) (fun c5 => absurd c5 (by omega))
      show t_X d 157 53 lv3 [] g4 P
      refine t_0 ytr_53 rfl (ld_i l2) ?_
      refine t_5 ytr_54 rfl rfl ?_
      exact hF t1 _ _ _ (S_J hS4) (S_f hS4 0 (Nat.le_of_ble_eq_true rfl)) u1.1 x1
    · have hS1 : sE tt150k tt150a tN150 g g1 [cF g1 0 1, cF g1 150 1] [fA g1 151] := S_1 (J_wide tN150_b.1 J1)
      have q5 : g1.2.2.1 0 5 = some K2 := (J1.2.1 0 5 tN150_b.2.2.2.2.1).2.2.trans hr5
      have q6 : g1.2.2.1 0 6 = some 150 := (J1.2.1 0 6 tN150_b.2.2.2.2.2.1).2.2.trans hr
      show t_X d 157 25 lv [oI (-1000 - p)] g1 P
      refine t_2 ytr_25 rfl (w := (px_s1 lv 2 (oI (-1000 - p)), [])) rfl ?_
      replace l0 : px_lg (px_s1 lv 2 (oI (-1000 - p))) 0 = some (pvR 0) := s1_ne (by decide) (fun _ => rfl) l0
      replace l1 : px_lg (px_s1 lv 2 (oI (-1000 - p))) 1 = some (oI (n)) := s1_ne (by decide) (fun _ => rfl) l1
      have l2 : px_lg (px_s1 lv 2 (oI (-1000 - p))) 2 = some (oI (-1000 - p)) := s1_eq
      generalize px_s1 lv 2 (oI (-1000 - p)) = lv6 at l0 l1 l2 ⊢
      show t_X d 157 26 lv6 [] g1 P
      refine t_0 ytr_26 rfl (ld_a l0) ?_
      refine t_0 ytr_27 rfl rfl ?_
      refine ts_fe (n := 0) rfl rfl (by decide) ytr_28 rfl eo_0 hS1 wt_tN150_0_1 gy_0_1 (by decide) ⟨by omega, by omega⟩ (fun g7 hS7 e7 => ?_)
      replace hS7 : sE tt150k tt150a tN150 g g7 [0, cF g1 150 1] [fA g1 151] := hS7
      replace q5 : g7.2.2.1 0 5 = some K2 := by rw [e7]; exact q5
      replace q6 : g7.2.2.1 0 6 = some 150 := by rw [e7]; exact q6
      show t_X d 157 31 lv6 [] g7 P
      refine t_0 ytr_31 rfl (ld_i l2) ?_
      refine tz_le ytr_32 (by decide) ⟨by omega, by omega⟩ (fun c8 => ?_) (fun c8 => absurd c8 (by omega))
      show t_X d 157 53 lv6 [] g7 P
      refine t_0 ytr_53 rfl (ld_i l2) ?_
      refine t_5 ytr_54 rfl rfl ?_
      exact hE t1 _ _ _ _ _ (S_J hS7) (S_f hS7 0 (Nat.le_of_ble_eq_true rfl)) y0 y1 y2 x1
    · have hS1 : sE tt150k tt150a tX150 g g1 [cF g1 0 1, cF g1 150 1] [fA g1 151] := S_1 (J_wide tN150_b.2.2.2.2.2.2.2 J1)
      rw [x2, x3] at hS1
      have q5 : g1.2.2.1 0 5 = some K2 := (J1.2.1 0 5 tN150_b.2.2.2.2.1).2.2.trans hr5
      have q6 : g1.2.2.1 0 6 = some 150 := (J1.2.1 0 6 tN150_b.2.2.2.2.2.1).2.2.trans hr
      show t_X d 157 25 lv [oI (m)] g1 P
      refine t_2 ytr_25 rfl (w := (px_s1 lv 2 (oI (m)), [])) rfl ?_
      replace l0 : px_lg (px_s1 lv 2 (oI (m))) 0 = some (pvR 0) := s1_ne (by decide) (fun _ => rfl) l0
      replace l1 : px_lg (px_s1 lv 2 (oI (m))) 1 = some (oI (n)) := s1_ne (by decide) (fun _ => rfl) l1
      have l2 : px_lg (px_s1 lv 2 (oI (m))) 2 = some (oI (m)) := s1_eq
      generalize px_s1 lv 2 (oI (m)) = lv9 at l0 l1 l2 ⊢
      show t_X d 157 26 lv9 [] g1 P
      refine t_0 ytr_26 rfl (ld_a l0) ?_
      refine t_0 ytr_27 rfl rfl ?_
      refine ts_fe (n := 0) rfl rfl (by decide) ytr_28 rfl eo_0 hS1 wt_tX150_0_1 gy_0_1 (by decide) ⟨by omega, by omega⟩ (fun g10 hS10 e10 => ?_)
      replace hS10 : sE tt150k tt150a tX150 g g10 [0, m] [c1] := hS10
      replace q5 : g10.2.2.1 0 5 = some K2 := by rw [e10]; exact q5
      replace q6 : g10.2.2.1 0 6 = some 150 := by rw [e10]; exact q6
      show t_X d 157 31 lv9 [] g10 P
      refine t_0 ytr_31 rfl (ld_i l2) ?_
      refine tz_le ytr_32 (by decide) ⟨by omega, by omega⟩ (fun c11 => absurd c11 (by omega)) (fun c11 => ?_)
      show t_X d 157 35 lv9 [] g10 P
      refine t_0 ytr_35 rfl (ld_a l0) ?_
      refine t_0 ytr_36 rfl (pq_ro eo_0 rfl q5) ?_
      show t_X d 157 39 lv9 [pvR K2] g10 P
      refine t_2 ytr_39 rfl (w := (px_s1 lv9 3 (pvR K2), [])) rfl ?_
      replace l0 : px_lg (px_s1 lv9 3 (pvR K2)) 0 = some (pvR 0) := s1_ne (by decide) (fun _ => rfl) l0
      replace l1 : px_lg (px_s1 lv9 3 (pvR K2)) 1 = some (oI (n)) := s1_ne (by decide) (fun _ => rfl) l1
      replace l2 : px_lg (px_s1 lv9 3 (pvR K2)) 2 = some (oI (m)) := s1_ne (by decide) (fun _ => rfl) l2
      have l3 : px_lg (px_s1 lv9 3 (pvR K2)) 3 = some (pvR K2) := s1_eq
      generalize px_s1 lv9 3 (pvR K2) = lv12 at l0 l1 l2 l3 ⊢
      show t_X d 157 40 lv12 [] g10 P
      refine t_0 ytr_40 rfl (ld_a l0) ?_
      refine t_0 ytr_41 rfl (ld_a l0) ?_
      refine t_0 ytr_42 rfl (pq_ro eo_0 rfl q6) ?_
      show t_X d 157 45 lv12 [pvR 150, pvR 0] g10 P
      refine ts_rb ytr_45 rfl eo_0 hS10 tN150_b.2.2.1 (by rw [gt_0_r.1]; exact ⟨by decide, by decide, Or.inr (by decide)⟩) (fun g13 hS13 e13 => ?_)
      have p5 : g13.2.2.1 0 5 = some 150 := by rw [e13]; exact (pu_rr : pu g10.2.2.1 0 5 (some 150) 0 5 = some 150)
      clear e13
      show t_X d 157 48 lv12 [] g13 P
      refine t_0 ytr_48 rfl (ld_a l0) ?_
      refine t_0 ytr_49 rfl (ld_a l3) ?_
      refine ts_rb ytr_50 rfl eo_0 hS13 tN150_b.2.2.2.1 (by rw [gt_0_r.2]; rcases hk2 with rfl | rfl; exact ⟨by decide, by decide, Or.inr (by decide)⟩; exact ⟨by decide, by decide, Or.inr (by decide)⟩) (fun g14 hS14 e14 => ?_)
      replace p5 : g14.2.2.1 0 5 = some 150 := by rw [e14]; exact (pu_rn (f := g13.2.2.1) (k := 0) (y := 6) (v := some K2) (by decide)).trans p5
      have p6 : g14.2.2.1 0 6 = some K2 := by rw [e14]; exact (pu_rr : pu g13.2.2.1 0 6 (some K2) 0 6 = some K2)
      clear e14
      show t_X d 157 53 lv12 [] g14 P
      refine t_0 ytr_53 rfl (ld_i l2) ?_
      refine t_5 ytr_54 rfl rfl ?_
      exact hO t1 _ _ _ _ (S_J hS14) (S_f hS14 0 (Nat.le_of_ble_eq_true rfl)) p5 p6 (S_f hS14 1 (Nat.le_of_ble_eq_true rfl)) (S_a hS14 0 (Nat.le_of_ble_eq_true rfl)) x4 x1
  · show t_X d 157 8 lv [oI 0] g P
    refine tz_ne ytr_8 (by decide) ⟨by omega, by omega⟩ (fun c15 => absurd c15 (by omega)) (fun c15 => ?_)
    show t_X d 157 11 lv [] g P
    refine t_0 ytr_11 rfl rfl ?_
    refine t_5 ytr_12 rfl rfl ?_
    exact hR t1
set_option maxHeartbeats 4000000 in
theorem tr152_run {d : Nat} (hd : 18 ≤ d) {g : pH} {tl : Int} (hS : sE thk [] 0 g g [tl] []) (ht : 0 ≤ tl ∧ tl ≤ 260) (hr : g.2.2.1 0 6 = some 152) {K2 : Nat} (hr5 : g.2.2.1 0 5 = some K2) (hk2 : K2 = 150 ∨ K2 = 152) {n : Int} (hn : -2147483648 ≤ n ∧ n ≤ 2147483647) {P : Option pv × pH → Prop} (hR : ¬ (1 ≤ n ∧ n ≤ 120 ∧ n ≤ tl) → P (some (oI (-1)), g)) (hF : (1 ≤ n ∧ n ≤ 120 ∧ n ≤ tl) → ∀ (g1 : pH) (f : Int) (c : tC), J_ tN152 g g1 → cF g1 0 1 = 0 → f < 0 → tIs (tH (fA g 1) n) n 0 0 0 c (.inl f) → P (some (oI f), g1)) (hE : (1 ≤ n ∧ n ≤ 120 ∧ n ≤ tl) → ∀ (g1 : pH) (p m : Int) (c c1 : tC), J_ tN152 g g1 → cF g1 0 1 = 0 → 0 ≤ p → p < n → 0 ≤ m ∧ m ≤ 60 → tIs (tH (fA g 1) n) n 0 0 0 c (.inr (p, m, c1)) → P (some (oI (-1000 - p)), g1)) (hO : (1 ≤ n ∧ n ≤ 120 ∧ n ≤ tl) → ∀ (g1 : pH) (m : Int) (c c1 : tC), J_ tX152 g g1 → cF g1 0 1 = 0 → g1.2.2.1 0 5 = some 152 → g1.2.2.1 0 6 = some K2 → cF g1 152 1 = m → fA g1 153 = c1 → 1 ≤ m ∧ m ≤ 60 → tIs (tH (fA g 1) n) n 0 0 0 c (.inr (n, m, c1)) → P (some (oI m), g1)) {lv : List (Nat × pv)} (l0 : px_lg lv 0 = some (pvR 0)) (l1 : px_lg lv 1 = some (oI n)) : t_X d 157 0 lv [] g P := by
  refine t_0 ytr_0 rfl (ld_a l0) ?_
  refine t_0 ytr_1 rfl (ld_i l1) ?_
  refine t_0 ytr_2 rfl rfl ?_
  refine t_0 ytr_3 rfl (pq_b (by decide)) ?_
  refine t_3 ytr_5 rfl (ar := ([pvR 0, oI (n), oI 1, oI 120], [])) (pcal_w (as := [oI 120, oI 1, oI (n)]) rfl rfl rfl eo_0) ⟨by omega, Nat.le_of_ble_eq_true rfl, Nat.le_of_ble_eq_true rfl, rfl⟩ ?_
  refine thx_run hS ⟨by omega, by omega⟩ ⟨by omega, by omega⟩ ⟨by omega, by omega⟩ ⟨by omega, by omega⟩ (fun t1 => ?_) (fun t1 => ?_) rfl rfl rfl rfl
  · show t_X d 157 8 lv [oI 1] g P
    refine tz_ne ytr_8 (by decide) ⟨by omega, by omega⟩ (fun c2 => ?_) (fun c2 => absurd c2 (by omega))
    show t_X d 157 13 lv [] g P
    refine t_0 ytr_13 rfl (ld_a l0) ?_
    refine t_0 ytr_14 rfl (pq_ro eo_0 rfl hr) ?_
    show t_X d 157 17 lv [pvR 152] g P
    refine t_0 ytr_17 rfl (ld_a l0) ?_
    refine t_0 ytr_18 rfl (cq_0_0 (S_J hS).1) ?_
    show t_X d 157 21 lv [pvR 1, pvR 152] g P
    refine t_0 ytr_21 rfl (ld_i l1) ?_
    refine t_3 ytr_22 rfl (ar := ([pvR 152, pvR 1, oI (n)], [])) (pcal_w (as := [oI (n), pvR 1]) rfl rfl rfl eo_152) ⟨by omega, Nat.le_of_ble_eq_true rfl, Nat.le_of_ble_eq_true rfl, rfl⟩ ?_
    refine rd152_run (by omega) (J_rf (S_J hS).1) ⟨by omega, by omega⟩ (fun g1 f c J1 u1 x1 => ?_) (fun g1 p m c c1 J1 y0 y1 y2 x1 => ?_) (fun g1 m c c1 J1 x1 x2 x3 x4 => ?_) rfl rfl rfl
    · have hS1 : sE tt152k tt152a tN152 g g1 [cF g1 0 1, cF g1 152 1] [fA g1 153] := S_1 (J_wide tN152_b.1 J1)
      have q5 : g1.2.2.1 0 5 = some K2 := (J1.2.1 0 5 tN152_b.2.2.2.2.1).2.2.trans hr5
      have q6 : g1.2.2.1 0 6 = some 152 := (J1.2.1 0 6 tN152_b.2.2.2.2.2.1).2.2.trans hr
      show t_X d 157 25 lv [oI (f)] g1 P
      refine t_2 ytr_25 rfl (w := (px_s1 lv 2 (oI (f)), [])) rfl ?_
      replace l0 : px_lg (px_s1 lv 2 (oI (f))) 0 = some (pvR 0) := s1_ne (by decide) (fun _ => rfl) l0
      replace l1 : px_lg (px_s1 lv 2 (oI (f))) 1 = some (oI (n)) := s1_ne (by decide) (fun _ => rfl) l1
      have l2 : px_lg (px_s1 lv 2 (oI (f))) 2 = some (oI (f)) := s1_eq
      generalize px_s1 lv 2 (oI (f)) = lv3 at l0 l1 l2 ⊢
      show t_X d 157 26 lv3 [] g1 P
      refine t_0 ytr_26 rfl (ld_a l0) ?_
      refine t_0 ytr_27 rfl rfl ?_
      refine ts_fe (n := 0) rfl rfl (by decide) ytr_28 rfl eo_0 hS1 wt_tN152_0_1 gy_0_1 (by decide) ⟨by omega, by omega⟩ (fun g4 hS4 e4 => ?_)
      replace hS4 : sE tt152k tt152a tN152 g g4 [0, cF g1 152 1] [fA g1 153] := hS4
      replace q5 : g4.2.2.1 0 5 = some K2 := by rw [e4]; exact q5
      replace q6 : g4.2.2.1 0 6 = some 152 := by rw [e4]; exact q6
      show t_X d 157 31 lv3 [] g4 P
      refine t_0 ytr_31 rfl (ld_i l2) ?_
      refine tz_le ytr_32 (by decide) ⟨by omega, by omega⟩ (fun c5 => ?_) (fun c5 => absurd c5 (by omega))
      show t_X d 157 53 lv3 [] g4 P
      refine t_0 ytr_53 rfl (ld_i l2) ?_
      refine t_5 ytr_54 rfl rfl ?_
      exact hF t1 _ _ _ (S_J hS4) (S_f hS4 0 (Nat.le_of_ble_eq_true rfl)) u1.1 x1
    · have hS1 : sE tt152k tt152a tN152 g g1 [cF g1 0 1, cF g1 152 1] [fA g1 153] := S_1 (J_wide tN152_b.1 J1)
      have q5 : g1.2.2.1 0 5 = some K2 := (J1.2.1 0 5 tN152_b.2.2.2.2.1).2.2.trans hr5
      have q6 : g1.2.2.1 0 6 = some 152 := (J1.2.1 0 6 tN152_b.2.2.2.2.2.1).2.2.trans hr
      show t_X d 157 25 lv [oI (-1000 - p)] g1 P
      refine t_2 ytr_25 rfl (w := (px_s1 lv 2 (oI (-1000 - p)), [])) rfl ?_
      replace l0 : px_lg (px_s1 lv 2 (oI (-1000 - p))) 0 = some (pvR 0) := s1_ne (by decide) (fun _ => rfl) l0
      replace l1 : px_lg (px_s1 lv 2 (oI (-1000 - p))) 1 = some (oI (n)) := s1_ne (by decide) (fun _ => rfl) l1
      have l2 : px_lg (px_s1 lv 2 (oI (-1000 - p))) 2 = some (oI (-1000 - p)) := s1_eq
      generalize px_s1 lv 2 (oI (-1000 - p)) = lv6 at l0 l1 l2 ⊢
      show t_X d 157 26 lv6 [] g1 P
      refine t_0 ytr_26 rfl (ld_a l0) ?_
      refine t_0 ytr_27 rfl rfl ?_
      refine ts_fe (n := 0) rfl rfl (by decide) ytr_28 rfl eo_0 hS1 wt_tN152_0_1 gy_0_1 (by decide) ⟨by omega, by omega⟩ (fun g7 hS7 e7 => ?_)
      replace hS7 : sE tt152k tt152a tN152 g g7 [0, cF g1 152 1] [fA g1 153] := hS7
      replace q5 : g7.2.2.1 0 5 = some K2 := by rw [e7]; exact q5
      replace q6 : g7.2.2.1 0 6 = some 152 := by rw [e7]; exact q6
      show t_X d 157 31 lv6 [] g7 P
      refine t_0 ytr_31 rfl (ld_i l2) ?_
      refine tz_le ytr_32 (by decide) ⟨by omega, by omega⟩ (fun c8 => ?_) (fun c8 => absurd c8 (by omega))
      show t_X d 157 53 lv6 [] g7 P
      refine t_0 ytr_53 rfl (ld_i l2) ?_
      refine t_5 ytr_54 rfl rfl ?_
      exact hE t1 _ _ _ _ _ (S_J hS7) (S_f hS7 0 (Nat.le_of_ble_eq_true rfl)) y0 y1 y2 x1
    · have hS1 : sE tt152k tt152a tX152 g g1 [cF g1 0 1, cF g1 152 1] [fA g1 153] := S_1 (J_wide tN152_b.2.2.2.2.2.2.2 J1)
      rw [x2, x3] at hS1
      have q5 : g1.2.2.1 0 5 = some K2 := (J1.2.1 0 5 tN152_b.2.2.2.2.1).2.2.trans hr5
      have q6 : g1.2.2.1 0 6 = some 152 := (J1.2.1 0 6 tN152_b.2.2.2.2.2.1).2.2.trans hr
      show t_X d 157 25 lv [oI (m)] g1 P
      refine t_2 ytr_25 rfl (w := (px_s1 lv 2 (oI (m)), [])) rfl ?_
      replace l0 : px_lg (px_s1 lv 2 (oI (m))) 0 = some (pvR 0) := s1_ne (by decide) (fun _ => rfl) l0
      replace l1 : px_lg (px_s1 lv 2 (oI (m))) 1 = some (oI (n)) := s1_ne (by decide) (fun _ => rfl) l1
      have l2 : px_lg (px_s1 lv 2 (oI (m))) 2 = some (oI (m)) := s1_eq
      generalize px_s1 lv 2 (oI (m)) = lv9 at l0 l1 l2 ⊢
      show t_X d 157 26 lv9 [] g1 P
      refine t_0 ytr_26 rfl (ld_a l0) ?_
      refine t_0 ytr_27 rfl rfl ?_
      refine ts_fe (n := 0) rfl rfl (by decide) ytr_28 rfl eo_0 hS1 wt_tX152_0_1 gy_0_1 (by decide) ⟨by omega, by omega⟩ (fun g10 hS10 e10 => ?_)
      replace hS10 : sE tt152k tt152a tX152 g g10 [0, m] [c1] := hS10
      replace q5 : g10.2.2.1 0 5 = some K2 := by rw [e10]; exact q5
      replace q6 : g10.2.2.1 0 6 = some 152 := by rw [e10]; exact q6
      show t_X d 157 31 lv9 [] g10 P
      refine t_0 ytr_31 rfl (ld_i l2) ?_
      refine tz_le ytr_32 (by decide) ⟨by omega, by omega⟩ (fun c11 => absurd c11 (by omega)) (fun c11 => ?_)
      show t_X d 157 35 lv9 [] g10 P
      refine t_0 ytr_35 rfl (ld_a l0) ?_
      refine t_0 ytr_36 rfl (pq_ro eo_0 rfl q5) ?_
      show t_X d 157 39 lv9 [pvR K2] g10 P
      refine t_2 ytr_39 rfl (w := (px_s1 lv9 3 (pvR K2), [])) rfl ?_
      replace l0 : px_lg (px_s1 lv9 3 (pvR K2)) 0 = some (pvR 0) := s1_ne (by decide) (fun _ => rfl) l0
      replace l1 : px_lg (px_s1 lv9 3 (pvR K2)) 1 = some (oI (n)) := s1_ne (by decide) (fun _ => rfl) l1
      replace l2 : px_lg (px_s1 lv9 3 (pvR K2)) 2 = some (oI (m)) := s1_ne (by decide) (fun _ => rfl) l2
      have l3 : px_lg (px_s1 lv9 3 (pvR K2)) 3 = some (pvR K2) := s1_eq
      generalize px_s1 lv9 3 (pvR K2) = lv12 at l0 l1 l2 l3 ⊢
      show t_X d 157 40 lv12 [] g10 P
      refine t_0 ytr_40 rfl (ld_a l0) ?_
      refine t_0 ytr_41 rfl (ld_a l0) ?_
      refine t_0 ytr_42 rfl (pq_ro eo_0 rfl q6) ?_
      show t_X d 157 45 lv12 [pvR 152, pvR 0] g10 P
      refine ts_rb ytr_45 rfl eo_0 hS10 tN152_b.2.2.1 (by rw [gt_0_r.1]; exact ⟨by decide, by decide, Or.inr (by decide)⟩) (fun g13 hS13 e13 => ?_)
      have p5 : g13.2.2.1 0 5 = some 152 := by rw [e13]; exact (pu_rr : pu g10.2.2.1 0 5 (some 152) 0 5 = some 152)
      clear e13
      show t_X d 157 48 lv12 [] g13 P
      refine t_0 ytr_48 rfl (ld_a l0) ?_
      refine t_0 ytr_49 rfl (ld_a l3) ?_
      refine ts_rb ytr_50 rfl eo_0 hS13 tN152_b.2.2.2.1 (by rw [gt_0_r.2]; rcases hk2 with rfl | rfl; exact ⟨by decide, by decide, Or.inr (by decide)⟩; exact ⟨by decide, by decide, Or.inr (by decide)⟩) (fun g14 hS14 e14 => ?_)
      replace p5 : g14.2.2.1 0 5 = some 152 := by rw [e14]; exact (pu_rn (f := g13.2.2.1) (k := 0) (y := 6) (v := some K2) (by decide)).trans p5
      have p6 : g14.2.2.1 0 6 = some K2 := by rw [e14]; exact (pu_rr : pu g13.2.2.1 0 6 (some K2) 0 6 = some K2)
      clear e14
      show t_X d 157 53 lv12 [] g14 P
      refine t_0 ytr_53 rfl (ld_i l2) ?_
      refine t_5 ytr_54 rfl rfl ?_
      exact hO t1 _ _ _ _ (S_J hS14) (S_f hS14 0 (Nat.le_of_ble_eq_true rfl)) p5 p6 (S_f hS14 1 (Nat.le_of_ble_eq_true rfl)) (S_a hS14 0 (Nat.le_of_ble_eq_true rfl)) x4 x1
  · show t_X d 157 8 lv [oI 0] g P
    refine tz_ne ytr_8 (by decide) ⟨by omega, by omega⟩ (fun c15 => absurd c15 (by omega)) (fun c15 => ?_)
    show t_X d 157 11 lv [] g P
    refine t_0 ytr_11 rfl rfl ?_
    refine t_5 ytr_12 rfl rfl ?_
    exact hR t1
theorem m_z0 {d : Nat} {h0 g : pH} {p m s f w7 w4 n : Int} {c e : tC} (hS : sE nvk nva nV h0 g [p, m, s, f, w7, w4, n] [c, e]) {P : Option pv × pH → Prop} (hP : ∀ g1 : pH, J_ nV h0 g1 → cF g1 196 17 = 0 → cF g1 196 24 = w4 → fA g1 212 = e → P (some (oI f), g1)) {lv : List (Nat × pv)} (l0 : px_lg lv 0 = some (pvR 196)) (l2 : px_lg lv 2 = some (oI 0)) : t_X d 264 45 lv [] g P := by
  refine t_0 yty_45 rfl (ld_i l2) ?_
  refine tz_eq yty_46 (by decide) ⟨by omega, by omega⟩ (fun c1 => ?_) (fun c1 => absurd c1 (by omega))
  show t_X d 264 92 lv [] g P
  refine t_0 yty_92 rfl (ld_a l0) ?_
  refine t_0 yty_93 rfl rfl ?_
  refine ts_f (n := 4) rfl rfl (by decide) yty_94 rfl eo_196 hS wt_nV_196_17 gy_196_17 (by decide) ⟨by omega, by omega⟩ (fun g2 hS2 => ?_)
  replace hS2 : sE nvk nva nV h0 g2 [p, m, s, f, 0, w4, n] [c, e] := hS2
  show t_X d 264 97 lv [] g2 P
  refine t_0 yty_97 rfl (ld_i l2) ?_
  refine tz_ne yty_98 (by decide) ⟨by omega, by omega⟩ (fun c3 => absurd c3 (by omega)) (fun c3 => ?_)
  show t_X d 264 101 lv [] g2 P
  refine t_0 yty_101 rfl (ld_a l0) ?_
  refine t_0 yty_102 rfl (pq_cv eo_196 rfl (show cF g2 196 20 = f from S_f hS2 3 (Nat.le_of_ble_eq_true rfl))) ?_
  show t_X d 264 105 lv [oI (f)] g2 P
  refine t_5 yty_105 rfl rfl ?_
  exact hP _ (S_J hS2) (S_f hS2 4 (Nat.le_of_ble_eq_true rfl)) (S_f hS2 5 (Nat.le_of_ble_eq_true rfl)) (S_a hS2 1 (Nat.le_of_ble_eq_true rfl))
theorem m_fi {d : Nat} {h0 g0 : pH} (hJ : J_ nV h0 g0) {P : Option pv × pH → Prop} {f : Int} (hP : ∀ g1 : pH, J_ nV h0 g1 → cF g1 196 17 = 0 → cF g1 196 24 = cF g0 196 24 → fA g1 212 = fA g0 212 → P (some (oI f), g1)) : mFi g0 d P f := by
  intro g p m s u c gf ga hS lv l0 l2
  have h1 : sE nvk nva nV h0 g [cF g 196 18, cF g 196 25, cF g 196 26, cF g 196 20, cF g 196 17, cF g 196 24, cF g 196 19] [fA g 213, fA g 212] := S_1 (J_up nV_b.1 hJ (S_J hS))
  rw [(show cF g 196 20 = f from S_f hS 3 (Nat.le_of_ble_eq_true rfl))] at h1
  exact m_z0 h1 (fun g1 x1 x2 x3 x4 => hP g1 x1 x2 (x3.trans (cF_M (S_J hS).2 nV_b.2.2.2.1)) (x4.trans (fA_M (S_J hS).2 nV_b.2.2.2.2))) l0 l2
set_option maxHeartbeats 2000000 in
theorem m_cy {d : Nat} {h0 : pH} {p m s f w7 w4 n : Int} (hm : 0 ≤ m ∧ m ≤ 60) {c : tC} (hc : ∀ j : Nat, (j : Int) < m → 0 ≤ c j ∧ c j ≤ 31) {P : Option pv × pH → Prop} (hP : ∀ (g1 : pH) (e1 : tC), sE nvk nva nV h0 g1 [p, m, s, f, w7, w4, n] [c, e1] → (∀ j : Nat, (j : Int) < m → e1 j = c j) → P (none, g1)) : ∀ (y k : Nat) (g : pH) (lv : List (Nat × pv)) {e : tC}, m - k ≤ y → (k : Int) ≤ m → sE nvk nva nV h0 g [p, m, s, f, w7, w4, n] [c, e] → (∀ j : Nat, j < k → e j = c j) → px_lg lv 0 = some (pvR 213) → px_lg lv 1 = some (pvR 212) → px_lg lv 2 = some (oI m) → px_lg lv 3 = some (oI (k : Int)) → t_X d 179 2 lv [] g P := by
  intro y
  induction y with
  | zero =>
    intro k g lv e hy hk hS he l0 l1 l2 l3
    refine t_0 ycy_2 rfl (ld_i l3) ?_
    refine t_0 ycy_3 rfl (ld_i l2) ?_
    refine tb_ge ycy_4 (by decide) ⟨by omega, by omega⟩ ⟨by omega, by omega⟩ (fun c1 => ?_) (fun c1 => absurd c1 (by omega))
    show t_X d 179 19 lv [] g P
    refine t_5 ycy_19 rfl rfl ?_
    exact hP _ _ hS (fun j hj => he j (by omega))
  | succ y ih =>
    intro k g lv e hy hk hS he l0 l1 l2 l3
    by_cases hkk : (k : Int) < m
    · skip
      refine t_0 ycy_2 rfl (ld_i l3) ?_
      refine t_0 ycy_3 rfl (ld_i l2) ?_
      refine tb_ge ycy_4 (by decide) ⟨by omega, by omega⟩ ⟨by omega, by omega⟩ (fun c1 => absurd c1 (by omega)) (fun c1 => ?_)
      show t_X d 179 7 lv [] g P
      refine t_0 ycy_7 rfl (ld_a l1) ?_
      refine t_0 ycy_8 rfl (ld_i l3) ?_
      refine t_0 ycy_9 rfl (ld_a l0) ?_
      refine t_0 ycy_10 rfl (ld_i l3) ?_
      have r9 : 0 ≤ c ((k : Int)).toNat ∧ c ((k : Int)).toNat ≤ 31 := hc k (by omega)
      have r2 := pb_a (S_J hS).1 ez_213 (j := (k : Int).toNat) (by omega) gu_213 (show fA g 213 = c from S_a hS 0 (Nat.le_of_ble_eq_true rfl))
      refine t_0 ycy_11 rfl (pq_iv ez_213 rfl ⟨by omega, by omega⟩ (show fA g 213 = c from S_a hS 0 (Nat.le_of_ble_eq_true rfl))) ?_
      show t_X d 179 12 lv [oI (c ((k : Int).toNat)), oI ((k : Int)), pvR 212] g P
      refine ts_a (n := 1) rfl rfl (by decide) ycy_12 hS ez_212 rfl wu_nV_212 gu_212 (by decide) ⟨by omega, by omega⟩ ⟨by omega, by omega⟩ (fun g3 hS3 => ?_)
      replace hS3 : sE nvk nva nV h0 g3 [p, m, s, f, w7, w4, n] [c, updI e (k : Int).toNat (c ((k : Int).toNat))] := hS3
      show t_X d 179 13 lv [] g3 P
      refine t_2 ycy_13 rfl (w := (px_s1 lv 3 (oI ((k : Int) + 1)), [])) (pq_inc l3 (by decide)) ?_
      replace l0 : px_lg (px_s1 lv 3 (oI ((k : Int) + 1))) 0 = some (pvR 213) := s1_ne (by decide) (fun _ => rfl) l0
      replace l1 : px_lg (px_s1 lv 3 (oI ((k : Int) + 1))) 1 = some (pvR 212) := s1_ne (by decide) (fun _ => rfl) l1
      replace l2 : px_lg (px_s1 lv 3 (oI ((k : Int) + 1))) 2 = some (oI (m)) := s1_ne (by decide) (fun _ => rfl) l2
      have l3 : px_lg (px_s1 lv 3 (oI ((k : Int) + 1))) 3 = some (oI ((k : Int) + 1)) := s1_eq
      generalize px_s1 lv 3 (oI ((k : Int) + 1)) = lv4 at l0 l1 l2 l3 ⊢
      show t_X d 179 16 lv4 [] g3 P
      refine t_1 ycy_16 rfl (pb_goto (pc := 16) (by decide)) ?_
      show t_X d 179 2 lv4 [] g3 P
      refine ih (k + 1) _ _ (by omega) (by omega) hS3 (fun j hj => ?_) l0 l1 l2 (l3.trans (congrArg (fun x => some (oI x)) (by omega)))
      unfold updI
      by_cases q : j = k
      · rw [if_pos (by omega), q]; rfl
      · rw [if_neg (by omega)]; exact he j (by omega)
    · skip
      refine t_0 ycy_2 rfl (ld_i l3) ?_
      refine t_0 ycy_3 rfl (ld_i l2) ?_
      refine tb_ge ycy_4 (by decide) ⟨by omega, by omega⟩ ⟨by omega, by omega⟩ (fun c1 => ?_) (fun c1 => absurd c1 (by omega))
      show t_X d 179 19 lv [] g P
      refine t_5 ycy_19 rfl rfl ?_
      exact hP _ _ hS (fun j hj => he j (by omega))
set_option maxHeartbeats 2000000 in
theorem m_o0 {d : Nat} (hd : 1 ≤ d) {h0 g : pH} {p m s f w7 w4 n : Int} {c e : tC} (hS : sE nvk nva nV h0 g [p, m, s, f, w7, w4, n] [c, e]) (hm : 0 ≤ m ∧ m ≤ 60) (hp : 0 ≤ n ∧ n ≤ p ∧ p ≤ 1000 ∧ s = 0) (hc : ∀ j : Nat, (j : Int) < m → 0 ≤ c j ∧ c j ≤ 31) {P : Option pv × pH → Prop} (hP : ∀ (g1 : pH) (e1 : tC), J_ nV h0 g1 → cF g1 196 17 = 0 → cF g1 196 24 = m → fA g1 212 = e1 → (∀ j : Nat, (j : Int) < m → e1 j = c j) → P (some (oI m), g1)) {lv : List (Nat × pv)} (l0 : px_lg lv 0 = some (pvR 196)) (l2 : px_lg lv 2 = some (oI 1)) : t_X d 264 45 lv [] g P := by
  refine t_0 yty_45 rfl (ld_i l2) ?_
  refine tz_eq yty_46 (by decide) ⟨by omega, by omega⟩ (fun c1 => absurd c1 (by omega)) (fun c1 => ?_)
  show t_X d 264 49 lv [] g P
  refine t_0 yty_49 rfl (ld_a l0) ?_
  refine t_0 yty_50 rfl (pq_cv eo_196 rfl (show cF g 196 18 = p from S_f hS 0 (Nat.le_of_ble_eq_true rfl))) ?_
  show t_X d 264 53 lv [oI (p)] g P
  refine t_0 yty_53 rfl (ld_a l0) ?_
  refine t_0 yty_54 rfl (pq_cv eo_196 rfl (show cF g 196 19 = n from S_f hS 6 (Nat.le_of_ble_eq_true rfl))) ?_
  show t_X d 264 57 lv [oI (n), oI (p)] g P
  refine tb_lt yty_57 (by decide) ⟨by omega, by omega⟩ ⟨by omega, by omega⟩ (fun c2 => absurd c2 (by omega)) (fun c2 => ?_)
  show t_X d 264 60 lv [] g P
  refine t_0 yty_60 rfl (ld_a l0) ?_
  refine t_0 yty_61 rfl (pq_cv eo_196 rfl (show cF g 196 26 = s from S_f hS 2 (Nat.le_of_ble_eq_true rfl))) ?_
  show t_X d 264 64 lv [oI (s)] g P
  refine tz_le yty_64 (by decide) ⟨by omega, by omega⟩ (fun c3 => ?_) (fun c3 => absurd c3 (by omega))
  show t_X d 264 92 lv [] g P
  refine t_0 yty_92 rfl (ld_a l0) ?_
  refine t_0 yty_93 rfl rfl ?_
  refine ts_f (n := 4) rfl rfl (by decide) yty_94 rfl eo_196 hS wt_nV_196_17 gy_196_17 (by decide) ⟨by omega, by omega⟩ (fun g4 hS4 => ?_)
  replace hS4 : sE nvk nva nV h0 g4 [p, m, s, f, 0, w4, n] [c, e] := hS4
  show t_X d 264 97 lv [] g4 P
  refine t_0 yty_97 rfl (ld_i l2) ?_
  refine tz_ne yty_98 (by decide) ⟨by omega, by omega⟩ (fun c5 => ?_) (fun c5 => absurd c5 (by omega))
  show t_X d 264 106 lv [] g4 P
  refine t_0 yty_106 rfl (ld_a l0) ?_
  refine t_0 yty_107 rfl (ld_a l0) ?_
  refine t_0 yty_108 rfl (pq_cv eo_196 rfl (show cF g4 196 25 = m from S_f hS4 1 (Nat.le_of_ble_eq_true rfl))) ?_
  show t_X d 264 111 lv [oI (m), pvR 196] g4 P
  refine ts_f (n := 5) rfl rfl (by decide) yty_111 rfl eo_196 hS4 wt_nV_196_24 gy_196_24 (by decide) ⟨by omega, by omega⟩ (fun g6 hS6 => ?_)
  replace hS6 : sE nvk nva nV h0 g6 [p, m, s, f, 0, m, n] [c, e] := hS6
  show t_X d 264 114 lv [] g6 P
  refine t_0 yty_114 rfl (ld_a l0) ?_
  refine t_0 yty_115 rfl (cq_196_28 (S_J hS6).1) ?_
  show t_X d 264 118 lv [pvR 213] g6 P
  refine t_0 yty_118 rfl (ld_a l0) ?_
  refine t_0 yty_119 rfl (cq_196_27 (S_J hS6).1) ?_
  show t_X d 264 122 lv [pvR 212, pvR 213] g6 P
  refine t_0 yty_122 rfl (ld_a l0) ?_
  refine t_0 yty_123 rfl (pq_cv eo_196 rfl (show cF g6 196 25 = m from S_f hS6 1 (Nat.le_of_ble_eq_true rfl))) ?_
  show t_X d 264 126 lv [oI (m), pvR 212, pvR 213] g6 P
  refine t_3 yty_126 rfl (ar := ([pvR 213, pvR 212, oI (m)], [])) (pcal_s ⟨Or.inl rfl, rfl, Nat.le_of_ble_eq_true rfl⟩) ⟨by omega, Nat.le_of_ble_eq_true rfl, Nat.le_of_ble_eq_true rfl, rfl⟩ ?_
  refine t_0 ycy_0 rfl rfl ?_
  refine t_2 ycy_1 rfl (w := (px_s1 _ 3 (oI 0), [])) rfl ?_
  refine m_cy hm hc (fun g7 e7 hS7 x7 => ?_) 60 0 _ _ (by omega) (by omega) hS6 (fun j hj => absurd hj (Nat.not_lt_zero _)) (s1_ne (by decide) (fun _ => rfl) rfl) (s1_ne (by decide) (fun _ => rfl) rfl) (s1_ne (by decide) (fun _ => rfl) rfl) s1_eq
  show t_X d 264 129 lv [] g7 P
  refine t_0 yty_129 rfl (ld_a l0) ?_
  refine t_0 yty_130 rfl (pq_cv eo_196 rfl (show cF g7 196 25 = m from S_f hS7 1 (Nat.le_of_ble_eq_true rfl))) ?_
  show t_X d 264 133 lv [oI (m)] g7 P
  refine t_5 yty_133 rfl rfl ?_
  exact hP _ _ (S_J hS7) (S_f hS7 4 (Nat.le_of_ble_eq_true rfl)) (S_f hS7 5 (Nat.le_of_ble_eq_true rfl)) (S_a hS7 1 (Nat.le_of_ble_eq_true rfl)) x7
theorem m_ok {d : Nat} (hd : 1 ≤ d) {h0 g0 : pH} {B : tC} {n : Int} (hB : nB g0 B n) (hJ : J_ nV h0 g0) {P : Option pv × pH → Prop} {p m : Int} {c : tC} (hm : 0 ≤ m ∧ m ≤ 60) (hp : n ≤ p ∧ p ≤ 1000) (hP : ∀ g1 : pH, J_ nV h0 g1 → cF g1 196 17 = 0 → cF g1 196 24 = m → (∀ j : Nat, (j : Int) < m → fA g1 212 j = c j) → P (some (oI m), g1)) {g : pH} (hg : nSt g0 g p m c []) : mAt d P g := by
  intro lv l0 l2
  obtain ⟨ft, u, c2, gf, ga, hS, hc, hT⟩ := hg
  have h1 : sE nvk nva nV h0 g [cF g 196 18, cF g 196 25, cF g 196 26, cF g 196 20, cF g 196 17, cF g 196 24, cF g 196 19] [fA g 213, fA g 212] := S_1 (J_up nV_b.1 hJ (S_J hS))
  rw [(show cF g 196 18 = p from S_f hS 0 (Nat.le_of_ble_eq_true rfl)), (show cF g 196 25 = m from S_f hS 1 (Nat.le_of_ble_eq_true rfl)), (show cF g 196 26 = ((([] : List (Int × Int)).length : Nat) : Int) from S_f hS 2 (Nat.le_of_ble_eq_true rfl)), (show fA g 213 = c2 from S_a hS 0 (Nat.le_of_ble_eq_true rfl)), ne_l hB hS] at h1
  have hn0 := hB.2.2.1
  refine m_o0 hd h1 hm ⟨hn0, hp.1, hp.2, rfl⟩ (fun j hj => (hc j hj).2) (fun g1 e1 J1 x1 x2 x3 x4 => hP g1 J1 x1 x2 (fun j hj => by rw [x3, x4 j hj, (hc j hj).1])) l0 l2
set_option maxHeartbeats 4000000 in
theorem mt_run {d : Nat} (hd : 8 ≤ d) {h0 : pH} {v0 v1 v2 v3 v4 v5 v6 : Int} {e0 e1 : tC} (hS0 : sE nvk nva nV h0 h0 [v0, v1, v2, v3, v4, v5, v6] [e0, e1]) (hv : 0 ≤ v4 ∧ v4 ≤ 260) {n : Int} (hn : -2147483648 ≤ n ∧ n ≤ 2147483647) {B c0 : tC} (hT : tpR B (fA h0 211)) {r : tR} {P : Option pv × pH → Prop} (hR : ¬ (1 ≤ n ∧ n ≤ 120 ∧ n ≤ v4) → P (some (oI (-1)), h0)) (hr0 : (1 ≤ n ∧ n ≤ 120 ∧ n ≤ v4) → tIs (tH B n) n 0 0 0 c0 r) (hF : ∀ f, r = .inl f → (1 ≤ n ∧ n ≤ 120 ∧ n ≤ v4) → ∀ g1 : pH, J_ nV h0 g1 → cF g1 196 17 = 0 → cF g1 196 24 = v5 → fA g1 212 = e1 → P (some (oI f), g1)) (hO : ∀ p1 m1 c1, r = .inr (p1, m1, c1) → (1 ≤ n ∧ n ≤ 120 ∧ n ≤ v4) → (0 ≤ p1 ∧ p1 ≤ n) ∧ (0 ≤ m1 ∧ m1 ≤ 60) ∧ (p1 < n → ∀ g1 : pH, J_ nV h0 g1 → cF g1 196 17 = 0 → cF g1 196 24 = v5 → fA g1 212 = e1 → P (some (oI (-1000 - p1)), g1)) ∧ (n ≤ p1 → ∀ g1 : pH, J_ nV h0 g1 → cF g1 196 17 = 0 → cF g1 196 24 = m1 → (∀ j : Nat, (j : Int) < m1 → fA g1 212 j = c1 j) → P (some (oI m1), g1))) {lv : List (Nat × pv)} (l0 : px_lg lv 0 = some (pvR 196)) (l1 : px_lg lv 1 = some (oI n)) : t_X d 264 0 lv [] h0 P := by
  refine t_0 yty_0 rfl (ld_i l1) ?_
  refine t_0 yty_1 rfl rfl ?_
  refine t_0 yty_2 rfl (pq_b (by decide)) ?_
  refine t_3 yty_4 rfl (ar := ([oI (n), oI 1, oI 120], [])) (pcal_s ⟨Or.inl rfl, rfl, Nat.le_of_ble_eq_true rfl⟩) ⟨by omega, Nat.le_of_ble_eq_true rfl, Nat.le_of_ble_eq_true rfl, rfl⟩ ?_
  refine in_run ⟨by omega, by omega⟩ ⟨by omega, by omega⟩ ⟨by omega, by omega⟩ rfl rfl rfl (fun t21 => ?_) (fun t21 => ?_)
  · show t_X d 264 7 lv [oI 1] h0 P
    refine tz_eq yty_7 (by decide) ⟨by omega, by omega⟩ (fun c22 => absurd c22 (by omega)) (fun c22 => ?_)
    show t_X d 264 10 lv [] h0 P
    refine t_0 yty_10 rfl (ld_i l1) ?_
    refine t_0 yty_11 rfl (ld_a l0) ?_
    refine t_0 yty_12 rfl (pq_cv eo_196 rfl (show cF h0 196 17 = v4 from S_f hS0 4 (Nat.le_of_ble_eq_true rfl))) ?_
    show t_X d 264 15 lv [oI (v4), oI (n)] h0 P
    refine tb_le yty_15 (by decide) ⟨by omega, by omega⟩ ⟨by omega, by omega⟩ (fun c23 => ?_) (fun c23 => ?_)
    · show t_X d 264 20 lv [] h0 P
      refine t_0 yty_20 rfl (ld_a l0) ?_
      refine t_0 yty_21 rfl rfl ?_
      refine ts_f (n := 0) rfl rfl (by decide) yty_22 rfl eo_196 hS0 wt_nV_196_18 gy_196_18 (by decide) ⟨by omega, by omega⟩ (fun g24 hS24 => ?_)
      replace hS24 : sE nvk nva nV h0 g24 [0, v1, v2, v3, v4, v5, v6] [e0, e1] := hS24
      show t_X d 264 25 lv [] g24 P
      refine t_0 yty_25 rfl (ld_a l0) ?_
      refine t_0 yty_26 rfl (ld_i l1) ?_
      refine ts_f (n := 6) rfl rfl (by decide) yty_27 rfl eo_196 hS24 wt_nV_196_19 gy_196_19 (by decide) ⟨by omega, by omega⟩ (fun g25 hS25 => ?_)
      replace hS25 : sE nvk nva nV h0 g25 [0, v1, v2, v3, v4, v5, n] [e0, e1] := hS25
      show t_X d 264 30 lv [] g25 P
      refine t_0 yty_30 rfl (ld_a l0) ?_
      refine t_0 yty_31 rfl rfl ?_
      refine ts_f (n := 1) rfl rfl (by decide) yty_32 rfl eo_196 hS25 wt_nV_196_25 gy_196_25 (by decide) ⟨by omega, by omega⟩ (fun g26 hS26 => ?_)
      replace hS26 : sE nvk nva nV h0 g26 [0, 0, v2, v3, v4, v5, n] [e0, e1] := hS26
      show t_X d 264 35 lv [] g26 P
      refine t_0 yty_35 rfl (ld_a l0) ?_
      refine t_0 yty_36 rfl rfl ?_
      refine ts_f (n := 2) rfl rfl (by decide) yty_37 rfl eo_196 hS26 wt_nV_196_26 gy_196_26 (by decide) ⟨by omega, by omega⟩ (fun g27 hS27 => ?_)
      replace hS27 : sE nvk nva nV h0 g27 [0, 0, 0, v3, v4, v5, n] [e0, e1] := hS27
      show t_X d 264 40 lv [] g27 P
      refine t_0 yty_40 rfl (ld_a l0) ?_
      have hJ := S_J hS27
      have hB : nB g27 B n := ⟨S_f hS27 6 (Nat.le_of_ble_eq_true rfl), (by rw [fA_M hJ.2 nV_b.2.1]; exact hT), by omega, by omega⟩
      have hS : nS g27 g27 (cF g27 196 18) (cF g27 196 25) (cF g27 196 26) (cF g27 196 20) (cF g27 196 21) (fA g27 213) (fA g27 214) (fA g27 215) := S_0 hJ.1
      rw [(show cF g27 196 18 = 0 from S_f hS27 0 (Nat.le_of_ble_eq_true rfl)), (show cF g27 196 25 = 0 from S_f hS27 1 (Nat.le_of_ble_eq_true rfl)), (show cF g27 196 26 = 0 from S_f hS27 2 (Nat.le_of_ble_eq_true rfl))] at hS
      refine t_3 yty_41 rfl (ar := ([pvR 196], [])) (pcal_w (as := []) rfl rfl rfl eo_196) ⟨by omega, Nat.le_of_ble_eq_true rfl, Nat.le_of_ble_eq_true rfl, rfl⟩ ?_
      have hQ : mQo g27 d P (fun o => t_X d 264 44 lv (o.1.toList ++ []) o.2 P) := by
        refine ⟨fun g9 a9 => ?_, fun g9 a9 => ?_⟩
        · show t_X d 264 44 lv [oI 1] g9 P
          refine t_2 yty_44 rfl (w := (px_s1 lv 2 (oI 1), [])) rfl ?_
          replace l0 : px_lg (px_s1 lv 2 (oI 1)) 0 = some (pvR 196) := s1_ne (by decide) (fun _ => rfl) l0
          replace l1 : px_lg (px_s1 lv 2 (oI 1)) 1 = some (oI (n)) := s1_ne (by decide) (fun _ => rfl) l1
          have l2 : px_lg (px_s1 lv 2 (oI 1)) 2 = some (oI 1) := s1_eq
          generalize px_s1 lv 2 (oI 1) = lv28 at l0 l1 l2 ⊢
          show t_X d 264 45 lv28 [] g9 P
          exact a9 _ l0 l2
        · show t_X d 264 44 lv [oI 0] g9 P
          refine t_2 yty_44 rfl (w := (px_s1 lv 2 (oI 0), [])) rfl ?_
          replace l0 : px_lg (px_s1 lv 2 (oI 0)) 0 = some (pvR 196) := s1_ne (by decide) (fun _ => rfl) l0
          replace l1 : px_lg (px_s1 lv 2 (oI 0)) 1 = some (oI (n)) := s1_ne (by decide) (fun _ => rfl) l1
          have l2 : px_lg (px_s1 lv 2 (oI 0)) 2 = some (oI 0) := s1_eq
          generalize px_s1 lv 2 (oI 0) = lv29 at l0 l1 l2 ⊢
          show t_X d 264 45 lv29 [] g9 P
          exact a9 _ l0 l2
      have hr := hr0 (by omega)
      have hq := hr (mI (tH B n) g27 d P true) (mI (tH B n) g27 d P false) (m_cl hB (by omega))
      have hg : nSt g27 g27 0 0 c0 [] := ⟨_, _, _, _, _, hS, fun j hj => absurd hj (by omega), trivial⟩
      rcases r with f | ⟨p1, m1, c1⟩
      · exact hq (m_fi hJ (fun g9 x1 x2 x3 x4 => hF f rfl (by omega) g9 x1 x2 (x3.trans (S_f hS27 5 (Nat.le_of_ble_eq_true rfl))) (x4.trans (S_a hS27 1 (Nat.le_of_ble_eq_true rfl))))) [] rfl (by omega) _ hQ _ _ hg rfl
      · have hQ9 := hO p1 m1 c1 rfl (by omega)
        refine hq.2 [] rfl (by omega) (m_c0 hB (by omega) hQ9.1 (Or.inr rfl) (fun g8 h8 => ?_)) _ hQ _ _ hg rfl
        by_cases q : p1 < n
        · exact m_a0 hB (by omega) hQ9.1 (hq.1 rfl) (Or.inl q) (m_fi hJ (fun g9 x1 x2 x3 x4 => hQ9.2.2.1 q g9 x1 x2 (x3.trans (S_f hS27 5 (Nat.le_of_ble_eq_true rfl))) (x4.trans (S_a hS27 1 (Nat.le_of_ble_eq_true rfl))))) h8
        · exact m_ok (by omega) hB hJ hQ9.2.1 ⟨by omega, by omega⟩ (hQ9.2.2.2 (by omega)) h8
    · show t_X d 264 18 lv [] h0 P
      refine t_0 yty_18 rfl rfl ?_
      refine t_5 yty_19 rfl rfl ?_
      exact hR (by omega)
  · show t_X d 264 7 lv [oI 0] h0 P
    refine tz_eq yty_7 (by decide) ⟨by omega, by omega⟩ (fun c30 => ?_) (fun c30 => absurd c30 (by omega))
    show t_X d 264 18 lv [] h0 P
    refine t_0 yty_18 rfl rfl ?_
    refine t_5 yty_19 rfl rfl ?_
    exact hR (by omega)
theorem pk_150 : tN150.testBit (cn 211) = false ∧ tX150.testBit (cn 211) = false ∧ tN150.testBit (cn 196 + 17) = false ∧ tX150.testBit (cn 196 + 17) = false := by decide +kernel
theorem pt_150 {g : pH} (hG : g_I eG g) (hR : R0 g) (hr : g.2.2.1 0 6 = some 150) {K2 : Nat} (hr5 : g.2.2.1 0 5 = some K2) (hk2 : K2 = 150 ∨ K2 = 152) (x1 : Int32) : t_X 99 157 0 (px_ar 0 [pvR 0, .inl x1]) [] g (fun o => ∃ v, o.1 = some v ∧ t_X 99 264 0 (px_ar 0 [pvR 196, .inl x1]) [] o.2 (fun o2 => o2.1 = some v)) := by
  have hb := cb_0_1 hG
  have hl := hR.2
  have hT := hR.1.2.1
  have key : ∀ (W : Nat) (g1 : pH), J_ W g g1 → W.testBit (cn 211) = false → W.testBit (cn 196 + 17) = false → ∀ (r : tR) (c0 : tC) (z : Int), ((1 ≤ x1.toInt ∧ x1.toInt ≤ 120 ∧ x1.toInt ≤ cF g 0 1) → tIs (tH (fA g 1) x1.toInt) x1.toInt 0 0 0 c0 r) → (∀ f, r = .inl f → z = f) → (∀ p1 m1 c1, r = .inr (p1, m1, c1) → (0 ≤ p1 ∧ p1 ≤ x1.toInt) ∧ (0 ≤ m1 ∧ m1 ≤ 60) ∧ (p1 < x1.toInt → z = -1000 - p1) ∧ (x1.toInt ≤ p1 → z = m1)) → (¬ (1 ≤ x1.toInt ∧ x1.toInt ≤ 120 ∧ x1.toInt ≤ cF g 0 1) → z = -1) → t_X 99 264 0 (px_ar 0 [pvR 196, .inl x1]) [] g1 (fun o2 => o2.1 = some (oI z)) := by
    intro W g1 J1 w1 w2 r c0 z hr hF hO hZ
    have e17 : cF g1 196 17 = cF g 0 1 := (cF_M J1.2 w2).trans hl.symm
    have hS0 : sE nvk nva nV g1 g1 [cF g1 196 18, cF g1 196 25, cF g1 196 26, cF g1 196 20, cF g1 196 17, cF g1 196 24, cF g1 196 19] [fA g1 213, fA g1 212] := S_0 J1.1
    refine mt_run (by decide) hS0 (by omega) (i32_b x1) (B := fA g 1) (c0 := c0) (r := r) (by rw [fA_M J1.2 w1]; exact hT) (fun h => ?_) (fun h => hr (by rw [e17] at h; exact h)) (fun f e _ g2 _ _ _ _ => ?_) (fun p1 m1 c1 e _ => ?_) rfl (congrArg some (oI_r x1))
    · rw [e17] at h
      rw [hZ h]
    · rw [hF f e]
    · have q := hO p1 m1 c1 e
      exact ⟨q.1, q.2.1, fun h g2 _ _ _ _ => by rw [q.2.2.1 h], fun h g2 _ _ _ _ => by rw [q.2.2.2 h]⟩
  have hS : sE thk [] 0 g g [cF g 0 1] [] := S_0 hG
  refine tr150_run (by decide) hS hb hr hr5 hk2 (i32_b x1) (fun h => ?_) (fun h g1 f c J1 _ u1 hx => ?_) (fun h g1 p m c c1 J1 _ y0 y1 y2 hx => ?_) (fun h g1 m c c1 J1 _ _ _ _ _ hm hx => ?_) rfl (congrArg some (oI_r x1))
  · exact ⟨_, rfl, key 0 g (J_rf hG) (Nat.zero_testBit _) (Nat.zero_testBit _) (.inl (-1)) (fun _ => 0) (-1) (fun z => absurd z h) (fun f e => by cases e; rfl) (fun p1 m1 c1 e => by cases e) (fun _ => rfl)⟩
  · exact ⟨_, rfl, key _ g1 J1 pk_150.1 pk_150.2.2.1 (.inl f) c f (fun _ => hx) (fun f' e => by cases e; rfl) (fun p1 m1 c1 e => by cases e) (fun z => absurd h z)⟩
  · exact ⟨_, rfl, key _ g1 J1 pk_150.1 pk_150.2.2.1 (.inr (p, m, c1)) c (-1000 - p) (fun _ => hx) (fun f' e => by cases e) (fun p1 m1 c2 e => by cases e; exact ⟨⟨y0, by omega⟩, y2, fun _ => rfl, fun z => absurd z (by omega)⟩) (fun z => absurd h z)⟩
  · exact ⟨_, rfl, key _ g1 J1 pk_150.2.1 pk_150.2.2.2 (.inr (x1.toInt, m, c1)) c m (fun _ => hx) (fun f' e => by cases e) (fun p1 m1 c2 e => by cases e; exact ⟨⟨by omega, by omega⟩, ⟨by omega, hm.2⟩, fun z => absurd z (by omega), fun _ => rfl⟩) (fun z => absurd h z)⟩
theorem pk_152 : tN152.testBit (cn 211) = false ∧ tX152.testBit (cn 211) = false ∧ tN152.testBit (cn 196 + 17) = false ∧ tX152.testBit (cn 196 + 17) = false := by decide +kernel
theorem pt_152 {g : pH} (hG : g_I eG g) (hR : R0 g) (hr : g.2.2.1 0 6 = some 152) {K2 : Nat} (hr5 : g.2.2.1 0 5 = some K2) (hk2 : K2 = 150 ∨ K2 = 152) (x1 : Int32) : t_X 99 157 0 (px_ar 0 [pvR 0, .inl x1]) [] g (fun o => ∃ v, o.1 = some v ∧ t_X 99 264 0 (px_ar 0 [pvR 196, .inl x1]) [] o.2 (fun o2 => o2.1 = some v)) := by
  have hb := cb_0_1 hG
  have hl := hR.2
  have hT := hR.1.2.1
  have key : ∀ (W : Nat) (g1 : pH), J_ W g g1 → W.testBit (cn 211) = false → W.testBit (cn 196 + 17) = false → ∀ (r : tR) (c0 : tC) (z : Int), ((1 ≤ x1.toInt ∧ x1.toInt ≤ 120 ∧ x1.toInt ≤ cF g 0 1) → tIs (tH (fA g 1) x1.toInt) x1.toInt 0 0 0 c0 r) → (∀ f, r = .inl f → z = f) → (∀ p1 m1 c1, r = .inr (p1, m1, c1) → (0 ≤ p1 ∧ p1 ≤ x1.toInt) ∧ (0 ≤ m1 ∧ m1 ≤ 60) ∧ (p1 < x1.toInt → z = -1000 - p1) ∧ (x1.toInt ≤ p1 → z = m1)) → (¬ (1 ≤ x1.toInt ∧ x1.toInt ≤ 120 ∧ x1.toInt ≤ cF g 0 1) → z = -1) → t_X 99 264 0 (px_ar 0 [pvR 196, .inl x1]) [] g1 (fun o2 => o2.1 = some (oI z)) := by
    intro W g1 J1 w1 w2 r c0 z hr hF hO hZ
    have e17 : cF g1 196 17 = cF g 0 1 := (cF_M J1.2 w2).trans hl.symm
    have hS0 : sE nvk nva nV g1 g1 [cF g1 196 18, cF g1 196 25, cF g1 196 26, cF g1 196 20, cF g1 196 17, cF g1 196 24, cF g1 196 19] [fA g1 213, fA g1 212] := S_0 J1.1
    refine mt_run (by decide) hS0 (by omega) (i32_b x1) (B := fA g 1) (c0 := c0) (r := r) (by rw [fA_M J1.2 w1]; exact hT) (fun h => ?_) (fun h => hr (by rw [e17] at h; exact h)) (fun f e _ g2 _ _ _ _ => ?_) (fun p1 m1 c1 e _ => ?_) rfl (congrArg some (oI_r x1))
    · rw [e17] at h
      rw [hZ h]
    · rw [hF f e]
    · have q := hO p1 m1 c1 e
      exact ⟨q.1, q.2.1, fun h g2 _ _ _ _ => by rw [q.2.2.1 h], fun h g2 _ _ _ _ => by rw [q.2.2.2 h]⟩
  have hS : sE thk [] 0 g g [cF g 0 1] [] := S_0 hG
  refine tr152_run (by decide) hS hb hr hr5 hk2 (i32_b x1) (fun h => ?_) (fun h g1 f c J1 _ u1 hx => ?_) (fun h g1 p m c c1 J1 _ y0 y1 y2 hx => ?_) (fun h g1 m c c1 J1 _ _ _ _ _ hm hx => ?_) rfl (congrArg some (oI_r x1))
  · exact ⟨_, rfl, key 0 g (J_rf hG) (Nat.zero_testBit _) (Nat.zero_testBit _) (.inl (-1)) (fun _ => 0) (-1) (fun z => absurd z h) (fun f e => by cases e; rfl) (fun p1 m1 c1 e => by cases e) (fun _ => rfl)⟩
  · exact ⟨_, rfl, key _ g1 J1 pk_152.1 pk_152.2.2.1 (.inl f) c f (fun _ => hx) (fun f' e => by cases e; rfl) (fun p1 m1 c1 e => by cases e) (fun z => absurd h z)⟩
  · exact ⟨_, rfl, key _ g1 J1 pk_152.1 pk_152.2.2.1 (.inr (p, m, c1)) c (-1000 - p) (fun _ => hx) (fun f' e => by cases e) (fun p1 m1 c2 e => by cases e; exact ⟨⟨y0, by omega⟩, y2, fun _ => rfl, fun z => absurd z (by omega)⟩) (fun z => absurd h z)⟩
  · exact ⟨_, rfl, key _ g1 J1 pk_152.2.1 pk_152.2.2.2 (.inr (x1.toInt, m, c1)) c m (fun _ => hx) (fun f' e => by cases e) (fun p1 m1 c2 e => by cases e; exact ⟨⟨by omega, by omega⟩, ⟨by omega, hm.2⟩, fun z => absurd z (by omega), fun _ => rfl⟩) (fun z => absurd h z)⟩
