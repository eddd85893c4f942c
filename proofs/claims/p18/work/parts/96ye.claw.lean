/-! class: the law's text, exactly: the whole (printed by wip/e2/v4.py) -/
theorem vcr_0 : xe_look (xc 31) 0 = some (.aload_n 0, 1, 0, 0, 0) := by decide +kernel
theorem vcr_1 : xe_look (xc 31) 1 = some (.iconst 0, 1, 0, 0, 0) := by decide +kernel
theorem vcr_2 : xe_look (xc 31) 2 = some (.putfield 33, 3, 3, 0, 835) := by decide +kernel
theorem vcr_5 : xe_look (xc 31) 5 = some (.aload_n 0, 1, 0, 0, 0) := by decide +kernel
theorem vcr_6 : xe_look (xc 31) 6 = some (.iconst 0, 1, 0, 0, 0) := by decide +kernel
theorem vcr_7 : xe_look (xc 31) 7 = some (.putfield 37, 3, 3, 1, 836) := by decide +kernel
theorem vcr_10 : xe_look (xc 31) 10 = some (.return_, 1, 0, 0, 0) := by decide +kernel
theorem vla9_0 : xe_look (xc 129) 0 = some (.aload_n 0, 1, 0, 0, 0) := by decide +kernel
theorem vla9_1 : xe_look (xc 129) 1 = some (.iload_n 1, 1, 0, 0, 0) := by decide +kernel
theorem vla9_2 : xe_look (xc 129) 2 = some (.iconst 1, 1, 0, 0, 0) := by decide +kernel
theorem vla9_3 : xe_look (xc 129) 3 = some (.sipush 240, 3, 0, 0, 0) := by decide +kernel
theorem vla9_6 : xe_look (xc 129) 6 = some (.invokevirtual 152, 3, 0, 151, 985) := by decide +kernel
theorem vla9_9 : xe_look (xc 129) 9 = some (.ifCond .ne 5, 3, 0, 0, 0) := by decide +kernel
theorem vla9_12 : xe_look (xc 129) 12 = some (.iconst (-1), 1, 0, 0, 0) := by decide +kernel
theorem vla9_13 : xe_look (xc 129) 13 = some (.ireturn, 1, 0, 0, 0) := by decide +kernel
theorem vla9_14 : xe_look (xc 129) 14 = some (.aload_n 0, 1, 0, 0, 0) := by decide +kernel
theorem vla9_15 : xe_look (xc 129) 15 = some (.getfield 49, 3, 11, 7, 1038) := by decide +kernel
theorem vla9_18 : xe_look (xc 129) 18 = some (.aload_n 0, 1, 0, 0, 0) := by decide +kernel
theorem vla9_19 : xe_look (xc 129) 19 = some (.getfield 9, 3, 11, 0, 982) := by decide +kernel
theorem vla9_22 : xe_look (xc 129) 22 = some (.iload_n 1, 1, 0, 0, 0) := by decide +kernel
theorem vla9_23 : xe_look (xc 129) 23 = some (.aload_n 0, 1, 0, 0, 0) := by decide +kernel
theorem vla9_24 : xe_look (xc 129) 24 = some (.getfield 36, 3, 11, 8, 1003) := by decide +kernel
theorem vla9_27 : xe_look (xc 129) 27 = some (.getfield 42, 3, 2, 1, 1036) := by decide +kernel
theorem vla9_30 : xe_look (xc 129) 30 = some (.invokevirtual 159, 3, 0, 46, 1053) := by decide +kernel
theorem vla9_33 : xe_look (xc 129) 33 = some (.istore_n 2, 1, 0, 0, 0) := by decide +kernel
theorem vla9_34 : xe_look (xc 129) 34 = some (.aload_n 0, 1, 0, 0, 0) := by decide +kernel
theorem vla9_35 : xe_look (xc 129) 35 = some (.iconst 0, 1, 0, 0, 0) := by decide +kernel
theorem vla9_36 : xe_look (xc 129) 36 = some (.putfield 81, 3, 11, 1, 981) := by decide +kernel
theorem vla9_39 : xe_look (xc 129) 39 = some (.iload_n 2, 1, 0, 0, 0) := by decide +kernel
theorem vla9_40 : xe_look (xc 129) 40 = some (.ifCond .le 10, 3, 0, 0, 0) := by decide +kernel
theorem vla9_43 : xe_look (xc 129) 43 = some (.aload_n 0, 1, 0, 0, 0) := by decide +kernel
theorem vla9_44 : xe_look (xc 129) 44 = some (.getfield 36, 3, 11, 8, 1003) := by decide +kernel
theorem vla9_47 : xe_look (xc 129) 47 = some (.invokevirtual 162, 3, 0, 30, 1054) := by decide +kernel
theorem vla9_50 : xe_look (xc 129) 50 = some (.iload_n 2, 1, 0, 0, 0) := by decide +kernel
theorem vla9_51 : xe_look (xc 129) 51 = some (.ireturn, 1, 0, 0, 0) := by decide +kernel
theorem vrd_0 : xe_look (xc 46) 0 = some (.aload_n 0, 1, 0, 0, 0) := by decide +kernel
theorem vrd_1 : xe_look (xc 46) 1 = some (.aload_n 1, 1, 0, 0, 0) := by decide +kernel
theorem vrd_2 : xe_look (xc 46) 2 = some (.putfield 9, 3, 4, 0, 855) := by decide +kernel
theorem vrd_5 : xe_look (xc 46) 5 = some (.aload_n 0, 1, 0, 0, 0) := by decide +kernel
theorem vrd_6 : xe_look (xc 46) 6 = some (.iload_n 2, 1, 0, 0, 0) := by decide +kernel
theorem vrd_7 : xe_look (xc 46) 7 = some (.aload_n 1, 1, 0, 0, 0) := by decide +kernel
theorem vrd_8 : xe_look (xc 46) 8 = some (.arraylength, 1, 0, 0, 0) := by decide +kernel
theorem vrd_9 : xe_look (xc 46) 9 = some (.invokestatic 19, 3, 3, 0, 857) := by decide +kernel
theorem vrd_12 : xe_look (xc 46) 12 = some (.putfield 25, 3, 4, 1, 858) := by decide +kernel
theorem vrd_15 : xe_look (xc 46) 15 = some (.aload_n 0, 1, 0, 0, 0) := by decide +kernel
theorem vrd_16 : xe_look (xc 46) 16 = some (.iconst 0, 1, 0, 0, 0) := by decide +kernel
theorem vrd_17 : xe_look (xc 46) 17 = some (.putfield 29, 3, 4, 2, 853) := by decide +kernel
theorem vrd_20 : xe_look (xc 46) 20 = some (.aload_n 0, 1, 0, 0, 0) := by decide +kernel
theorem vrd_21 : xe_look (xc 46) 21 = some (.iconst 0, 1, 0, 0, 0) := by decide +kernel
theorem vrd_22 : xe_look (xc 46) 22 = some (.putfield 32, 3, 4, 3, 850) := by decide +kernel
theorem vrd_25 : xe_look (xc 46) 25 = some (.aload_n 0, 1, 0, 0, 0) := by decide +kernel
theorem vrd_26 : xe_look (xc 46) 26 = some (.aload_n 3, 1, 0, 0, 0) := by decide +kernel
theorem vrd_27 : xe_look (xc 46) 27 = some (.putfield 15, 3, 4, 4, 856) := by decide +kernel
theorem vrd_30 : xe_look (xc 46) 30 = some (.aload_n 0, 1, 0, 0, 0) := by decide +kernel
theorem vrd_31 : xe_look (xc 46) 31 = some (.getfield 15, 3, 4, 4, 856) := by decide +kernel
theorem vrd_34 : xe_look (xc 46) 34 = some (.invokevirtual 35, 3, 0, 31, 859) := by decide +kernel
theorem vrd_37 : xe_look (xc 46) 37 = some (.iconst 1, 1, 0, 0, 0) := by decide +kernel
theorem vrd_38 : xe_look (xc 46) 38 = some (.istore 4, 2, 0, 0, 0) := by decide +kernel
theorem vrd_40 : xe_look (xc 46) 40 = some (.iconst 0, 1, 0, 0, 0) := by decide +kernel
theorem vrd_41 : xe_look (xc 46) 41 = some (.istore 5, 2, 0, 0, 0) := by decide +kernel
theorem vrd_43 : xe_look (xc 46) 43 = some (.iload 5, 2, 0, 0, 0) := by decide +kernel
theorem vrd_45 : xe_look (xc 46) 45 = some (.bipush 16, 2, 0, 0, 0) := by decide +kernel
theorem vrd_47 : xe_look (xc 46) 47 = some (.if_icmp .gt 54, 3, 0, 0, 0) := by decide +kernel
theorem vrd_50 : xe_look (xc 46) 50 = some (.iload 4, 2, 0, 0, 0) := by decide +kernel
theorem vrd_52 : xe_look (xc 46) 52 = some (.ifCond .eq 49, 3, 0, 0, 0) := by decide +kernel
theorem vrd_55 : xe_look (xc 46) 55 = some (.aload_n 0, 1, 0, 0, 0) := by decide +kernel
theorem vrd_56 : xe_look (xc 46) 56 = some (.invokevirtual 40, 3, 0, 47, 860) := by decide +kernel
theorem vrd_59 : xe_look (xc 46) 59 = some (.aload_n 0, 1, 0, 0, 0) := by decide +kernel
theorem vrd_60 : xe_look (xc 46) 60 = some (.getfield 32, 3, 4, 3, 850) := by decide +kernel
theorem vrd_63 : xe_look (xc 46) 63 = some (.ifCond .ne 18, 3, 0, 0, 0) := by decide +kernel
theorem vrd_66 : xe_look (xc 46) 66 = some (.aload_n 0, 1, 0, 0, 0) := by decide +kernel
theorem vrd_67 : xe_look (xc 46) 67 = some (.getfield 29, 3, 4, 2, 853) := by decide +kernel
theorem vrd_70 : xe_look (xc 46) 70 = some (.aload_n 0, 1, 0, 0, 0) := by decide +kernel
theorem vrd_71 : xe_look (xc 46) 71 = some (.getfield 25, 3, 4, 1, 858) := by decide +kernel
theorem vrd_74 : xe_look (xc 46) 74 = some (.if_icmp .ge 7, 3, 0, 0, 0) := by decide +kernel
theorem vrd_77 : xe_look (xc 46) 77 = some (.iconst 1, 1, 0, 0, 0) := by decide +kernel
theorem vrd_78 : xe_look (xc 46) 78 = some (.goto 4, 3, 0, 0, 0) := by decide +kernel
theorem vrd_81 : xe_look (xc 46) 81 = some (.iconst 0, 1, 0, 0, 0) := by decide +kernel
theorem vrd_82 : xe_look (xc 46) 82 = some (.istore 4, 2, 0, 0, 0) := by decide +kernel
theorem vrd_84 : xe_look (xc 46) 84 = some (.iload 4, 2, 0, 0, 0) := by decide +kernel
theorem vrd_86 : xe_look (xc 46) 86 = some (.ifCond .eq 9, 3, 0, 0, 0) := by decide +kernel
theorem vrd_89 : xe_look (xc 46) 89 = some (.aload_n 0, 1, 0, 0, 0) := by decide +kernel
theorem vrd_90 : xe_look (xc 46) 90 = some (.bipush 59, 2, 0, 0, 0) := by decide +kernel
theorem vrd_92 : xe_look (xc 46) 92 = some (.invokevirtual 43, 3, 0, 41, 861) := by decide +kernel
theorem vrd_95 : xe_look (xc 46) 95 = some (.iinc 5 1, 3, 0, 0, 0) := by decide +kernel
theorem vrd_98 : xe_look (xc 46) 98 = some (.goto (-55), 3, 0, 0, 0) := by decide +kernel
theorem vrd_101 : xe_look (xc 46) 101 = some (.aload_n 0, 1, 0, 0, 0) := by decide +kernel
theorem vrd_102 : xe_look (xc 46) 102 = some (.getfield 32, 3, 4, 3, 850) := by decide +kernel
theorem vrd_105 : xe_look (xc 46) 105 = some (.ifCond .ne 13, 3, 0, 0, 0) := by decide +kernel
theorem vrd_108 : xe_look (xc 46) 108 = some (.aload_n 0, 1, 0, 0, 0) := by decide +kernel
theorem vrd_109 : xe_look (xc 46) 109 = some (.getfield 15, 3, 4, 4, 856) := by decide +kernel
theorem vrd_112 : xe_look (xc 46) 112 = some (.getfield 47, 3, 3, 0, 862) := by decide +kernel
theorem vrd_115 : xe_look (xc 46) 115 = some (.goto 7, 3, 0, 0, 0) := by decide +kernel
theorem vrd_118 : xe_look (xc 46) 118 = some (.aload_n 0, 1, 0, 0, 0) := by decide +kernel
theorem vrd_119 : xe_look (xc 46) 119 = some (.getfield 32, 3, 4, 3, 850) := by decide +kernel
theorem vrd_122 : xe_look (xc 46) 122 = some (.ireturn, 1, 0, 0, 0) := by decide +kernel
theorem vus_0 : xe_look (xc 30) 0 = some (.aload_n 0, 1, 0, 0, 0) := by decide +kernel
theorem vus_1 : xe_look (xc 30) 1 = some (.getfield 12, 3, 2, 0, 821) := by decide +kernel
theorem vus_4 : xe_look (xc 30) 4 = some (.astore_n 1, 1, 0, 0, 0) := by decide +kernel
theorem vus_5 : xe_look (xc 30) 5 = some (.aload_n 0, 1, 0, 0, 0) := by decide +kernel
theorem vus_6 : xe_look (xc 30) 6 = some (.aload_n 0, 1, 0, 0, 0) := by decide +kernel
theorem vus_7 : xe_look (xc 30) 7 = some (.getfield 18, 3, 2, 1, 827) := by decide +kernel
theorem vus_10 : xe_look (xc 30) 10 = some (.putfield 12, 3, 2, 0, 821) := by decide +kernel
theorem vus_13 : xe_look (xc 30) 13 = some (.aload_n 0, 1, 0, 0, 0) := by decide +kernel
theorem vus_14 : xe_look (xc 30) 14 = some (.aload_n 1, 1, 0, 0, 0) := by decide +kernel
theorem vus_15 : xe_look (xc 30) 15 = some (.putfield 18, 3, 2, 1, 827) := by decide +kernel
theorem vus_18 : xe_look (xc 30) 18 = some (.return_, 1, 0, 0, 0) := by decide +kernel
theorem ylh_0 : xe_look (xc 151) 0 = some (.iload_n 1, 1, 0, 0, 0) := by decide +kernel
theorem ylh_1 : xe_look (xc 151) 1 = some (.iload_n 2, 1, 0, 0, 0) := by decide +kernel
theorem ylh_2 : xe_look (xc 151) 2 = some (.if_icmp .lt 20, 3, 0, 0, 0) := by decide +kernel
theorem ylh_5 : xe_look (xc 151) 5 = some (.iload_n 1, 1, 0, 0, 0) := by decide +kernel
theorem ylh_6 : xe_look (xc 151) 6 = some (.iload_n 3, 1, 0, 0, 0) := by decide +kernel
theorem ylh_7 : xe_look (xc 151) 7 = some (.if_icmp .gt 15, 3, 0, 0, 0) := by decide +kernel
theorem ylh_10 : xe_look (xc 151) 10 = some (.iload_n 1, 1, 0, 0, 0) := by decide +kernel
theorem ylh_11 : xe_look (xc 151) 11 = some (.aload_n 0, 1, 0, 0, 0) := by decide +kernel
theorem ylh_12 : xe_look (xc 151) 12 = some (.getfield 81, 3, 11, 1, 981) := by decide +kernel
theorem ylh_15 : xe_look (xc 151) 15 = some (.if_icmp .gt 7, 3, 0, 0, 0) := by decide +kernel
theorem ylh_18 : xe_look (xc 151) 18 = some (.iconst 1, 1, 0, 0, 0) := by decide +kernel
theorem ylh_19 : xe_look (xc 151) 19 = some (.goto 4, 3, 0, 0, 0) := by decide +kernel
theorem ylh_22 : xe_look (xc 151) 22 = some (.iconst 0, 1, 0, 0, 0) := by decide +kernel
theorem ylh_23 : xe_look (xc 151) 23 = some (.ireturn, 1, 0, 0, 0) := by decide +kernel
def lX (K : Nat) : Nat := lW K + 2 ^ (cn 154 + 0) + 2 ^ (cn 154 + 1) + 2 ^ (cn 154 + 4)
def lrk (K : Nat) : List (Nat × Nat) := [(154, 2), (154, 3), (K, 1), (K, 0), (154, 1)]
theorem gz_154 : eG (cn 154 + 0) = (0, 100000, [2, 156]) ∧ eG (cn 154 + 4) = (0, 100000, [157, 166]) ∧ eG (cn 154 + 1) = (0, 240, []) := by decide +kernel
theorem lr_f0 {K : Nat} (hK : lK K) : sEf (lrk K) 154 2 0 = true := by rcases hK with rfl | rfl <;> decide +kernel
theorem lr_w0 {K : Nat} (hK : lK K) : (lX K).testBit (cn 154 + 2) = true := by rcases hK with rfl | rfl <;> decide +kernel
theorem lr_f1 {K : Nat} (hK : lK K) : sEf (lrk K) 154 3 1 = true := by rcases hK with rfl | rfl <;> decide +kernel
theorem lr_w1 {K : Nat} (hK : lK K) : (lX K).testBit (cn 154 + 3) = true := by rcases hK with rfl | rfl <;> decide +kernel
theorem lr_f2 {K : Nat} (hK : lK K) : sEf (lrk K) K 1 2 = true := by rcases hK with rfl | rfl <;> decide +kernel
theorem lr_w2 {K : Nat} (hK : lK K) : (lX K).testBit (cn K + 1) = true := by rcases hK with rfl | rfl <;> decide +kernel
theorem lr_f3 {K : Nat} (hK : lK K) : sEf (lrk K) K 0 3 = true := by rcases hK with rfl | rfl <;> decide +kernel
theorem lr_w3 {K : Nat} (hK : lK K) : (lX K).testBit (cn K + 0) = true := by rcases hK with rfl | rfl <;> decide +kernel
theorem lr_f4 {K : Nat} (hK : lK K) : sEf (lrk K) 154 1 4 = true := by rcases hK with rfl | rfl <;> decide +kernel
theorem lr_w4 {K : Nat} (hK : lK K) : (lX K).testBit (cn 154 + 1) = true := by rcases hK with rfl | rfl <;> decide +kernel
theorem lr_n {K : Nat} (hK : lK K) : (lX K).testBit (cn 154 + 0) = true ∧ (lX K).testBit (cn 154 + 4) = true ∧ (lX K).testBit (cn 1) = false ∧ lW K &&& lX K = lW K := by rcases hK with rfl | rfl <;> decide +kernel
def lNk (K : Nat) : Nat := lX K + 2 ^ (cn 0 + 1)
def lOk (K : Nat) : Nat := lNk K + 2 ^ (cn 164 + 0) + 2 ^ (cn 164 + 1)
def ltk (K : Nat) : List (Nat × Nat) := [(0, 1), (K, 0)]
theorem gz_164 : eG (cn 164 + 0) = (0, 100000, [157, 166]) ∧ eG (cn 164 + 1) = (0, 100000, [157, 166]) ∧ eG (cn 0 + 1) = (0, 260, []) := by decide +kernel
theorem el_164 : eL[164]? = some (0, 2) := by decide +kernel
theorem sp_3 {g : pH} (hG : g_I eG g) : (g.2.2.1 164 0 = some 156 ∨ g.2.2.1 164 0 = some 165) ∧ (g.2.2.1 164 1 = some 156 ∨ g.2.2.1 164 1 = some 165) := by
  have f : ∀ {y : Nat}, (eG (cn 164 + y)).2.2 = [157, 166] → ok_v (cv (.inr (.inr (g.2.2.1 164 y)))) (eG (cn 164 + y)) → g.2.2.1 164 y = some 156 ∨ g.2.2.1 164 y = some 165 := fun {y} h1 h2 => by
    have h3 := h2.2.2
    rw [h1] at h3
    rcases h3 with h3 | h3
    · cases h3
    cases q : g.2.2.1 164 y with
    | none =>
      rw [q] at h3
      exact absurd h3 (by decide)
    | some k =>
      rw [q] at h3
      have h4 : ((k : Int) + 1).toNat ∈ [157, 166] := h3
      rcases List.mem_cons.mp h4 with h4 | h4
      · exact Or.inl (by rw [show k = 156 by omega])
      · have h4 := List.mem_singleton.mp h4
        exact Or.inr (by rw [show k = 165 by omega])
  have e5 := (hG 164 (0, 2) el_164).1 rfl 0 (Nat.le_of_ble_eq_true rfl)
  have e6 := (hG 164 (0, 2) el_164).1 rfl 1 (Nat.le_of_ble_eq_true rfl)
  exact ⟨f (by decide +kernel) (by rw [pFo (x := 2) (y := 0) rfl] at e5; exact e5), f (by decide +kernel) (by rw [pFo (x := 2) (y := 1) rfl] at e6; exact e6)⟩
theorem ln_b {K : Nat} (hK : lK K) : lX K &&& lNk K = lX K ∧ lNk K &&& lOk K = lNk K ∧ (lNk K).testBit (cn 0 + 1) = true ∧ (lOk K).testBit (cn 0 + 1) = true ∧ (lOk K).testBit (cn 164 + 0) = true ∧ (lOk K).testBit (cn 164 + 1) = true ∧ (lX K).testBit (cn 164 + 0) = false ∧ (lX K).testBit (cn 164 + 1) = false ∧ lX K &&& lOk K = lX K := by rcases hK with rfl | rfl <;> decide +kernel
theorem lt_f0 {K : Nat} (hK : lK K) : sEf (ltk K) 0 1 0 = true := by rcases hK with rfl | rfl <;> decide +kernel
def lhk : List (Nat × Nat) := [(0, 1)]
theorem leo_0 : eL[0]? = some (0, 11) := by decide +kernel
theorem leo_164 : eL[164]? = some (0, 2) := by decide +kernel
theorem lch_0_0 : (eG (cn 0 + 0)).2.2 = [2] := by decide +kernel
theorem lcq_0_0 {d i : Nat} {lv : List (Nat × pv)} {r : List pv} {g : pH} (hG : g_I eG g) : px_push eL d none (.getfield i) 11 0 lv (pvR 0 :: r) g = some (pvR 1 :: r) := pget leo_0 (gI_r (r := 1) hG leo_0 (Nat.le_of_ble_eq_true rfl) (y := 0) rfl lch_0_0)
theorem lch_0_7 : (eG (cn 0 + 7)).2.2 = [155] := by decide +kernel
theorem lcq_0_7 {d i : Nat} {lv : List (Nat × pv)} {r : List pv} {g : pH} (hG : g_I eG g) : px_push eL d none (.getfield i) 11 7 lv (pvR 0 :: r) g = some (pvR 154 :: r) := pget leo_0 (gI_o (r := 154) hG leo_0 (Nat.le_of_ble_eq_true rfl) (y := 7) rfl lch_0_7)
theorem lch_0_8 : (eG (cn 0 + 8)).2.2 = [165] := by decide +kernel
theorem lcq_0_8 {d i : Nat} {lv : List (Nat × pv)} {r : List pv} {g : pH} (hG : g_I eG g) : px_push eL d none (.getfield i) 11 8 lv (pvR 0 :: r) g = some (pvR 164 :: r) := pget leo_0 (gI_o (r := 164) hG leo_0 (Nat.le_of_ble_eq_true rfl) (y := 8) rfl lch_0_8)
theorem vrd_z {d : Nat} {K : Nat} (hK : lK K) {g0 g : pH} {B : tC} {n : Int} (hB : lB K g0 B n) {p f k c : Int} {o v le st co en : tC} (hS : lS K g0 g p f k c o v le st co en) (hf0 : f < 0) {j : Int} (hj : 0 ≤ j ∧ j ≤ 1000) {P : Option pv × pH → Prop} (hP : P (some (oI f), g)) {lv : List (Nat × pv)} (l0 : px_lg lv 0 = some (pvR 154)) (l4 : px_lg lv 4 = some (oI 0)) (l5 : px_lg lv 5 = some (oI j)) : t_X d 46 43 lv [] g P := by
  obtain ⟨hn, hp, hf, hk, hc, hH⟩ := lc_m hB hK hS
  refine t_0 vrd_43 rfl (ld_i l5) ?_
  refine t_0 vrd_45 rfl (pq_b (by decide)) ?_
  refine tb_gt vrd_47 (by decide) ⟨by omega, by omega⟩ ⟨by omega, by omega⟩ (fun c1 => ?_) (fun c1 => ?_)
  · show t_X d 46 101 lv [] g P
    refine t_0 vrd_101 rfl (ld_a l0) ?_
    refine t_0 vrd_102 rfl (pq_cv leo_154 rfl (show cF g 154 3 = f from S_f hS 1 (Nat.le_of_ble_eq_true rfl))) ?_
    show t_X d 46 105 lv [oI (f)] g P
    refine tz_ne vrd_105 (by decide) ⟨by omega, by omega⟩ (fun c2 => ?_) (fun c2 => absurd c2 (by omega))
    show t_X d 46 118 lv [] g P
    refine t_0 vrd_118 rfl (ld_a l0) ?_
    refine t_0 vrd_119 rfl (pq_cv leo_154 rfl (show cF g 154 3 = f from S_f hS 1 (Nat.le_of_ble_eq_true rfl))) ?_
    show t_X d 46 122 lv [oI (f)] g P
    refine t_5 vrd_122 rfl rfl ?_
    exact hP
  · show t_X d 46 50 lv [] g P
    refine t_0 vrd_50 rfl (ld_i l4) ?_
    refine tz_eq vrd_52 (by decide) ⟨by omega, by omega⟩ (fun c3 => ?_) (fun c3 => absurd c3 (by omega))
    show t_X d 46 101 lv [] g P
    refine t_0 vrd_101 rfl (ld_a l0) ?_
    refine t_0 vrd_102 rfl (pq_cv leo_154 rfl (show cF g 154 3 = f from S_f hS 1 (Nat.le_of_ble_eq_true rfl))) ?_
    show t_X d 46 105 lv [oI (f)] g P
    refine tz_ne vrd_105 (by decide) ⟨by omega, by omega⟩ (fun c4 => ?_) (fun c4 => absurd c4 (by omega))
    show t_X d 46 118 lv [] g P
    refine t_0 vrd_118 rfl (ld_a l0) ?_
    refine t_0 vrd_119 rfl (pq_cv leo_154 rfl (show cF g 154 3 = f from S_f hS 1 (Nat.le_of_ble_eq_true rfl))) ?_
    show t_X d 46 122 lv [oI (f)] g P
    refine t_5 vrd_122 rfl rfl ?_
    exact hP
theorem vrd_y {d : Nat} {K : Nat} (hK : lK K) {g0 g : pH} {B : tC} {n : Int} (hB : lB K g0 B n) {p k c : Int} {o v le st co en : tC} (hS : lS K g0 g p 0 k c o v le st co en) {j : Int} (hj : 0 ≤ j ∧ j ≤ 1000) {P : Option pv × pH → Prop} (hP : P (some (oI c), g)) {lv : List (Nat × pv)} (l0 : px_lg lv 0 = some (pvR 154)) (l4 : px_lg lv 4 = some (oI 0)) (l5 : px_lg lv 5 = some (oI j)) : t_X d 46 43 lv [] g P := by
  obtain ⟨hn, hp, hf, hk, hc, hH⟩ := lc_m hB hK hS
  refine t_0 vrd_43 rfl (ld_i l5) ?_
  refine t_0 vrd_45 rfl (pq_b (by decide)) ?_
  refine tb_gt vrd_47 (by decide) ⟨by omega, by omega⟩ ⟨by omega, by omega⟩ (fun c1 => ?_) (fun c1 => ?_)
  · show t_X d 46 101 lv [] g P
    refine t_0 vrd_101 rfl (ld_a l0) ?_
    refine t_0 vrd_102 rfl (pq_cv leo_154 rfl (show cF g 154 3 = 0 from S_f hS 1 (Nat.le_of_ble_eq_true rfl))) ?_
    show t_X d 46 105 lv [oI 0] g P
    refine tz_ne vrd_105 (by decide) ⟨by omega, by omega⟩ (fun c2 => absurd c2 (by omega)) (fun c2 => ?_)
    show t_X d 46 108 lv [] g P
    refine t_0 vrd_108 rfl (ld_a l0) ?_
    refine t_0 vrd_109 rfl (pq_ro leo_154 rfl (lc_c hB hK hS)) ?_
    show t_X d 46 112 lv [pvR K] g P
    refine t_0 vrd_112 rfl (pq_cv (lk_e hK) rfl (show cF g K 0 = c from S_f hS 3 (Nat.le_of_ble_eq_true rfl))) ?_
    show t_X d 46 115 lv [oI (c)] g P
    refine t_1 vrd_115 rfl (pb_goto (pc := 115) (by decide)) ?_
    show t_X d 46 122 lv [oI (c)] g P
    refine t_5 vrd_122 rfl rfl ?_
    exact hP
  · show t_X d 46 50 lv [] g P
    refine t_0 vrd_50 rfl (ld_i l4) ?_
    refine tz_eq vrd_52 (by decide) ⟨by omega, by omega⟩ (fun c3 => ?_) (fun c3 => absurd c3 (by omega))
    show t_X d 46 101 lv [] g P
    refine t_0 vrd_101 rfl (ld_a l0) ?_
    refine t_0 vrd_102 rfl (pq_cv leo_154 rfl (show cF g 154 3 = 0 from S_f hS 1 (Nat.le_of_ble_eq_true rfl))) ?_
    show t_X d 46 105 lv [oI 0] g P
    refine tz_ne vrd_105 (by decide) ⟨by omega, by omega⟩ (fun c4 => absurd c4 (by omega)) (fun c4 => ?_)
    show t_X d 46 108 lv [] g P
    refine t_0 vrd_108 rfl (ld_a l0) ?_
    refine t_0 vrd_109 rfl (pq_ro leo_154 rfl (lc_c hB hK hS)) ?_
    show t_X d 46 112 lv [pvR K] g P
    refine t_0 vrd_112 rfl (pq_cv (lk_e hK) rfl (show cF g K 0 = c from S_f hS 3 (Nat.le_of_ble_eq_true rfl))) ?_
    show t_X d 46 115 lv [oI (c)] g P
    refine t_1 vrd_115 rfl (pb_goto (pc := 115) (by decide)) ?_
    show t_X d 46 122 lv [oI (c)] g P
    refine t_5 vrd_122 rfl rfl ?_
    exact hP
theorem vrd_f {d : Nat} {K : Nat} (hK : lK K) (hd : 11 ≤ d) {g0 g : pH} {B : tC} {n : Int} (hB : lB K g0 B n) {p f k c : Int} {o v le st co en : tC} (hS : lS K g0 g p f k c o v le st co en) (hf0 : f < 0) {j : Int} (hj : 0 ≤ j ∧ j ≤ 999) {P : Option pv × pH → Prop} (hP : ∀ (g1 : pH) (p1 k1 c1 : Int) (o1 v1 le1 st1 co1 en1 : tC), lS K g0 g1 p1 f k1 c1 o1 v1 le1 st1 co1 en1 → P (some (oI f), g1)) {lv : List (Nat × pv)} (l0 : px_lg lv 0 = some (pvR 154)) (l4 : px_lg lv 4 = some (oI 1)) (l5 : px_lg lv 5 = some (oI j)) : t_X d 46 43 lv [] g P := by
  obtain ⟨hn, hp, hf, hk, hc, hH⟩ := lc_m hB hK hS
  refine t_0 vrd_43 rfl (ld_i l5) ?_
  refine t_0 vrd_45 rfl (pq_b (by decide)) ?_
  refine tb_gt vrd_47 (by decide) ⟨by omega, by omega⟩ ⟨by omega, by omega⟩ (fun c1 => ?_) (fun c1 => ?_)
  · show t_X d 46 101 lv [] g P
    refine t_0 vrd_101 rfl (ld_a l0) ?_
    refine t_0 vrd_102 rfl (pq_cv leo_154 rfl (show cF g 154 3 = f from S_f hS 1 (Nat.le_of_ble_eq_true rfl))) ?_
    show t_X d 46 105 lv [oI (f)] g P
    refine tz_ne vrd_105 (by decide) ⟨by omega, by omega⟩ (fun c2 => ?_) (fun c2 => absurd c2 (by omega))
    show t_X d 46 118 lv [] g P
    refine t_0 vrd_118 rfl (ld_a l0) ?_
    refine t_0 vrd_119 rfl (pq_cv leo_154 rfl (show cF g 154 3 = f from S_f hS 1 (Nat.le_of_ble_eq_true rfl))) ?_
    show t_X d 46 122 lv [oI (f)] g P
    refine t_5 vrd_122 rfl rfl ?_
    exact hP _ _ _ _ _ _ _ _ _ _ hS
  · show t_X d 46 50 lv [] g P
    refine t_0 vrd_50 rfl (ld_i l4) ?_
    refine tz_eq vrd_52 (by decide) ⟨by omega, by omega⟩ (fun c3 => absurd c3 (by omega)) (fun c3 => ?_)
    show t_X d 46 55 lv [] g P
    refine t_0 vrd_55 rfl (ld_a l0) ?_
    refine t_3 vrd_56 rfl (ar := ([pvR 154], [])) (pcal_w (as := []) rfl rfl rfl leo_154) ⟨by omega, Nat.le_of_ble_eq_true rfl, Nat.le_of_ble_eq_true rfl, rfl⟩ ?_
    refine vcl_n hK (by omega) hB hS hf0 (fun g4 p4 k4 c4 o4 v4 le4 st4 co4 en4 hS4 => ?_) rfl
    replace hS4 : lS K g0 g4 p4 f k4 c4 o4 v4 le4 st4 co4 en4 := hS4
    show t_X d 46 59 lv [] g4 P
    refine t_0 vrd_59 rfl (ld_a l0) ?_
    refine t_0 vrd_60 rfl (pq_cv leo_154 rfl (show cF g4 154 3 = f from S_f hS4 1 (Nat.le_of_ble_eq_true rfl))) ?_
    show t_X d 46 63 lv [oI (f)] g4 P
    refine tz_ne vrd_63 (by decide) ⟨by omega, by omega⟩ (fun c5 => ?_) (fun c5 => absurd c5 (by omega))
    show t_X d 46 81 lv [] g4 P
    refine t_0 vrd_81 rfl rfl ?_
    refine t_2 vrd_82 rfl (w := (px_s1 lv 4 (oI 0), [])) rfl ?_
    replace l0 : px_lg (px_s1 lv 4 (oI 0)) 0 = some (pvR 154) := s1_ne (by decide) (fun _ => rfl) l0
    replace l5 : px_lg (px_s1 lv 4 (oI 0)) 5 = some (oI (j)) := s1_ne (by decide) (fun _ => rfl) l5
    have l4 : px_lg (px_s1 lv 4 (oI 0)) 4 = some (oI 0) := s1_eq
    generalize px_s1 lv 4 (oI 0) = lv6 at l0 l5 l4 ⊢
    show t_X d 46 84 lv6 [] g4 P
    refine t_0 vrd_84 rfl (ld_i l4) ?_
    refine tz_eq vrd_86 (by decide) ⟨by omega, by omega⟩ (fun c7 => ?_) (fun c7 => absurd c7 (by omega))
    show t_X d 46 95 lv6 [] g4 P
    refine t_2 vrd_95 rfl (w := (px_s1 lv6 5 (oI (j + 1)), [])) (pq_inc l5 (by decide)) ?_
    replace l0 : px_lg (px_s1 lv6 5 (oI (j + 1))) 0 = some (pvR 154) := s1_ne (by decide) (fun _ => rfl) l0
    replace l4 : px_lg (px_s1 lv6 5 (oI (j + 1))) 4 = some (oI 0) := s1_ne (by decide) (fun _ => rfl) l4
    have l5 : px_lg (px_s1 lv6 5 (oI (j + 1))) 5 = some (oI (j + 1)) := s1_eq
    generalize px_s1 lv6 5 (oI (j + 1)) = lv8 at l0 l4 l5 ⊢
    show t_X d 46 98 lv8 [] g4 P
    refine t_1 vrd_98 rfl (pb_goto (pc := 98) (by decide)) ?_
    show t_X d 46 43 lv8 [] g4 P
    exact vrd_z hK hB hS4 hf0 (by omega) (hP _ _ _ _ _ _ _ _ _ _ hS4) l0 l4 l5
set_option maxHeartbeats 4000000 in
theorem vrd_l {K : Nat} (hK : lK K) {g0 : pH} {B : tC} {n : Int} (hB : lB K g0 B n) {d : Nat} (hd : 54 ≤ d) : ∀ (y : Nat) (g : pH) (lv : List (Nat × pv)) (p k c : Int) (o v le st co en : tC) (P : Option pv × pH → Prop), 16 - c ≤ y → lS K g0 g p 0 k c o v le st co en → lP n p k → 0 ≤ c ∧ c ≤ 16 → (∀ (g1 : pH) (f p1 k1 c1 : Int) (o1 v1 le1 st1 co1 en1 : tC), lS K g0 g1 p1 f k1 c1 o1 v1 le1 st1 co1 en1 → f < 0 → lWs (tH B n) n p k o v c le st co en (.inl f) → P (some (oI f), g1)) → (∀ (g1 : pH) (k1 c1 : Int) (o1 v1 le1 st1 co1 en1 : tC), lS K g0 g1 n 0 k1 c1 o1 v1 le1 st1 co1 en1 → 1 ≤ c1 ∧ c1 ≤ 16 → lWs (tH B n) n p k o v c le st co en (.inr (n, k1, o1, v1, c1, le1, st1, co1, en1)) → P (some (oI c1), g1)) → px_lg lv 0 = some (pvR 154) → px_lg lv 4 = some (oI 1) → px_lg lv 5 = some (oI c) → t_X d 46 43 lv [] g P := by
  intro y
  induction y with
  | zero =>
    intro g lv p k c o v le st co en P hy hS hLP hcc hF hO l0 l4 l5
    obtain ⟨hn, hp, hf, hk, hc, hH⟩ := lc_m hB hK hS
    have hP := hLP
    unfold lP at hP
    refine t_0 vrd_43 rfl (ld_i l5) ?_
    refine t_0 vrd_45 rfl (pq_b (by decide)) ?_
    refine tb_gt vrd_47 (by decide) ⟨by omega, by omega⟩ ⟨by omega, by omega⟩ (fun c1 => absurd c1 (by omega)) (fun c1 => ?_)
    show t_X d 46 50 lv [] g P
    refine t_0 vrd_50 rfl (ld_i l4) ?_
    refine tz_eq vrd_52 (by decide) ⟨by omega, by omega⟩ (fun c2 => absurd c2 (by omega)) (fun c2 => ?_)
    show t_X d 46 55 lv [] g P
    refine t_0 vrd_55 rfl (ld_a l0) ?_
    refine t_3 vrd_56 rfl (ar := ([pvR 154], [])) (pcal_w (as := []) rfl rfl rfl leo_154) ⟨by omega, Nat.le_of_ble_eq_true rfl, Nat.le_of_ble_eq_true rfl, rfl⟩ ?_
    refine vcl_run hK (by omega) hB hS hLP (fun g3 f3 p3 k3 c3 o3 v3 le3 st3 co3 en3 hS3 u3 t3 => ?_) (fun g3 p3 k3 o3 v3 le3 st3 co3 en3 hS3 Q3 w3 t3 => ?_) rfl
    · replace hS3 : lS K g0 g3 p3 f3 k3 c3 o3 v3 le3 st3 co3 en3 := hS3
      have m3 := lc_m hB hK hS3
      show t_X d 46 59 lv [] g3 P
      refine t_0 vrd_59 rfl (ld_a l0) ?_
      refine t_0 vrd_60 rfl (pq_cv leo_154 rfl (show cF g3 154 3 = f3 from S_f hS3 1 (Nat.le_of_ble_eq_true rfl))) ?_
      show t_X d 46 63 lv [oI (f3)] g3 P
      refine tz_ne vrd_63 (by decide) ⟨by omega, by omega⟩ (fun c4 => ?_) (fun c4 => absurd c4 (by omega))
      show t_X d 46 81 lv [] g3 P
      refine t_0 vrd_81 rfl rfl ?_
      refine t_2 vrd_82 rfl (w := (px_s1 lv 4 (oI 0), [])) rfl ?_
      replace l0 : px_lg (px_s1 lv 4 (oI 0)) 0 = some (pvR 154) := s1_ne (by decide) (fun _ => rfl) l0
      replace l5 : px_lg (px_s1 lv 4 (oI 0)) 5 = some (oI (c)) := s1_ne (by decide) (fun _ => rfl) l5
      have l4 : px_lg (px_s1 lv 4 (oI 0)) 4 = some (oI 0) := s1_eq
      generalize px_s1 lv 4 (oI 0) = lv5 at l0 l5 l4 ⊢
      show t_X d 46 84 lv5 [] g3 P
      refine t_0 vrd_84 rfl (ld_i l4) ?_
      refine tz_eq vrd_86 (by decide) ⟨by omega, by omega⟩ (fun c6 => ?_) (fun c6 => absurd c6 (by omega))
      show t_X d 46 95 lv5 [] g3 P
      refine t_2 vrd_95 rfl (w := (px_s1 lv5 5 (oI (c + 1)), [])) (pq_inc l5 (by decide)) ?_
      replace l0 : px_lg (px_s1 lv5 5 (oI (c + 1))) 0 = some (pvR 154) := s1_ne (by decide) (fun _ => rfl) l0
      replace l4 : px_lg (px_s1 lv5 5 (oI (c + 1))) 4 = some (oI 0) := s1_ne (by decide) (fun _ => rfl) l4
      have l5 : px_lg (px_s1 lv5 5 (oI (c + 1))) 5 = some (oI (c + 1)) := s1_eq
      generalize px_s1 lv5 5 (oI (c + 1)) = lv7 at l0 l4 l5 ⊢
      show t_X d 46 98 lv7 [] g3 P
      refine t_1 vrd_98 rfl (pb_goto (pc := 98) (by decide)) ?_
      show t_X d 46 43 lv7 [] g3 P
      exact vrd_z hK hB hS3 (by omega) (by omega) (hF _ _ _ _ _ _ _ _ _ _ _ hS3 (by omega) (fun W hW => hW.1 _ _ _ _ _ _ _ _ _ _ hLP ⟨by omega, by omega⟩ t3)) l0 l4 l5
    · replace hS3 : lS K g0 g3 p3 0 k3 (c + 1) o3 v3 le3 st3 co3 en3 := hS3
      have m3 := lc_m hB hK hS3
      have R3 := Q3
      unfold lP at R3
      show t_X d 46 59 lv [] g3 P
      refine t_0 vrd_59 rfl (ld_a l0) ?_
      refine t_0 vrd_60 rfl (pq_cv leo_154 rfl (show cF g3 154 3 = 0 from S_f hS3 1 (Nat.le_of_ble_eq_true rfl))) ?_
      show t_X d 46 63 lv [oI 0] g3 P
      refine tz_ne vrd_63 (by decide) ⟨by omega, by omega⟩ (fun c8 => absurd c8 (by omega)) (fun c8 => ?_)
      show t_X d 46 66 lv [] g3 P
      refine t_0 vrd_66 rfl (ld_a l0) ?_
      refine t_0 vrd_67 rfl (pq_cv leo_154 rfl (show cF g3 154 2 = p3 from S_f hS3 0 (Nat.le_of_ble_eq_true rfl))) ?_
      show t_X d 46 70 lv [oI (p3)] g3 P
      refine t_0 vrd_70 rfl (ld_a l0) ?_
      refine t_0 vrd_71 rfl (pq_cv leo_154 rfl (lc_e hB hK hS3 : cF g3 154 1 = n)) ?_
      show t_X d 46 74 lv [oI (n), oI (p3)] g3 P
      refine tb_ge vrd_74 (by decide) ⟨by omega, by omega⟩ ⟨by omega, by omega⟩ (fun c9 => ?_) (fun c9 => ?_)
      · show t_X d 46 81 lv [] g3 P
        refine t_0 vrd_81 rfl rfl ?_
        refine t_2 vrd_82 rfl (w := (px_s1 lv 4 (oI 0), [])) rfl ?_
        replace l0 : px_lg (px_s1 lv 4 (oI 0)) 0 = some (pvR 154) := s1_ne (by decide) (fun _ => rfl) l0
        replace l5 : px_lg (px_s1 lv 4 (oI 0)) 5 = some (oI (c)) := s1_ne (by decide) (fun _ => rfl) l5
        have l4 : px_lg (px_s1 lv 4 (oI 0)) 4 = some (oI 0) := s1_eq
        generalize px_s1 lv 4 (oI 0) = lv10 at l0 l5 l4 ⊢
        show t_X d 46 84 lv10 [] g3 P
        refine t_0 vrd_84 rfl (ld_i l4) ?_
        refine tz_eq vrd_86 (by decide) ⟨by omega, by omega⟩ (fun c11 => ?_) (fun c11 => absurd c11 (by omega))
        show t_X d 46 95 lv10 [] g3 P
        refine t_2 vrd_95 rfl (w := (px_s1 lv10 5 (oI (c + 1)), [])) (pq_inc l5 (by decide)) ?_
        replace l0 : px_lg (px_s1 lv10 5 (oI (c + 1))) 0 = some (pvR 154) := s1_ne (by decide) (fun _ => rfl) l0
        replace l4 : px_lg (px_s1 lv10 5 (oI (c + 1))) 4 = some (oI 0) := s1_ne (by decide) (fun _ => rfl) l4
        have l5 : px_lg (px_s1 lv10 5 (oI (c + 1))) 5 = some (oI (c + 1)) := s1_eq
        generalize px_s1 lv10 5 (oI (c + 1)) = lv12 at l0 l4 l5 ⊢
        show t_X d 46 98 lv12 [] g3 P
        refine t_1 vrd_98 rfl (pb_goto (pc := 98) (by decide)) ?_
        show t_X d 46 43 lv12 [] g3 P
        have e9 : p3 = n := by omega
        subst e9
        exact vrd_y hK hB hS3 (by omega) (hO _ _ _ _ _ _ _ _ _ hS3 (by omega) (fun W hW => hW.2.1 _ _ _ _ _ _ _ _ _ _ _ _ _ _ _ _ _ _ hLP ⟨by omega, by omega⟩ t3 ⟨Q3, rfl⟩)) l0 l4 l5
      · show t_X d 46 77 lv [] g3 P
        refine t_0 vrd_77 rfl rfl ?_
        refine t_1 vrd_78 rfl (pb_goto (pc := 78) (by decide)) ?_
        show t_X d 46 82 lv [oI 1] g3 P
        refine t_2 vrd_82 rfl (w := (px_s1 lv 4 (oI 1), [])) rfl ?_
        replace l0 : px_lg (px_s1 lv 4 (oI 1)) 0 = some (pvR 154) := s1_ne (by decide) (fun _ => rfl) l0
        replace l5 : px_lg (px_s1 lv 4 (oI 1)) 5 = some (oI (c)) := s1_ne (by decide) (fun _ => rfl) l5
        have l4 : px_lg (px_s1 lv 4 (oI 1)) 4 = some (oI 1) := s1_eq
        generalize px_s1 lv 4 (oI 1) = lv13 at l0 l5 l4 ⊢
        show t_X d 46 84 lv13 [] g3 P
        refine t_0 vrd_84 rfl (ld_i l4) ?_
        refine tz_eq vrd_86 (by decide) ⟨by omega, by omega⟩ (fun c14 => absurd c14 (by omega)) (fun c14 => ?_)
        show t_X d 46 89 lv13 [] g3 P
        refine t_0 vrd_89 rfl (ld_a l0) ?_
        refine t_0 vrd_90 rfl (pq_b (by decide)) ?_
        refine t_3 vrd_92 rfl (ar := ([pvR 154, oI 59], [])) (pcal_w (as := [oI 59]) rfl rfl rfl leo_154) ⟨by omega, Nat.le_of_ble_eq_true rfl, Nat.le_of_ble_eq_true rfl, rfl⟩ ?_
        have b15 := hH p3 (by omega)
        have z15 := tH_n (B := B) (n := n) (p := p3)
        refine vex_run hK (by omega) hB hS3 ⟨by omega, by omega⟩ (fun t15 g15 hS15 => ?_) (fun t15 g15 hS15 => ?_) rfl rfl
        · replace hS15 : lS K g0 g15 (p3 + 1) 0 k3 (c + 1) o3 v3 le3 st3 co3 en3 := hS15
          show t_X d 46 95 lv13 [] g15 P
          refine t_2 vrd_95 rfl (w := (px_s1 lv13 5 (oI (c + 1)), [])) (pq_inc l5 (by decide)) ?_
          replace l0 : px_lg (px_s1 lv13 5 (oI (c + 1))) 0 = some (pvR 154) := s1_ne (by decide) (fun _ => rfl) l0
          replace l4 : px_lg (px_s1 lv13 5 (oI (c + 1))) 4 = some (oI 1) := s1_ne (by decide) (fun _ => rfl) l4
          have l5 : px_lg (px_s1 lv13 5 (oI (c + 1))) 5 = some (oI (c + 1)) := s1_eq
          generalize px_s1 lv13 5 (oI (c + 1)) = lv16 at l0 l4 l5 ⊢
          show t_X d 46 98 lv16 [] g15 P
          refine t_1 vrd_98 rfl (pb_goto (pc := 98) (by decide)) ?_
          show t_X d 46 43 lv16 [] g15 P
          exfalso
          omega
        · replace hS15 : lS K g0 g15 p3 (-1000 - p3) k3 (c + 1) o3 v3 le3 st3 co3 en3 := hS15
          show t_X d 46 95 lv13 [] g15 P
          refine t_2 vrd_95 rfl (w := (px_s1 lv13 5 (oI (c + 1)), [])) (pq_inc l5 (by decide)) ?_
          replace l0 : px_lg (px_s1 lv13 5 (oI (c + 1))) 0 = some (pvR 154) := s1_ne (by decide) (fun _ => rfl) l0
          replace l4 : px_lg (px_s1 lv13 5 (oI (c + 1))) 4 = some (oI 1) := s1_ne (by decide) (fun _ => rfl) l4
          have l5 : px_lg (px_s1 lv13 5 (oI (c + 1))) 5 = some (oI (c + 1)) := s1_eq
          generalize px_s1 lv13 5 (oI (c + 1)) = lv17 at l0 l4 l5 ⊢
          show t_X d 46 98 lv17 [] g15 P
          refine t_1 vrd_98 rfl (pb_goto (pc := 98) (by decide)) ?_
          show t_X d 46 43 lv17 [] g15 P
          exact vrd_f hK (by omega) hB hS15 (by omega) (by omega) (fun g9 p9 k9 c9 o9 v9 le9 st9 co9 en9 hS9 => hF _ _ _ _ _ _ _ _ _ _ _ hS9 (by omega) (fun W hW => hW.2.2.1 _ _ _ _ _ _ _ _ _ _ _ _ _ _ _ _ _ _ hLP ⟨by omega, by omega⟩ t3 ⟨Q3, by omega⟩ (by omega))) l0 l4 l5
  | succ y ih =>
    intro g lv p k c o v le st co en P hy hS hLP hcc hF hO l0 l4 l5
    obtain ⟨hn, hp, hf, hk, hc, hH⟩ := lc_m hB hK hS
    have hP := hLP
    unfold lP at hP
    refine t_0 vrd_43 rfl (ld_i l5) ?_
    refine t_0 vrd_45 rfl (pq_b (by decide)) ?_
    refine tb_gt vrd_47 (by decide) ⟨by omega, by omega⟩ ⟨by omega, by omega⟩ (fun c1 => absurd c1 (by omega)) (fun c1 => ?_)
    show t_X d 46 50 lv [] g P
    refine t_0 vrd_50 rfl (ld_i l4) ?_
    refine tz_eq vrd_52 (by decide) ⟨by omega, by omega⟩ (fun c2 => absurd c2 (by omega)) (fun c2 => ?_)
    show t_X d 46 55 lv [] g P
    refine t_0 vrd_55 rfl (ld_a l0) ?_
    refine t_3 vrd_56 rfl (ar := ([pvR 154], [])) (pcal_w (as := []) rfl rfl rfl leo_154) ⟨by omega, Nat.le_of_ble_eq_true rfl, Nat.le_of_ble_eq_true rfl, rfl⟩ ?_
    refine vcl_run hK (by omega) hB hS hLP (fun g3 f3 p3 k3 c3 o3 v3 le3 st3 co3 en3 hS3 u3 t3 => ?_) (fun g3 p3 k3 o3 v3 le3 st3 co3 en3 hS3 Q3 w3 t3 => ?_) rfl
    · replace hS3 : lS K g0 g3 p3 f3 k3 c3 o3 v3 le3 st3 co3 en3 := hS3
      have m3 := lc_m hB hK hS3
      show t_X d 46 59 lv [] g3 P
      refine t_0 vrd_59 rfl (ld_a l0) ?_
      refine t_0 vrd_60 rfl (pq_cv leo_154 rfl (show cF g3 154 3 = f3 from S_f hS3 1 (Nat.le_of_ble_eq_true rfl))) ?_
      show t_X d 46 63 lv [oI (f3)] g3 P
      refine tz_ne vrd_63 (by decide) ⟨by omega, by omega⟩ (fun c4 => ?_) (fun c4 => absurd c4 (by omega))
      show t_X d 46 81 lv [] g3 P
      refine t_0 vrd_81 rfl rfl ?_
      refine t_2 vrd_82 rfl (w := (px_s1 lv 4 (oI 0), [])) rfl ?_
      replace l0 : px_lg (px_s1 lv 4 (oI 0)) 0 = some (pvR 154) := s1_ne (by decide) (fun _ => rfl) l0
      replace l5 : px_lg (px_s1 lv 4 (oI 0)) 5 = some (oI (c)) := s1_ne (by decide) (fun _ => rfl) l5
      have l4 : px_lg (px_s1 lv 4 (oI 0)) 4 = some (oI 0) := s1_eq
      generalize px_s1 lv 4 (oI 0) = lv5 at l0 l5 l4 ⊢
      show t_X d 46 84 lv5 [] g3 P
      refine t_0 vrd_84 rfl (ld_i l4) ?_
      refine tz_eq vrd_86 (by decide) ⟨by omega, by omega⟩ (fun c6 => ?_) (fun c6 => absurd c6 (by omega))
      show t_X d 46 95 lv5 [] g3 P
      refine t_2 vrd_95 rfl (w := (px_s1 lv5 5 (oI (c + 1)), [])) (pq_inc l5 (by decide)) ?_
      replace l0 : px_lg (px_s1 lv5 5 (oI (c + 1))) 0 = some (pvR 154) := s1_ne (by decide) (fun _ => rfl) l0
      replace l4 : px_lg (px_s1 lv5 5 (oI (c + 1))) 4 = some (oI 0) := s1_ne (by decide) (fun _ => rfl) l4
      have l5 : px_lg (px_s1 lv5 5 (oI (c + 1))) 5 = some (oI (c + 1)) := s1_eq
      generalize px_s1 lv5 5 (oI (c + 1)) = lv7 at l0 l4 l5 ⊢
      show t_X d 46 98 lv7 [] g3 P
      refine t_1 vrd_98 rfl (pb_goto (pc := 98) (by decide)) ?_
      show t_X d 46 43 lv7 [] g3 P
      exact vrd_z hK hB hS3 (by omega) (by omega) (hF _ _ _ _ _ _ _ _ _ _ _ hS3 (by omega) (fun W hW => hW.1 _ _ _ _ _ _ _ _ _ _ hLP ⟨by omega, by omega⟩ t3)) l0 l4 l5
    · replace hS3 : lS K g0 g3 p3 0 k3 (c + 1) o3 v3 le3 st3 co3 en3 := hS3
      have m3 := lc_m hB hK hS3
      have R3 := Q3
      unfold lP at R3
      show t_X d 46 59 lv [] g3 P
      refine t_0 vrd_59 rfl (ld_a l0) ?_
      refine t_0 vrd_60 rfl (pq_cv leo_154 rfl (show cF g3 154 3 = 0 from S_f hS3 1 (Nat.le_of_ble_eq_true rfl))) ?_
      show t_X d 46 63 lv [oI 0] g3 P
      refine tz_ne vrd_63 (by decide) ⟨by omega, by omega⟩ (fun c8 => absurd c8 (by omega)) (fun c8 => ?_)
      show t_X d 46 66 lv [] g3 P
      refine t_0 vrd_66 rfl (ld_a l0) ?_
      refine t_0 vrd_67 rfl (pq_cv leo_154 rfl (show cF g3 154 2 = p3 from S_f hS3 0 (Nat.le_of_ble_eq_true rfl))) ?_
      show t_X d 46 70 lv [oI (p3)] g3 P
      refine t_0 vrd_70 rfl (ld_a l0) ?_
      refine t_0 vrd_71 rfl (pq_cv leo_154 rfl (lc_e hB hK hS3 : cF g3 154 1 = n)) ?_
      show t_X d 46 74 lv [oI (n), oI (p3)] g3 P
      refine tb_ge vrd_74 (by decide) ⟨by omega, by omega⟩ ⟨by omega, by omega⟩ (fun c9 => ?_) (fun c9 => ?_)
      · show t_X d 46 81 lv [] g3 P
        refine t_0 vrd_81 rfl rfl ?_
        refine t_2 vrd_82 rfl (w := (px_s1 lv 4 (oI 0), [])) rfl ?_
        replace l0 : px_lg (px_s1 lv 4 (oI 0)) 0 = some (pvR 154) := s1_ne (by decide) (fun _ => rfl) l0
        replace l5 : px_lg (px_s1 lv 4 (oI 0)) 5 = some (oI (c)) := s1_ne (by decide) (fun _ => rfl) l5
        have l4 : px_lg (px_s1 lv 4 (oI 0)) 4 = some (oI 0) := s1_eq
        generalize px_s1 lv 4 (oI 0) = lv10 at l0 l5 l4 ⊢
        show t_X d 46 84 lv10 [] g3 P
        refine t_0 vrd_84 rfl (ld_i l4) ?_
        refine tz_eq vrd_86 (by decide) ⟨by omega, by omega⟩ (fun c11 => ?_) (fun c11 => absurd c11 (by omega))
        show t_X d 46 95 lv10 [] g3 P
        refine t_2 vrd_95 rfl (w := (px_s1 lv10 5 (oI (c + 1)), [])) (pq_inc l5 (by decide)) ?_
        replace l0 : px_lg (px_s1 lv10 5 (oI (c + 1))) 0 = some (pvR 154) := s1_ne (by decide) (fun _ => rfl) l0
        replace l4 : px_lg (px_s1 lv10 5 (oI (c + 1))) 4 = some (oI 0) := s1_ne (by decide) (fun _ => rfl) l4
        have l5 : px_lg (px_s1 lv10 5 (oI (c + 1))) 5 = some (oI (c + 1)) := s1_eq
        generalize px_s1 lv10 5 (oI (c + 1)) = lv12 at l0 l4 l5 ⊢
        show t_X d 46 98 lv12 [] g3 P
        refine t_1 vrd_98 rfl (pb_goto (pc := 98) (by decide)) ?_
        show t_X d 46 43 lv12 [] g3 P
        have e9 : p3 = n := by omega
        subst e9
        exact vrd_y hK hB hS3 (by omega) (hO _ _ _ _ _ _ _ _ _ hS3 (by omega) (fun W hW => hW.2.1 _ _ _ _ _ _ _ _ _ _ _ _ _ _ _ _ _ _ hLP ⟨by omega, by omega⟩ t3 ⟨Q3, rfl⟩)) l0 l4 l5
      · show t_X d 46 77 lv [] g3 P
        refine t_0 vrd_77 rfl rfl ?_
        refine t_1 vrd_78 rfl (pb_goto (pc := 78) (by decide)) ?_
        show t_X d 46 82 lv [oI 1] g3 P
        refine t_2 vrd_82 rfl (w := (px_s1 lv 4 (oI 1), [])) rfl ?_
        replace l0 : px_lg (px_s1 lv 4 (oI 1)) 0 = some (pvR 154) := s1_ne (by decide) (fun _ => rfl) l0
        replace l5 : px_lg (px_s1 lv 4 (oI 1)) 5 = some (oI (c)) := s1_ne (by decide) (fun _ => rfl) l5
        have l4 : px_lg (px_s1 lv 4 (oI 1)) 4 = some (oI 1) := s1_eq
        generalize px_s1 lv 4 (oI 1) = lv13 at l0 l5 l4 ⊢
        show t_X d 46 84 lv13 [] g3 P
        refine t_0 vrd_84 rfl (ld_i l4) ?_
        refine tz_eq vrd_86 (by decide) ⟨by omega, by omega⟩ (fun c14 => absurd c14 (by omega)) (fun c14 => ?_)
        show t_X d 46 89 lv13 [] g3 P
        refine t_0 vrd_89 rfl (ld_a l0) ?_
        refine t_0 vrd_90 rfl (pq_b (by decide)) ?_
        refine t_3 vrd_92 rfl (ar := ([pvR 154, oI 59], [])) (pcal_w (as := [oI 59]) rfl rfl rfl leo_154) ⟨by omega, Nat.le_of_ble_eq_true rfl, Nat.le_of_ble_eq_true rfl, rfl⟩ ?_
        have b15 := hH p3 (by omega)
        have z15 := tH_n (B := B) (n := n) (p := p3)
        refine vex_run hK (by omega) hB hS3 ⟨by omega, by omega⟩ (fun t15 g15 hS15 => ?_) (fun t15 g15 hS15 => ?_) rfl rfl
        · replace hS15 : lS K g0 g15 (p3 + 1) 0 k3 (c + 1) o3 v3 le3 st3 co3 en3 := hS15
          show t_X d 46 95 lv13 [] g15 P
          refine t_2 vrd_95 rfl (w := (px_s1 lv13 5 (oI (c + 1)), [])) (pq_inc l5 (by decide)) ?_
          replace l0 : px_lg (px_s1 lv13 5 (oI (c + 1))) 0 = some (pvR 154) := s1_ne (by decide) (fun _ => rfl) l0
          replace l4 : px_lg (px_s1 lv13 5 (oI (c + 1))) 4 = some (oI 1) := s1_ne (by decide) (fun _ => rfl) l4
          have l5 : px_lg (px_s1 lv13 5 (oI (c + 1))) 5 = some (oI (c + 1)) := s1_eq
          generalize px_s1 lv13 5 (oI (c + 1)) = lv16 at l0 l4 l5 ⊢
          show t_X d 46 98 lv16 [] g15 P
          refine t_1 vrd_98 rfl (pb_goto (pc := 98) (by decide)) ?_
          show t_X d 46 43 lv16 [] g15 P
          refine ih _ _ _ _ _ _ _ _ _ _ _ _ (by omega) hS15 ⟨by omega, by omega, by omega, by omega⟩ ⟨by omega, by omega⟩ (fun g9 f9 p9 k9 c9 o9 v9 le9 st9 co9 en9 hS9 u9 t9 => ?_) (fun g9 k9 c9 o9 v9 le9 st9 co9 en9 hS9 Q9 t9 => ?_) l0 l4 l5
          · exact hF _ _ _ _ _ _ _ _ _ _ _ hS9 u9 (fun W hW => hW.2.2.2 _ _ _ _ _ _ _ _ _ _ _ _ _ _ _ _ _ _ _ hLP ⟨by omega, by omega⟩ t3 ⟨Q3, by omega⟩ (by omega) (t9 W hW))
          · exact hO _ _ _ _ _ _ _ _ _ hS9 Q9 (fun W hW => hW.2.2.2 _ _ _ _ _ _ _ _ _ _ _ _ _ _ _ _ _ _ _ hLP ⟨by omega, by omega⟩ t3 ⟨Q3, by omega⟩ (by omega) (t9 W hW))
        · replace hS15 : lS K g0 g15 p3 (-1000 - p3) k3 (c + 1) o3 v3 le3 st3 co3 en3 := hS15
          show t_X d 46 95 lv13 [] g15 P
          refine t_2 vrd_95 rfl (w := (px_s1 lv13 5 (oI (c + 1)), [])) (pq_inc l5 (by decide)) ?_
          replace l0 : px_lg (px_s1 lv13 5 (oI (c + 1))) 0 = some (pvR 154) := s1_ne (by decide) (fun _ => rfl) l0
          replace l4 : px_lg (px_s1 lv13 5 (oI (c + 1))) 4 = some (oI 1) := s1_ne (by decide) (fun _ => rfl) l4
          have l5 : px_lg (px_s1 lv13 5 (oI (c + 1))) 5 = some (oI (c + 1)) := s1_eq
          generalize px_s1 lv13 5 (oI (c + 1)) = lv17 at l0 l4 l5 ⊢
          show t_X d 46 98 lv17 [] g15 P
          refine t_1 vrd_98 rfl (pb_goto (pc := 98) (by decide)) ?_
          show t_X d 46 43 lv17 [] g15 P
          exact vrd_f hK (by omega) hB hS15 (by omega) (by omega) (fun g9 p9 k9 c9 o9 v9 le9 st9 co9 en9 hS9 => hF _ _ _ _ _ _ _ _ _ _ _ hS9 (by omega) (fun W hW => hW.2.2.1 _ _ _ _ _ _ _ _ _ _ _ _ _ _ _ _ _ _ hLP ⟨by omega, by omega⟩ t3 ⟨Q3, by omega⟩ (by omega))) l0 l4 l5
theorem vcr_run {d : Nat} {K : Nat} (hK : lK K) {h0 g : pH} {a b c d0 e : Int} (hS : sE (lrk K) [] (lX K) h0 g [a, b, c, d0, e] []) {P : Option pv × pH → Prop} (hP : ∀ g1 : pH, sE (lrk K) [] (lX K) h0 g1 [a, b, 0, 0, e] [] → g1.2 = g.2 → P (none, g1)) {lv : List (Nat × pv)} (l0 : px_lg lv 0 = some (pvR K)) : t_X d 31 0 lv [] g P := by
  refine t_0 vcr_0 rfl (ld_a l0) ?_
  refine t_0 vcr_1 rfl rfl ?_
  refine ts_fe (n := 3) rfl rfl (lr_f3 hK) vcr_2 rfl (lk_e hK) hS (lr_w3 hK) (lk_g0 hK) (by decide) ⟨by omega, by omega⟩ (fun g1 hS1 e1 => ?_)
  replace hS1 : sE (lrk K) [] (lX K) h0 g1 [a, b, c, 0, e] [] := hS1
  show t_X d 31 5 lv [] g1 P
  refine t_0 vcr_5 rfl (ld_a l0) ?_
  refine t_0 vcr_6 rfl rfl ?_
  refine ts_fe (n := 2) rfl rfl (lr_f2 hK) vcr_7 rfl (lk_e hK) hS1 (lr_w2 hK) (lk_g1 hK) (by decide) ⟨by omega, by omega⟩ (fun g2 hS2 e2 => ?_)
  replace hS2 : sE (lrk K) [] (lX K) h0 g2 [a, b, 0, 0, e] [] := hS2
  show t_X d 31 10 lv [] g2 P
  refine t_5 vcr_10 rfl rfl ?_
  exact hP _ hS2 (by rw [e2, e1])
set_option maxHeartbeats 4000000 in
theorem vrd_run {d : Nat} {K : Nat} (hK : lK K) (hd : 54 ≤ d) {h0 : pH} (hG : g_I eG h0) {a0 a1 a2 a3 a4 : Int} (hS0 : sE (lrk K) [] (lX K) h0 h0 [a0, a1, a2, a3, a4] []) {n : Int} (hn : 1 ≤ n ∧ n ≤ 240) {P : Option pv × pH → Prop} (hF : ∀ (g1 : pH) (f : Int) (o v le st co en : tC), J_ (lX K) h0 g1 → (f < 0 ∧ -9999 ≤ f) → lWs (tH (fA h0 1) n) n 0 0 o v 0 le st co en (.inl f) → P (some (oI f), g1)) (hO : ∀ (g1 : pH) (k1 c1 : Int) (o v le st co en o1 v1 le1 st1 co1 en1 : tC), J_ (lX K) h0 g1 → cF g1 K 0 = c1 → fA g1 (K + 1) = o1 → fA g1 (K + 2) = v1 → fA g1 (K + 3) = le1 → fA g1 (K + 4) = st1 → fA g1 (K + 5) = co1 → fA g1 (K + 6) = en1 → 1 ≤ c1 ∧ c1 ≤ 16 → lWs (tH (fA h0 1) n) n 0 0 o v 0 le st co en (.inr (n, k1, o1, v1, c1, le1, st1, co1, en1)) → P (some (oI c1), g1)) {lv : List (Nat × pv)} (l0 : px_lg lv 0 = some (pvR 154)) (l1 : px_lg lv 1 = some (pvR 1)) (l2 : px_lg lv 2 = some (oI n)) (l3 : px_lg lv 3 = some (pvR K)) : t_X d 46 0 lv [] h0 P := by
  refine t_0 vrd_0 rfl (ld_a l0) ?_
  refine t_0 vrd_1 rfl (ld_a l1) ?_
  refine ts_ra vrd_2 rfl leo_154 hS0 (lr_n hK).1 (by rw [gz_154.1]; exact ⟨by decide, by decide, Or.inr (by decide)⟩) (fun g21 hS21 e21 => ?_)
  have r0 : g21.2.2.1 154 0 = some 1 := by rw [e21]; exact (pu_rr : pu h0.2.2.1 154 0 (some 1) 154 0 = some 1)
  replace hS21 : sE (lrk K) [] (lX K) h0 g21 [a0, a1, a2, a3, a4] [] := hS21
  show t_X d 46 5 lv [] g21 P
  refine t_0 vrd_5 rfl (ld_a l0) ?_
  refine t_0 vrd_6 rfl (ld_i l2) ?_
  refine t_0 vrd_7 rfl (ld_a l1) ?_
  refine t_0 vrd_8 rfl (pq_ln lez_1 rfl) ?_
  show t_X d 46 9 lv [oI 260, oI (n), pvR 154] g21 P
  refine t_0 vrd_9 rfl (pq_mi (by omega) (Nat.le_of_ble_eq_true rfl) ⟨by omega, by omega⟩ ⟨by omega, by omega⟩) ?_
  rw [if_neg (show ¬ (260 : Int) < n by omega)]
  show t_X d 46 12 lv [oI (n), pvR 154] g21 P
  refine ts_fe (n := 4) rfl rfl (lr_f4 hK) vrd_12 rfl leo_154 hS21 (lr_w4 hK) gz_154.2.2 (by decide) ⟨by omega, by omega⟩ (fun g22 hS22 e22 => ?_)
  replace hS22 : sE (lrk K) [] (lX K) h0 g22 [a0, a1, a2, a3, n] [] := hS22
  replace r0 : g22.2.2.1 154 0 = some 1 := by rw [e22]; exact r0
  show t_X d 46 15 lv [] g22 P
  refine t_0 vrd_15 rfl (ld_a l0) ?_
  refine t_0 vrd_16 rfl rfl ?_
  refine ts_fe (n := 0) rfl rfl (lr_f0 hK) vrd_17 rfl leo_154 hS22 (lr_w0 hK) lgy_154_2 (by decide) ⟨by omega, by omega⟩ (fun g23 hS23 e23 => ?_)
  replace hS23 : sE (lrk K) [] (lX K) h0 g23 [0, a1, a2, a3, n] [] := hS23
  replace r0 : g23.2.2.1 154 0 = some 1 := by rw [e23]; exact r0
  show t_X d 46 20 lv [] g23 P
  refine t_0 vrd_20 rfl (ld_a l0) ?_
  refine t_0 vrd_21 rfl rfl ?_
  refine ts_fe (n := 1) rfl rfl (lr_f1 hK) vrd_22 rfl leo_154 hS23 (lr_w1 hK) lgy_154_3 (by decide) ⟨by omega, by omega⟩ (fun g24 hS24 e24 => ?_)
  replace hS24 : sE (lrk K) [] (lX K) h0 g24 [0, 0, a2, a3, n] [] := hS24
  replace r0 : g24.2.2.1 154 0 = some 1 := by rw [e24]; exact r0
  show t_X d 46 25 lv [] g24 P
  refine t_0 vrd_25 rfl (ld_a l0) ?_
  refine t_0 vrd_26 rfl (ld_a l3) ?_
  refine ts_rb vrd_27 rfl leo_154 hS24 (lr_n hK).2.1 (by rw [gz_154.2.1]; rcases hK with rfl | rfl; exact ⟨by decide, by decide, Or.inr (by decide)⟩; exact ⟨by decide, by decide, Or.inr (by decide)⟩) (fun g25 hS25 e25 => ?_)
  replace r0 : g25.2.2.1 154 0 = some 1 := by rw [e25]; exact (pu_rn (f := g24.2.2.1) (k := 154) (y := 4) (v := some K) (by decide)).trans r0
  have r4 : g25.2.2.1 154 4 = some K := by rw [e25]; exact (pu_rr : pu g24.2.2.1 154 4 (some K) 154 4 = some K)
  replace hS25 : sE (lrk K) [] (lX K) h0 g25 [0, 0, a2, a3, n] [] := hS25
  show t_X d 46 30 lv [] g25 P
  refine t_0 vrd_30 rfl (ld_a l0) ?_
  refine t_0 vrd_31 rfl (pq_ro leo_154 rfl r4) ?_
  show t_X d 46 34 lv [pvR K] g25 P
  refine t_3 vrd_34 rfl (ar := ([pvR K], [])) (pcal_w (as := []) rfl rfl rfl (lk_e hK)) ⟨by omega, Nat.le_of_ble_eq_true rfl, Nat.le_of_ble_eq_true rfl, rfl⟩ ?_
  refine vcr_run hK hS25 (fun g26 hS26 e26 => ?_) rfl
  replace hS26 : sE (lrk K) [] (lX K) h0 g26 [0, 0, 0, 0, n] [] := hS26
  replace r0 : g26.2.2.1 154 0 = some 1 := by rw [e26]; exact r0
  replace r4 : g26.2.2.1 154 4 = some K := by rw [e26]; exact r4
  show t_X d 46 37 lv [] g26 P
  refine t_0 vrd_37 rfl rfl ?_
  refine t_2 vrd_38 rfl (w := (px_s1 lv 4 (oI 1), [])) rfl ?_
  replace l0 : px_lg (px_s1 lv 4 (oI 1)) 0 = some (pvR 154) := s1_ne (by decide) (fun _ => rfl) l0
  replace l1 : px_lg (px_s1 lv 4 (oI 1)) 1 = some (pvR 1) := s1_ne (by decide) (fun _ => rfl) l1
  replace l2 : px_lg (px_s1 lv 4 (oI 1)) 2 = some (oI (n)) := s1_ne (by decide) (fun _ => rfl) l2
  replace l3 : px_lg (px_s1 lv 4 (oI 1)) 3 = some (pvR K) := s1_ne (by decide) (fun _ => rfl) l3
  have l4 : px_lg (px_s1 lv 4 (oI 1)) 4 = some (oI 1) := s1_eq
  generalize px_s1 lv 4 (oI 1) = lv27 at l0 l1 l2 l3 l4 ⊢
  show t_X d 46 40 lv27 [] g26 P
  refine t_0 vrd_40 rfl rfl ?_
  refine t_2 vrd_41 rfl (w := (px_s1 lv27 5 (oI 0), [])) rfl ?_
  replace l0 : px_lg (px_s1 lv27 5 (oI 0)) 0 = some (pvR 154) := s1_ne (by decide) (fun _ => rfl) l0
  replace l1 : px_lg (px_s1 lv27 5 (oI 0)) 1 = some (pvR 1) := s1_ne (by decide) (fun _ => rfl) l1
  replace l2 : px_lg (px_s1 lv27 5 (oI 0)) 2 = some (oI (n)) := s1_ne (by decide) (fun _ => rfl) l2
  replace l3 : px_lg (px_s1 lv27 5 (oI 0)) 3 = some (pvR K) := s1_ne (by decide) (fun _ => rfl) l3
  replace l4 : px_lg (px_s1 lv27 5 (oI 0)) 4 = some (oI 1) := s1_ne (by decide) (fun _ => rfl) l4
  have l5 : px_lg (px_s1 lv27 5 (oI 0)) 5 = some (oI 0) := s1_eq
  generalize px_s1 lv27 5 (oI 0) = lv28 at l0 l1 l2 l3 l4 l5 ⊢
  show t_X d 46 43 lv28 [] g26 P
  have hJ := S_J hS26
  have hB : lB K g26 (fA h0 1) n := ⟨S_f hS26 4 (Nat.le_of_ble_eq_true rfl), r0, r4, fA_M hJ.2 (lr_n hK).2.2.1, by omega, by omega, fun j hj => gb_a hG el_1 hj gA_1⟩
  have hS : lS K g26 g26 (cF g26 154 2) (cF g26 154 3) (cF g26 K 1) (cF g26 K 0) (fA g26 (K + 1)) (fA g26 (K + 2)) (fA g26 (K + 3)) (fA g26 (K + 4)) (fA g26 (K + 5)) (fA g26 (K + 6)) := S_0 hJ.1
  rw [show cF g26 154 2 = 0 from S_f hS26 0 (Nat.le_of_ble_eq_true rfl), show cF g26 154 3 = 0 from S_f hS26 1 (Nat.le_of_ble_eq_true rfl), show cF g26 K 1 = 0 from S_f hS26 2 (Nat.le_of_ble_eq_true rfl), show cF g26 K 0 = 0 from S_f hS26 3 (Nat.le_of_ble_eq_true rfl)] at hS
  exact vrd_l hK hB hd 16 _ _ _ _ _ _ _ _ _ _ _ _ (by omega) hS ⟨by omega, by omega, by omega, by omega⟩ ⟨by omega, by omega⟩ (fun g1 f p1 k1 c1 o1 v1 le1 st1 co1 en1 hS1 u1 t1 => hF _ _ _ _ _ _ _ _ (J_up (lr_n hK).2.2.2 hJ (S_J hS1)) ⟨u1, (lc_m hB hK hS1).2.2.1.1⟩ t1) (fun g1 k1 c1 o1 v1 le1 st1 co1 en1 hS1 u1 t1 => hO _ _ _ _ _ _ _ _ _ _ _ _ _ _ _ (J_up (lr_n hK).2.2.2 hJ (S_J hS1)) (S_f hS1 3 (Nat.le_of_ble_eq_true rfl)) (S_a hS1 0 (Nat.le_of_ble_eq_true rfl)) (S_a hS1 1 (Nat.le_of_ble_eq_true rfl)) (S_a hS1 2 (Nat.le_of_ble_eq_true rfl)) (S_a hS1 3 (Nat.le_of_ble_eq_true rfl)) (S_a hS1 4 (Nat.le_of_ble_eq_true rfl)) (S_a hS1 5 (Nat.le_of_ble_eq_true rfl)) u1 t1) l0 l4 l5
theorem lhx_run {d W : Nat} {g0 g : pH} {tl : Int} (hS : sE lhk [] W g0 g [tl] []) {n a b : Int} (hn : -2147483648 ≤ n ∧ n ≤ 2147483647) (ha : -2147483648 ≤ a ∧ a ≤ 2147483647) (hb : -2147483648 ≤ b ∧ b ≤ 2147483647) (ht : 0 ≤ tl ∧ tl ≤ 260) {P : Option pv × pH → Prop} (h1 : a ≤ n ∧ n ≤ b ∧ n ≤ tl → P (some (oI 1), g)) (h0 : ¬ (a ≤ n ∧ n ≤ b ∧ n ≤ tl) → P (some (oI 0), g)) {lv : List (Nat × pv)} (l0 : px_lg lv 0 = some (pvR 0)) (l1 : px_lg lv 1 = some (oI n)) (l2 : px_lg lv 2 = some (oI a)) (l3 : px_lg lv 3 = some (oI b)) : t_X d 151 0 lv [] g P := by
  refine t_0 ylh_0 rfl (ld_i l1) ?_
  refine t_0 ylh_1 rfl (ld_i l2) ?_
  refine tb_lt ylh_2 (by decide) ⟨by omega, by omega⟩ ⟨by omega, by omega⟩ (fun c1 => ?_) (fun c1 => ?_)
  · show t_X d 151 22 lv [] g P
    refine t_0 ylh_22 rfl rfl ?_
    refine t_5 ylh_23 rfl rfl ?_
    exact h0 (by omega)
  · show t_X d 151 5 lv [] g P
    refine t_0 ylh_5 rfl (ld_i l1) ?_
    refine t_0 ylh_6 rfl (ld_i l3) ?_
    refine tb_gt ylh_7 (by decide) ⟨by omega, by omega⟩ ⟨by omega, by omega⟩ (fun c2 => ?_) (fun c2 => ?_)
    · show t_X d 151 22 lv [] g P
      refine t_0 ylh_22 rfl rfl ?_
      refine t_5 ylh_23 rfl rfl ?_
      exact h0 (by omega)
    · show t_X d 151 10 lv [] g P
      refine t_0 ylh_10 rfl (ld_i l1) ?_
      refine t_0 ylh_11 rfl (ld_a l0) ?_
      refine t_0 ylh_12 rfl (pq_cv leo_0 rfl (show cF g 0 1 = tl from S_f hS 0 (Nat.le_of_ble_eq_true rfl))) ?_
      show t_X d 151 15 lv [oI (tl), oI (n)] g P
      refine tb_gt ylh_15 (by decide) ⟨by omega, by omega⟩ ⟨by omega, by omega⟩ (fun c3 => ?_) (fun c3 => ?_)
      · show t_X d 151 22 lv [] g P
        refine t_0 ylh_22 rfl rfl ?_
        refine t_5 ylh_23 rfl rfl ?_
        exact h0 (by omega)
      · show t_X d 151 18 lv [] g P
        refine t_0 ylh_18 rfl rfl ?_
        refine t_1 ylh_19 rfl (pb_goto (pc := 19) (by decide)) ?_
        show t_X d 151 23 lv [oI 1] g P
        refine t_5 ylh_23 rfl rfl ?_
        exact h1 ⟨by omega, by omega, by omega⟩
theorem S_1x {ks : List (Nat × Nat)} {as : List Nat} {W : Nat} {g0 g : pH} (hJ : J_ W g0 g) : sE ks as W g0 g (ks.map (fun t => cF g t.1 t.2)) (as.map (fun k => fA g k)) := ⟨hJ, (S_0 (ks := ks) (as := as) (W := W) hJ.1).2⟩
theorem vus_run {d : Nat} {K K2 : Nat} (hK : lK K) (hK2 : lK K2) {g g1 : pH} {a b : Int} {o1 v1 le1 st1 co1 en1 : tC} (hS : sE (ltk K) (la K) (lOk K) g g1 [a, b] [o1, v1, le1, st1, co1, en1]) (r0 : g1.2.2.1 164 0 = some K2) (r1 : g1.2.2.1 164 1 = some K) {P : Option pv × pH → Prop} (hP : ∀ g2 : pH, sE (ltk K) (la K) (lOk K) g g2 [a, b] [o1, v1, le1, st1, co1, en1] → g2.2.2.1 164 0 = some K → g2.2.2.1 164 1 = some K2 → P (none, g2)) {lv : List (Nat × pv)} (l0 : px_lg lv 0 = some (pvR 164)) : t_X d 30 0 lv [] g1 P := by
  refine t_0 vus_0 rfl (ld_a l0) ?_
  refine t_0 vus_1 rfl (pq_ro el_164 rfl r0) ?_
  show t_X d 30 4 lv [pvR K2] g1 P
  refine t_2 vus_4 rfl (w := (px_s1 lv 1 (pvR K2), [])) rfl ?_
  replace l0 : px_lg (px_s1 lv 1 (pvR K2)) 0 = some (pvR 164) := s1_ne (by decide) (fun _ => rfl) l0
  have l1 : px_lg (px_s1 lv 1 (pvR K2)) 1 = some (pvR K2) := s1_eq
  generalize px_s1 lv 1 (pvR K2) = lv21 at l0 l1 ⊢
  show t_X d 30 5 lv21 [] g1 P
  refine t_0 vus_5 rfl (ld_a l0) ?_
  refine t_0 vus_6 rfl (ld_a l0) ?_
  refine t_0 vus_7 rfl (pq_ro el_164 rfl r1) ?_
  show t_X d 30 10 lv21 [pvR K, pvR 164] g1 P
  refine ts_rb vus_10 rfl el_164 hS (ln_b hK).2.2.2.2.1 (by rw [gz_164.1]; rcases hK with rfl | rfl; exact ⟨by decide, by decide, Or.inr (by decide)⟩; exact ⟨by decide, by decide, Or.inr (by decide)⟩) (fun g22 hS22 e22 => ?_)
  replace r1 : g22.2.2.1 164 1 = some K := by rw [e22]; exact (pu_rn (f := g1.2.2.1) (k := 164) (y := 0) (v := some K) (by decide)).trans r1
  replace r0 : g22.2.2.1 164 0 = some K := by rw [e22]; exact (pu_rr : pu g1.2.2.1 164 0 (some K) 164 0 = some K)
  replace hS22 : sE (ltk K) (la K) (lOk K) g g22 [a, b] [o1, v1, le1, st1, co1, en1] := hS22
  show t_X d 30 13 lv21 [] g22 P
  refine t_0 vus_13 rfl (ld_a l0) ?_
  refine t_0 vus_14 rfl (ld_a l1) ?_
  refine ts_rb vus_15 rfl el_164 hS22 (ln_b hK).2.2.2.2.2.1 (by rw [gz_164.2.1]; rcases hK2 with rfl | rfl; exact ⟨by decide, by decide, Or.inr (by decide)⟩; exact ⟨by decide, by decide, Or.inr (by decide)⟩) (fun g23 hS23 e23 => ?_)
  replace r0 : g23.2.2.1 164 0 = some K := by rw [e23]; exact (pu_rn (f := g22.2.2.1) (k := 164) (y := 1) (v := some K2) (by decide)).trans r0
  replace r1 : g23.2.2.1 164 1 = some K2 := by rw [e23]; exact (pu_rr : pu g22.2.2.1 164 1 (some K2) 164 1 = some K2)
  replace hS23 : sE (ltk K) (la K) (lOk K) g g23 [a, b] [o1, v1, le1, st1, co1, en1] := hS23
  show t_X d 30 18 lv21 [] g23 P
  refine t_5 vus_18 rfl rfl ?_
  exact hP _ hS23 r0 r1
set_option maxHeartbeats 4000000 in
theorem clx_run {d : Nat} {K K2 : Nat} (hK : lK K) (hK2 : lK K2) (hd : 55 ≤ d) {g : pH} {tl : Int} (hS : sE lhk [] 0 g g [tl] []) (ht : 0 ≤ tl ∧ tl ≤ 260) (hr1 : g.2.2.1 164 1 = some K) (hr0 : g.2.2.1 164 0 = some K2) {n : Int} (hn : -2147483648 ≤ n ∧ n ≤ 2147483647) {P : Option pv × pH → Prop} (hR : ¬ (1 ≤ n ∧ n ≤ 240 ∧ n ≤ tl) → P (some (oI (-1)), g)) (hF : (1 ≤ n ∧ n ≤ 240 ∧ n ≤ tl) → ∀ (g1 : pH) (f : Int) (o v le st co en : tC), J_ (lNk K) g g1 → cF g1 0 1 = 0 → f < 0 → lWs (tH (fA g 1) n) n 0 0 o v 0 le st co en (.inl f) → P (some (oI f), g1)) (hO : (1 ≤ n ∧ n ≤ 240 ∧ n ≤ tl) → ∀ (g1 : pH) (k1 c1 : Int) (o v le st co en o1 v1 le1 st1 co1 en1 : tC), J_ (lOk K) g g1 → cF g1 0 1 = 0 → g1.2.2.1 164 0 = some K → g1.2.2.1 164 1 = some K2 → cF g1 K 0 = c1 → fA g1 (K + 1) = o1 → fA g1 (K + 2) = v1 → fA g1 (K + 3) = le1 → fA g1 (K + 4) = st1 → fA g1 (K + 5) = co1 → fA g1 (K + 6) = en1 → 1 ≤ c1 ∧ c1 ≤ 16 → lWs (tH (fA g 1) n) n 0 0 o v 0 le st co en (.inr (n, k1, o1, v1, c1, le1, st1, co1, en1)) → P (some (oI c1), g1)) {lv : List (Nat × pv)} (l0 : px_lg lv 0 = some (pvR 0)) (l1 : px_lg lv 1 = some (oI n)) : t_X d 129 0 lv [] g P := by
  refine t_0 vla9_0 rfl (ld_a l0) ?_
  refine t_0 vla9_1 rfl (ld_i l1) ?_
  refine t_0 vla9_2 rfl rfl ?_
  refine t_0 vla9_3 rfl (pq_s (by decide)) ?_
  refine t_3 vla9_6 rfl (ar := ([pvR 0, oI (n), oI 1, oI 240], [])) (pcal_w (as := [oI 240, oI 1, oI (n)]) rfl rfl rfl leo_0) ⟨by omega, Nat.le_of_ble_eq_true rfl, Nat.le_of_ble_eq_true rfl, rfl⟩ ?_
  refine lhx_run hS ⟨by omega, by omega⟩ ⟨by omega, by omega⟩ ⟨by omega, by omega⟩ ⟨by omega, by omega⟩ (fun t1 => ?_) (fun t1 => ?_) rfl rfl rfl rfl
  · show t_X d 129 9 lv [oI 1] g P
    refine tz_ne vla9_9 (by decide) ⟨by omega, by omega⟩ (fun c2 => ?_) (fun c2 => absurd c2 (by omega))
    show t_X d 129 14 lv [] g P
    refine t_0 vla9_14 rfl (ld_a l0) ?_
    refine t_0 vla9_15 rfl (lcq_0_7 (S_J hS).1) ?_
    show t_X d 129 18 lv [pvR 154] g P
    refine t_0 vla9_18 rfl (ld_a l0) ?_
    refine t_0 vla9_19 rfl (lcq_0_0 (S_J hS).1) ?_
    show t_X d 129 22 lv [pvR 1, pvR 154] g P
    refine t_0 vla9_22 rfl (ld_i l1) ?_
    refine t_0 vla9_23 rfl (ld_a l0) ?_
    refine t_0 vla9_24 rfl (lcq_0_8 (S_J hS).1) ?_
    show t_X d 129 27 lv [pvR 164, oI (n), pvR 1, pvR 154] g P
    refine t_0 vla9_27 rfl (pq_ro el_164 rfl hr1) ?_
    show t_X d 129 30 lv [pvR K, oI (n), pvR 1, pvR 154] g P
    refine t_3 vla9_30 rfl (ar := ([pvR 154, pvR 1, oI (n), pvR K], [])) (pcal_w (as := [pvR K, oI (n), pvR 1]) rfl rfl rfl leo_154) ⟨by omega, Nat.le_of_ble_eq_true rfl, Nat.le_of_ble_eq_true rfl, rfl⟩ ?_
    have hSR : sE (lrk K) [] (lX K) g g [cF g 154 2, cF g 154 3, cF g K 1, cF g K 0, cF g 154 1] [] := S_0 (S_J hS).1
    refine vrd_run hK (by omega) (S_J hS).1 hSR ⟨by omega, by omega⟩ (fun g1 f o v le st co en J1 u1 x1 => ?_) (fun g1 k1 c1 o v le st co en o1 v1 le1 st1 co1 en1 J1 y0 y1 y2 y3 y4 y5 y6 u1 x1 => ?_) rfl rfl rfl rfl
    · have hS1 : sE (ltk K) (la K) (lNk K) g g1 [cF g1 0 1, cF g1 K 0] [fA g1 (K + 1), fA g1 (K + 2), fA g1 (K + 3), fA g1 (K + 4), fA g1 (K + 5), fA g1 (K + 6)] := S_1x (J_wide (ln_b hK).1 J1)
      have r0 : g1.2.2.1 164 0 = some K2 := (J1.2.1 164 0 (ln_b hK).2.2.2.2.2.2.1).2.2.trans hr0
      have r1 : g1.2.2.1 164 1 = some K := (J1.2.1 164 1 (ln_b hK).2.2.2.2.2.2.2.1).2.2.trans hr1
      show t_X d 129 33 lv [oI (f)] g1 P
      refine t_2 vla9_33 rfl (w := (px_s1 lv 2 (oI (f)), [])) rfl ?_
      replace l0 : px_lg (px_s1 lv 2 (oI (f))) 0 = some (pvR 0) := s1_ne (by decide) (fun _ => rfl) l0
      replace l1 : px_lg (px_s1 lv 2 (oI (f))) 1 = some (oI (n)) := s1_ne (by decide) (fun _ => rfl) l1
      have l2 : px_lg (px_s1 lv 2 (oI (f))) 2 = some (oI (f)) := s1_eq
      generalize px_s1 lv 2 (oI (f)) = lv3 at l0 l1 l2 ⊢
      show t_X d 129 34 lv3 [] g1 P
      refine t_0 vla9_34 rfl (ld_a l0) ?_
      refine t_0 vla9_35 rfl rfl ?_
      refine ts_fe (n := 0) rfl rfl (lt_f0 hK) vla9_36 rfl er_0 hS1 (ln_b hK).2.2.1 gz_164.2.2 (by decide) ⟨by omega, by omega⟩ (fun g4 hS4 e4 => ?_)
      replace hS4 : sE (ltk K) (la K) (lNk K) g g4 [0, cF g1 K 0] [fA g1 (K + 1), fA g1 (K + 2), fA g1 (K + 3), fA g1 (K + 4), fA g1 (K + 5), fA g1 (K + 6)] := hS4
      replace r0 : g4.2.2.1 164 0 = some K2 := by rw [e4]; exact r0
      replace r1 : g4.2.2.1 164 1 = some K := by rw [e4]; exact r1
      show t_X d 129 39 lv3 [] g4 P
      refine t_0 vla9_39 rfl (ld_i l2) ?_
      refine tz_le vla9_40 (by decide) ⟨by omega, by omega⟩ (fun c5 => ?_) (fun c5 => absurd c5 (by omega))
      show t_X d 129 50 lv3 [] g4 P
      refine t_0 vla9_50 rfl (ld_i l2) ?_
      refine t_5 vla9_51 rfl rfl ?_
      exact hF t1 _ _ _ _ _ _ _ _ (S_J hS4) (S_f hS4 0 (Nat.le_of_ble_eq_true rfl)) u1.1 x1
    · have hS1 : sE (ltk K) (la K) (lOk K) g g1 [cF g1 0 1, cF g1 K 0] [fA g1 (K + 1), fA g1 (K + 2), fA g1 (K + 3), fA g1 (K + 4), fA g1 (K + 5), fA g1 (K + 6)] := S_1x (J_wide (ln_b hK).2.2.2.2.2.2.2.2 J1)
      rw [y0, y1, y2, y3, y4, y5, y6] at hS1
      have r0 : g1.2.2.1 164 0 = some K2 := (J1.2.1 164 0 (ln_b hK).2.2.2.2.2.2.1).2.2.trans hr0
      have r1 : g1.2.2.1 164 1 = some K := (J1.2.1 164 1 (ln_b hK).2.2.2.2.2.2.2.1).2.2.trans hr1
      show t_X d 129 33 lv [oI (c1)] g1 P
      refine t_2 vla9_33 rfl (w := (px_s1 lv 2 (oI (c1)), [])) rfl ?_
      replace l0 : px_lg (px_s1 lv 2 (oI (c1))) 0 = some (pvR 0) := s1_ne (by decide) (fun _ => rfl) l0
      replace l1 : px_lg (px_s1 lv 2 (oI (c1))) 1 = some (oI (n)) := s1_ne (by decide) (fun _ => rfl) l1
      have l2 : px_lg (px_s1 lv 2 (oI (c1))) 2 = some (oI (c1)) := s1_eq
      generalize px_s1 lv 2 (oI (c1)) = lv6 at l0 l1 l2 ⊢
      show t_X d 129 34 lv6 [] g1 P
      refine t_0 vla9_34 rfl (ld_a l0) ?_
      refine t_0 vla9_35 rfl rfl ?_
      refine ts_fe (n := 0) rfl rfl (lt_f0 hK) vla9_36 rfl er_0 hS1 (ln_b hK).2.2.2.1 gz_164.2.2 (by decide) ⟨by omega, by omega⟩ (fun g7 hS7 e7 => ?_)
      replace hS7 : sE (ltk K) (la K) (lOk K) g g7 [0, c1] [o1, v1, le1, st1, co1, en1] := hS7
      replace r0 : g7.2.2.1 164 0 = some K2 := by rw [e7]; exact r0
      replace r1 : g7.2.2.1 164 1 = some K := by rw [e7]; exact r1
      show t_X d 129 39 lv6 [] g7 P
      refine t_0 vla9_39 rfl (ld_i l2) ?_
      refine tz_le vla9_40 (by decide) ⟨by omega, by omega⟩ (fun c8 => absurd c8 (by omega)) (fun c8 => ?_)
      show t_X d 129 43 lv6 [] g7 P
      refine t_0 vla9_43 rfl (ld_a l0) ?_
      refine t_0 vla9_44 rfl (lcq_0_8 (S_J hS7).1) ?_
      show t_X d 129 47 lv6 [pvR 164] g7 P
      refine t_3 vla9_47 rfl (ar := ([pvR 164], [])) (pcal_w (as := []) rfl rfl rfl leo_164) ⟨by omega, Nat.le_of_ble_eq_true rfl, Nat.le_of_ble_eq_true rfl, rfl⟩ ?_
      refine vus_run hK hK2 hS7 r0 r1 (fun g9 hS9 p0 p1 => ?_) rfl
      replace hS9 : sE (ltk K) (la K) (lOk K) g g9 [0, c1] [o1, v1, le1, st1, co1, en1] := hS9
      replace r0 := p0
      replace r1 := p1
      show t_X d 129 50 lv6 [] g9 P
      refine t_0 vla9_50 rfl (ld_i l2) ?_
      refine t_5 vla9_51 rfl rfl ?_
      exact hO t1 _ _ _ _ _ _ _ _ _ _ _ _ _ _ _ (S_J hS9) (S_f hS9 0 (Nat.le_of_ble_eq_true rfl)) r0 r1 (S_f hS9 1 (Nat.le_of_ble_eq_true rfl)) (S_a hS9 0 (Nat.le_of_ble_eq_true rfl)) (S_a hS9 1 (Nat.le_of_ble_eq_true rfl)) (S_a hS9 2 (Nat.le_of_ble_eq_true rfl)) (S_a hS9 3 (Nat.le_of_ble_eq_true rfl)) (S_a hS9 4 (Nat.le_of_ble_eq_true rfl)) (S_a hS9 5 (Nat.le_of_ble_eq_true rfl)) u1 x1
  · show t_X d 129 9 lv [oI 0] g P
    refine tz_ne vla9_9 (by decide) ⟨by omega, by omega⟩ (fun c10 => absurd c10 (by omega)) (fun c10 => ?_)
    show t_X d 129 12 lv [] g P
    refine t_0 vla9_12 rfl rfl ?_
    refine t_5 vla9_13 rfl rfl ?_
    exact hR t1
