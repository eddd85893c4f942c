/-! the ways alike 0: copied by keep and undo (printed by wip/e2/x19.py) -/
theorem uca4_0 : xe_look (xc 73) 0 = some (.aload_n 1, 1, 0, 0, 0) := by decide +kernel
theorem uca4_1 : xe_look (xc 73) 1 = some (.getfield 15, 3, 7, 1, 910) := by decide +kernel
theorem uca4_4 : xe_look (xc 73) 4 = some (.iconst 0, 1, 0, 0, 0) := by decide +kernel
theorem uca4_5 : xe_look (xc 73) 5 = some (.aload_n 0, 1, 0, 0, 0) := by decide +kernel
theorem uca4_6 : xe_look (xc 73) 6 = some (.getfield 15, 3, 7, 1, 910) := by decide +kernel
theorem uca4_9 : xe_look (xc 73) 9 = some (.iconst 0, 1, 0, 0, 0) := by decide +kernel
theorem uca4_10 : xe_look (xc 73) 10 = some (.bipush 25, 2, 0, 0, 0) := by decide +kernel
theorem uca4_12 : xe_look (xc 73) 12 = some (.invokestatic 22, 3, 5, 0, 911) := by decide +kernel
theorem uca4_15 : xe_look (xc 73) 15 = some (.aload_n 0, 1, 0, 0, 0) := by decide +kernel
theorem uca4_16 : xe_look (xc 73) 16 = some (.aload_n 1, 1, 0, 0, 0) := by decide +kernel
theorem uca4_17 : xe_look (xc 73) 17 = some (.getfield 28, 3, 7, 2, 912) := by decide +kernel
theorem uca4_20 : xe_look (xc 73) 20 = some (.putfield 28, 3, 7, 2, 912) := by decide +kernel
theorem uca4_23 : xe_look (xc 73) 23 = some (.aload_n 0, 1, 0, 0, 0) := by decide +kernel
theorem uca4_24 : xe_look (xc 73) 24 = some (.aload_n 1, 1, 0, 0, 0) := by decide +kernel
theorem uca4_25 : xe_look (xc 73) 25 = some (.getfield 32, 3, 7, 3, 913) := by decide +kernel
theorem uca4_28 : xe_look (xc 73) 28 = some (.putfield 32, 3, 7, 3, 913) := by decide +kernel
theorem uca4_31 : xe_look (xc 73) 31 = some (.aload_n 0, 1, 0, 0, 0) := by decide +kernel
theorem uca4_32 : xe_look (xc 73) 32 = some (.aload_n 1, 1, 0, 0, 0) := by decide +kernel
theorem uca4_33 : xe_look (xc 73) 33 = some (.getfield 35, 3, 7, 4, 914) := by decide +kernel
theorem uca4_36 : xe_look (xc 73) 36 = some (.putfield 35, 3, 7, 4, 914) := by decide +kernel
theorem uca4_39 : xe_look (xc 73) 39 = some (.aload_n 0, 1, 0, 0, 0) := by decide +kernel
theorem uca4_40 : xe_look (xc 73) 40 = some (.aload_n 1, 1, 0, 0, 0) := by decide +kernel
theorem uca4_41 : xe_look (xc 73) 41 = some (.getfield 38, 3, 7, 5, 915) := by decide +kernel
theorem uca4_44 : xe_look (xc 73) 44 = some (.putfield 38, 3, 7, 5, 915) := by decide +kernel
theorem uca4_47 : xe_look (xc 73) 47 = some (.aload_n 0, 1, 0, 0, 0) := by decide +kernel
theorem uca4_48 : xe_look (xc 73) 48 = some (.aload_n 1, 1, 0, 0, 0) := by decide +kernel
theorem uca4_49 : xe_look (xc 73) 49 = some (.getfield 41, 3, 7, 6, 916) := by decide +kernel
theorem uca4_52 : xe_look (xc 73) 52 = some (.putfield 41, 3, 7, 6, 916) := by decide +kernel
theorem uca4_55 : xe_look (xc 73) 55 = some (.aload_n 0, 1, 0, 0, 0) := by decide +kernel
theorem uca4_56 : xe_look (xc 73) 56 = some (.aload_n 1, 1, 0, 0, 0) := by decide +kernel
theorem uca4_57 : xe_look (xc 73) 57 = some (.getfield 44, 3, 7, 7, 917) := by decide +kernel
theorem uca4_60 : xe_look (xc 73) 60 = some (.putfield 44, 3, 7, 7, 917) := by decide +kernel
theorem uca4_63 : xe_look (xc 73) 63 = some (.aload_n 0, 1, 0, 0, 0) := by decide +kernel
theorem uca4_64 : xe_look (xc 73) 64 = some (.aload_n 1, 1, 0, 0, 0) := by decide +kernel
theorem uca4_65 : xe_look (xc 73) 65 = some (.getfield 47, 3, 7, 8, 918) := by decide +kernel
theorem uca4_68 : xe_look (xc 73) 68 = some (.putfield 47, 3, 7, 8, 918) := by decide +kernel
theorem uca4_71 : xe_look (xc 73) 71 = some (.aload_n 0, 1, 0, 0, 0) := by decide +kernel
theorem uca4_72 : xe_look (xc 73) 72 = some (.aload_n 1, 1, 0, 0, 0) := by decide +kernel
theorem uca4_73 : xe_look (xc 73) 73 = some (.getfield 19, 3, 7, 9, 919) := by decide +kernel
theorem uca4_76 : xe_look (xc 73) 76 = some (.putfield 19, 3, 7, 9, 919) := by decide +kernel
theorem uca4_79 : xe_look (xc 73) 79 = some (.return_, 1, 0, 0, 0) := by decide +kernel
theorem uca78_0 : xe_look (xc 73) 0 = some (.aload_n 1, 1, 0, 0, 0) := by decide +kernel
theorem uca78_1 : xe_look (xc 73) 1 = some (.getfield 15, 3, 7, 1, 910) := by decide +kernel
theorem uca78_4 : xe_look (xc 73) 4 = some (.iconst 0, 1, 0, 0, 0) := by decide +kernel
theorem uca78_5 : xe_look (xc 73) 5 = some (.aload_n 0, 1, 0, 0, 0) := by decide +kernel
theorem uca78_6 : xe_look (xc 73) 6 = some (.getfield 15, 3, 7, 1, 910) := by decide +kernel
theorem uca78_9 : xe_look (xc 73) 9 = some (.iconst 0, 1, 0, 0, 0) := by decide +kernel
theorem uca78_10 : xe_look (xc 73) 10 = some (.bipush 25, 2, 0, 0, 0) := by decide +kernel
theorem uca78_12 : xe_look (xc 73) 12 = some (.invokestatic 22, 3, 5, 0, 911) := by decide +kernel
theorem uca78_15 : xe_look (xc 73) 15 = some (.aload_n 0, 1, 0, 0, 0) := by decide +kernel
theorem uca78_16 : xe_look (xc 73) 16 = some (.aload_n 1, 1, 0, 0, 0) := by decide +kernel
theorem uca78_17 : xe_look (xc 73) 17 = some (.getfield 28, 3, 7, 2, 912) := by decide +kernel
theorem uca78_20 : xe_look (xc 73) 20 = some (.putfield 28, 3, 7, 2, 912) := by decide +kernel
theorem uca78_23 : xe_look (xc 73) 23 = some (.aload_n 0, 1, 0, 0, 0) := by decide +kernel
theorem uca78_24 : xe_look (xc 73) 24 = some (.aload_n 1, 1, 0, 0, 0) := by decide +kernel
theorem uca78_25 : xe_look (xc 73) 25 = some (.getfield 32, 3, 7, 3, 913) := by decide +kernel
theorem uca78_28 : xe_look (xc 73) 28 = some (.putfield 32, 3, 7, 3, 913) := by decide +kernel
theorem uca78_31 : xe_look (xc 73) 31 = some (.aload_n 0, 1, 0, 0, 0) := by decide +kernel
theorem uca78_32 : xe_look (xc 73) 32 = some (.aload_n 1, 1, 0, 0, 0) := by decide +kernel
theorem uca78_33 : xe_look (xc 73) 33 = some (.getfield 35, 3, 7, 4, 914) := by decide +kernel
theorem uca78_36 : xe_look (xc 73) 36 = some (.putfield 35, 3, 7, 4, 914) := by decide +kernel
theorem uca78_39 : xe_look (xc 73) 39 = some (.aload_n 0, 1, 0, 0, 0) := by decide +kernel
theorem uca78_40 : xe_look (xc 73) 40 = some (.aload_n 1, 1, 0, 0, 0) := by decide +kernel
theorem uca78_41 : xe_look (xc 73) 41 = some (.getfield 38, 3, 7, 5, 915) := by decide +kernel
theorem uca78_44 : xe_look (xc 73) 44 = some (.putfield 38, 3, 7, 5, 915) := by decide +kernel
theorem uca78_47 : xe_look (xc 73) 47 = some (.aload_n 0, 1, 0, 0, 0) := by decide +kernel
theorem uca78_48 : xe_look (xc 73) 48 = some (.aload_n 1, 1, 0, 0, 0) := by decide +kernel
theorem uca78_49 : xe_look (xc 73) 49 = some (.getfield 41, 3, 7, 6, 916) := by decide +kernel
theorem uca78_52 : xe_look (xc 73) 52 = some (.putfield 41, 3, 7, 6, 916) := by decide +kernel
theorem uca78_55 : xe_look (xc 73) 55 = some (.aload_n 0, 1, 0, 0, 0) := by decide +kernel
theorem uca78_56 : xe_look (xc 73) 56 = some (.aload_n 1, 1, 0, 0, 0) := by decide +kernel
theorem uca78_57 : xe_look (xc 73) 57 = some (.getfield 44, 3, 7, 7, 917) := by decide +kernel
theorem uca78_60 : xe_look (xc 73) 60 = some (.putfield 44, 3, 7, 7, 917) := by decide +kernel
theorem uca78_63 : xe_look (xc 73) 63 = some (.aload_n 0, 1, 0, 0, 0) := by decide +kernel
theorem uca78_64 : xe_look (xc 73) 64 = some (.aload_n 1, 1, 0, 0, 0) := by decide +kernel
theorem uca78_65 : xe_look (xc 73) 65 = some (.getfield 47, 3, 7, 8, 918) := by decide +kernel
theorem uca78_68 : xe_look (xc 73) 68 = some (.putfield 47, 3, 7, 8, 918) := by decide +kernel
theorem uca78_71 : xe_look (xc 73) 71 = some (.aload_n 0, 1, 0, 0, 0) := by decide +kernel
theorem uca78_72 : xe_look (xc 73) 72 = some (.aload_n 1, 1, 0, 0, 0) := by decide +kernel
theorem uca78_73 : xe_look (xc 73) 73 = some (.getfield 19, 3, 7, 9, 919) := by decide +kernel
theorem uca78_76 : xe_look (xc 73) 76 = some (.putfield 19, 3, 7, 9, 919) := by decide +kernel
theorem uca78_79 : xe_look (xc 73) 79 = some (.return_, 1, 0, 0, 0) := by decide +kernel
theorem vct4_0 : xe_look (xc 79) 0 = some (.iconst 0, 1, 0, 0, 0) := by decide +kernel
theorem vct4_1 : xe_look (xc 79) 1 = some (.istore_n 2, 1, 0, 0, 0) := by decide +kernel
theorem vct4_2 : xe_look (xc 79) 2 = some (.iload_n 2, 1, 0, 0, 0) := by decide +kernel
theorem vct4_3 : xe_look (xc 79) 3 = some (.bipush 32, 2, 0, 0, 0) := by decide +kernel
theorem vct4_5 : xe_look (xc 79) 5 = some (.if_icmp .ge 24, 3, 0, 0, 0) := by decide +kernel
theorem vct4_8 : xe_look (xc 79) 8 = some (.aload_n 0, 1, 0, 0, 0) := by decide +kernel
theorem vct4_9 : xe_look (xc 79) 9 = some (.getfield 11, 3, 8, 0, 924) := by decide +kernel
theorem vct4_12 : xe_look (xc 79) 12 = some (.iload_n 2, 1, 0, 0, 0) := by decide +kernel
theorem vct4_13 : xe_look (xc 79) 13 = some (.aaload, 1, 0, 0, 0) := by decide +kernel
theorem vct4_14 : xe_look (xc 79) 14 = some (.aload_n 1, 1, 0, 0, 0) := by decide +kernel
theorem vct4_15 : xe_look (xc 79) 15 = some (.getfield 11, 3, 8, 0, 924) := by decide +kernel
theorem vct4_18 : xe_look (xc 79) 18 = some (.iload_n 2, 1, 0, 0, 0) := by decide +kernel
theorem vct4_19 : xe_look (xc 79) 19 = some (.aaload, 1, 0, 0, 0) := by decide +kernel
theorem vct4_20 : xe_look (xc 79) 20 = some (.invokevirtual 65, 3, 0, 73, 925) := by decide +kernel
theorem vct4_23 : xe_look (xc 79) 23 = some (.iinc 2 1, 3, 0, 0, 0) := by decide +kernel
theorem vct4_26 : xe_look (xc 79) 26 = some (.goto (-24), 3, 0, 0, 0) := by decide +kernel
theorem vct78_0 : xe_look (xc 79) 0 = some (.iconst 0, 1, 0, 0, 0) := by decide +kernel
theorem vct78_1 : xe_look (xc 79) 1 = some (.istore_n 2, 1, 0, 0, 0) := by decide +kernel
theorem vct78_2 : xe_look (xc 79) 2 = some (.iload_n 2, 1, 0, 0, 0) := by decide +kernel
theorem vct78_3 : xe_look (xc 79) 3 = some (.bipush 32, 2, 0, 0, 0) := by decide +kernel
theorem vct78_5 : xe_look (xc 79) 5 = some (.if_icmp .ge 24, 3, 0, 0, 0) := by decide +kernel
theorem vct78_8 : xe_look (xc 79) 8 = some (.aload_n 0, 1, 0, 0, 0) := by decide +kernel
theorem vct78_9 : xe_look (xc 79) 9 = some (.getfield 11, 3, 8, 0, 924) := by decide +kernel
theorem vct78_12 : xe_look (xc 79) 12 = some (.iload_n 2, 1, 0, 0, 0) := by decide +kernel
theorem vct78_13 : xe_look (xc 79) 13 = some (.aaload, 1, 0, 0, 0) := by decide +kernel
theorem vct78_14 : xe_look (xc 79) 14 = some (.aload_n 1, 1, 0, 0, 0) := by decide +kernel
theorem vct78_15 : xe_look (xc 79) 15 = some (.getfield 11, 3, 8, 0, 924) := by decide +kernel
theorem vct78_18 : xe_look (xc 79) 18 = some (.iload_n 2, 1, 0, 0, 0) := by decide +kernel
theorem vct78_19 : xe_look (xc 79) 19 = some (.aaload, 1, 0, 0, 0) := by decide +kernel
theorem vct78_20 : xe_look (xc 79) 20 = some (.invokevirtual 65, 3, 0, 73, 925) := by decide +kernel
theorem vct78_23 : xe_look (xc 79) 23 = some (.iinc 2 1, 3, 0, 0, 0) := by decide +kernel
theorem vct78_26 : xe_look (xc 79) 26 = some (.goto (-24), 3, 0, 0, 0) := by decide +kernel
theorem vkq_0 : xe_look (xc 126) 0 = some (.aload_n 0, 1, 0, 0, 0) := by decide +kernel
theorem vkq_1 : xe_look (xc 126) 1 = some (.getfield 20, 3, 11, 3, 1029) := by decide +kernel
theorem vkq_4 : xe_look (xc 126) 4 = some (.aload_n 0, 1, 0, 0, 0) := by decide +kernel
theorem vkq_5 : xe_look (xc 126) 5 = some (.getfield 16, 3, 11, 2, 983) := by decide +kernel
theorem vkq_8 : xe_look (xc 126) 8 = some (.invokevirtual 398, 3, 0, 79, 1050) := by decide +kernel
theorem vkq_11 : xe_look (xc 126) 11 = some (.aload_n 0, 1, 0, 0, 0) := by decide +kernel
theorem vkq_12 : xe_look (xc 126) 12 = some (.iconst 1, 1, 0, 0, 0) := by decide +kernel
theorem vkq_13 : xe_look (xc 126) 13 = some (.putfield 401, 3, 11, 4, 1051) := by decide +kernel
theorem vkq_16 : xe_look (xc 126) 16 = some (.aload_n 0, 1, 0, 0, 0) := by decide +kernel
theorem vkq_17 : xe_look (xc 126) 17 = some (.getfield 16, 3, 11, 2, 983) := by decide +kernel
theorem vkq_20 : xe_look (xc 126) 20 = some (.invokevirtual 404, 3, 0, 83, 998) := by decide +kernel
theorem vkq_23 : xe_look (xc 126) 23 = some (.ireturn, 1, 0, 0, 0) := by decide +kernel
theorem vuq_0 : xe_look (xc 160) 0 = some (.aload_n 0, 1, 0, 0, 0) := by decide +kernel
theorem vuq_1 : xe_look (xc 160) 1 = some (.getfield 401, 3, 11, 4, 1051) := by decide +kernel
theorem vuq_4 : xe_look (xc 160) 4 = some (.ifCond .eq 14, 3, 0, 0, 0) := by decide +kernel
theorem vuq_7 : xe_look (xc 160) 7 = some (.aload_n 0, 1, 0, 0, 0) := by decide +kernel
theorem vuq_8 : xe_look (xc 160) 8 = some (.getfield 16, 3, 11, 2, 983) := by decide +kernel
theorem vuq_11 : xe_look (xc 160) 11 = some (.aload_n 0, 1, 0, 0, 0) := by decide +kernel
theorem vuq_12 : xe_look (xc 160) 12 = some (.getfield 20, 3, 11, 3, 1029) := by decide +kernel
theorem vuq_15 : xe_look (xc 160) 15 = some (.invokevirtual 398, 3, 0, 79, 1050) := by decide +kernel
theorem vuq_18 : xe_look (xc 160) 18 = some (.aload_n 0, 1, 0, 0, 0) := by decide +kernel
theorem vuq_19 : xe_look (xc 160) 19 = some (.getfield 401, 3, 11, 4, 1051) := by decide +kernel
theorem vuq_22 : xe_look (xc 160) 22 = some (.ireturn, 1, 0, 0, 0) := by decide +kernel


def tk8 (K : Nat) : List (Nat × Nat) := [(K, 8)]
def d8 (h g : pH) (D S j : Nat) : Prop := cF g (D + 2 * j) 8 = cF h (S + 2 * j) 8
theorem d8_f {W : Nat} {h g g1 : pH} {D S j : Nat} (hM : f_M W g g1) (h1 : W.testBit (cn (D + 2 * j) + 8) = false) (hd : d8 h g D S j) : d8 h g1 D S j := (cF_M hM h1).trans hd
theorem d8_t {h g g1 : pH} {D S E j : Nat} (h1 : d8 g g1 D S j) (h2 : d8 h g S E j) : d8 h g1 D E j := Eq.trans h1 h2
theorem W73_8 : ∀ m, m < 32 → ∀ j, j < 32 → ((W73 78 m).testBit (cn (4 + 2 * j) + 8) = false ∧ (W73 4 m).testBit (cn (78 + 2 * j) + 8) = false) ∧ (j ≠ m → (W73 78 m).testBit (cn (78 + 2 * j) + 8) = false ∧ (W73 4 m).testBit (cn (4 + 2 * j) + 8) = false) := by decide +kernel
theorem tce_2 (K : Nat) : sEf (tk8 K) K 2 1 = true := by
  unfold sEf tk8
  rw [List.all_eq_true]
  intro j hj
  have hj : j < 1 := List.mem_range.mp hj
  rw [show j = 0 by omega]
  simp
theorem tce_3 (K : Nat) : sEf (tk8 K) K 3 1 = true := by
  unfold sEf tk8
  rw [List.all_eq_true]
  intro j hj
  have hj : j < 1 := List.mem_range.mp hj
  rw [show j = 0 by omega]
  simp
theorem tce_4 (K : Nat) : sEf (tk8 K) K 4 1 = true := by
  unfold sEf tk8
  rw [List.all_eq_true]
  intro j hj
  have hj : j < 1 := List.mem_range.mp hj
  rw [show j = 0 by omega]
  simp
theorem tce_5 (K : Nat) : sEf (tk8 K) K 5 1 = true := by
  unfold sEf tk8
  rw [List.all_eq_true]
  intro j hj
  have hj : j < 1 := List.mem_range.mp hj
  rw [show j = 0 by omega]
  simp
theorem tce_6 (K : Nat) : sEf (tk8 K) K 6 1 = true := by
  unfold sEf tk8
  rw [List.all_eq_true]
  intro j hj
  have hj : j < 1 := List.mem_range.mp hj
  rw [show j = 0 by omega]
  simp
theorem tce_7 (K : Nat) : sEf (tk8 K) K 7 1 = true := by
  unfold sEf tk8
  rw [List.all_eq_true]
  intro j hj
  have hj : j < 1 := List.mem_range.mp hj
  rw [show j = 0 by omega]
  simp
theorem tce_8 (K : Nat) : sEf (tk8 K) K 8 0 = true := by
  unfold sEf tk8
  rw [List.all_eq_true]
  intro j hj
  have hj : j < 1 := List.mem_range.mp hj
  rw [show j = 0 by omega]
  rfl
theorem tce_9 (K : Nat) : sEf (tk8 K) K 9 1 = true := by
  unfold sEf tk8
  rw [List.all_eq_true]
  intro j hj
  have hj : j < 1 := List.mem_range.mp hj
  rw [show j = 0 by omega]
  simp
set_option maxHeartbeats 2000000 in
theorem uca78_run {m : Nat} (hm : m < 32) {d : Nat} (hd : 2 ≤ d) (hd2 : d ≤ 1000000) {g0 : pH} (hG : g_I eG g0) (hx : xL g0) {P : Option pv × pH → Prop} (hP : ∀ g1 : pH, g_I eG g1 → xL g1 → f_M (W73 78 m) g0 g1 → d8 g0 g1 78 4 m → P (none, g1)) {lv : List (Nat × pv)} (l0 : px_lg lv 0 = some (pvR (78 + 2 * m))) (l1 : px_lg lv 1 = some (pvR (4 + 2 * m))) : t_X d 73 0 lv [] g0 P := by
  have hS : sE (tk8 (78 + 2 * m)) [79 + 2 * m] (W73 78 m) g0 g0 [cF g0 (78 + 2 * m) 8] [fA g0 (79 + 2 * m)] := S_0 hG
  refine t_0 uca78_0 rfl (ld_a l1) ?_
  refine t_0 uca78_1 rfl (tc_r4 hm (S_J hS).1) ?_
  show t_X d 73 4 lv [pvR (5 + 2 * m)] g0 P
  refine t_0 uca78_4 rfl rfl ?_
  refine t_0 uca78_5 rfl (ld_a l0) ?_
  refine t_0 uca78_6 rfl (tc_r78 hm (S_J hS).1) ?_
  show t_X d 73 9 lv [pvR (79 + 2 * m), oI 0, pvR (5 + 2 * m)] g0 P
  refine t_0 uca78_9 rfl rfl ?_
  refine t_0 uca78_10 rfl (pq_b (by decide)) ?_
  refine ts_cp (n := 0) rfl rfl (tc_b _) uca78_12 (by omega) (Nat.le_of_ble_eq_true rfl) hS (tc_a m hm).1.2 (tc_a m hm).1.1 rfl ⟨by omega, by omega, by omega⟩ (tc_a m hm).2.1.1 (tc_a m hm).2.2.1 (fun g1 hS1 => ?_)
  replace hS1 : sE (tk8 (78 + 2 * m)) [79 + 2 * m] (W73 78 m) g0 g1 [cF g0 (78 + 2 * m) 8] [fun k : Nat => if (k : Int) < 25 then fA g0 (5 + 2 * m) k else fA g0 (79 + 2 * m) k] := hS1
  show t_X d 73 15 lv [] g1 P
  refine t_0 uca78_15 rfl (ld_a l0) ?_
  refine t_0 uca78_16 rfl (ld_a l1) ?_
  have r2 := cb_z hG (el_s4 hm) (y := 2) (Nat.le_of_ble_eq_true rfl) rfl (tcg4_2 m hm)
  refine t_0 uca78_17 rfl (pq_zv (el_s4 hm) rfl (cF_M (S_J hS1).2 (tcn4_2 m hm) : cF g1 (4 + 2 * m) 2 = cF g0 (4 + 2 * m) 2)) ?_
  show t_X d 73 20 lv [oI (cF g0 (4 + 2 * m) 2), pvR (78 + 2 * m)] g1 P
  refine ts_z0 (tce_2 _) uca78_20 rfl (el_s78 hm) hS1 (tcw78_2 m hm) (tcg78_2 m hm) (by decide) ⟨by omega, by omega⟩ (by omega) (fun g3 hS3 => ?_)
  replace hS3 : sE (tk8 (78 + 2 * m)) [79 + 2 * m] (W73 78 m) g0 g3 [cF g0 (78 + 2 * m) 8] [fun k : Nat => if (k : Int) < 25 then fA g0 (5 + 2 * m) k else fA g0 (79 + 2 * m) k] := hS3
  show t_X d 73 23 lv [] g3 P
  refine t_0 uca78_23 rfl (ld_a l0) ?_
  refine t_0 uca78_24 rfl (ld_a l1) ?_
  have r4 := cb_i hG (el_s4 hm) (y := 3) (Nat.le_of_ble_eq_true rfl) rfl (tcg4_3 m hm)
  refine t_0 uca78_25 rfl (pq_cv (el_s4 hm) rfl (cF_M (S_J hS3).2 (tcn4_3 m hm) : cF g3 (4 + 2 * m) 3 = cF g0 (4 + 2 * m) 3)) ?_
  show t_X d 73 28 lv [oI (cF g0 (4 + 2 * m) 3), pvR (78 + 2 * m)] g3 P
  refine ts_f0 (tce_3 _) uca78_28 rfl (el_s78 hm) hS3 (tcw78_3 m hm) (tcg78_3 m hm) (by decide) ⟨by omega, by omega⟩ (fun g5 hS5 => ?_)
  replace hS5 : sE (tk8 (78 + 2 * m)) [79 + 2 * m] (W73 78 m) g0 g5 [cF g0 (78 + 2 * m) 8] [fun k : Nat => if (k : Int) < 25 then fA g0 (5 + 2 * m) k else fA g0 (79 + 2 * m) k] := hS5
  show t_X d 73 31 lv [] g5 P
  refine t_0 uca78_31 rfl (ld_a l0) ?_
  refine t_0 uca78_32 rfl (ld_a l1) ?_
  have r6 := cb_i hG (el_s4 hm) (y := 4) (Nat.le_of_ble_eq_true rfl) rfl (tcg4_4 m hm)
  refine t_0 uca78_33 rfl (pq_cv (el_s4 hm) rfl (cF_M (S_J hS5).2 (tcn4_4 m hm) : cF g5 (4 + 2 * m) 4 = cF g0 (4 + 2 * m) 4)) ?_
  show t_X d 73 36 lv [oI (cF g0 (4 + 2 * m) 4), pvR (78 + 2 * m)] g5 P
  refine ts_f0 (tce_4 _) uca78_36 rfl (el_s78 hm) hS5 (tcw78_4 m hm) (tcg78_4 m hm) (by decide) ⟨by omega, by omega⟩ (fun g7 hS7 => ?_)
  replace hS7 : sE (tk8 (78 + 2 * m)) [79 + 2 * m] (W73 78 m) g0 g7 [cF g0 (78 + 2 * m) 8] [fun k : Nat => if (k : Int) < 25 then fA g0 (5 + 2 * m) k else fA g0 (79 + 2 * m) k] := hS7
  show t_X d 73 39 lv [] g7 P
  refine t_0 uca78_39 rfl (ld_a l0) ?_
  refine t_0 uca78_40 rfl (ld_a l1) ?_
  have r8 := cb_i hG (el_s4 hm) (y := 5) (Nat.le_of_ble_eq_true rfl) rfl (tcg4_5 m hm)
  refine t_0 uca78_41 rfl (pq_cv (el_s4 hm) rfl (cF_M (S_J hS7).2 (tcn4_5 m hm) : cF g7 (4 + 2 * m) 5 = cF g0 (4 + 2 * m) 5)) ?_
  show t_X d 73 44 lv [oI (cF g0 (4 + 2 * m) 5), pvR (78 + 2 * m)] g7 P
  refine ts_f0 (tce_5 _) uca78_44 rfl (el_s78 hm) hS7 (tcw78_5 m hm) (tcg78_5 m hm) (by decide) ⟨by omega, by omega⟩ (fun g9 hS9 => ?_)
  replace hS9 : sE (tk8 (78 + 2 * m)) [79 + 2 * m] (W73 78 m) g0 g9 [cF g0 (78 + 2 * m) 8] [fun k : Nat => if (k : Int) < 25 then fA g0 (5 + 2 * m) k else fA g0 (79 + 2 * m) k] := hS9
  show t_X d 73 47 lv [] g9 P
  refine t_0 uca78_47 rfl (ld_a l0) ?_
  refine t_0 uca78_48 rfl (ld_a l1) ?_
  have r10 := cb_i hG (el_s4 hm) (y := 6) (Nat.le_of_ble_eq_true rfl) rfl (tcg4_6 m hm)
  refine t_0 uca78_49 rfl (pq_cv (el_s4 hm) rfl (cF_M (S_J hS9).2 (tcn4_6 m hm) : cF g9 (4 + 2 * m) 6 = cF g0 (4 + 2 * m) 6)) ?_
  show t_X d 73 52 lv [oI (cF g0 (4 + 2 * m) 6), pvR (78 + 2 * m)] g9 P
  refine ts_f0 (tce_6 _) uca78_52 rfl (el_s78 hm) hS9 (tcw78_6 m hm) (tcg78_6 m hm) (by decide) ⟨by omega, by omega⟩ (fun g11 hS11 => ?_)
  replace hS11 : sE (tk8 (78 + 2 * m)) [79 + 2 * m] (W73 78 m) g0 g11 [cF g0 (78 + 2 * m) 8] [fun k : Nat => if (k : Int) < 25 then fA g0 (5 + 2 * m) k else fA g0 (79 + 2 * m) k] := hS11
  show t_X d 73 55 lv [] g11 P
  refine t_0 uca78_55 rfl (ld_a l0) ?_
  refine t_0 uca78_56 rfl (ld_a l1) ?_
  have r12 := cb_i hG (el_s4 hm) (y := 7) (Nat.le_of_ble_eq_true rfl) rfl (tcg4_7 m hm)
  refine t_0 uca78_57 rfl (pq_cv (el_s4 hm) rfl (cF_M (S_J hS11).2 (tcn4_7 m hm) : cF g11 (4 + 2 * m) 7 = cF g0 (4 + 2 * m) 7)) ?_
  show t_X d 73 60 lv [oI (cF g0 (4 + 2 * m) 7), pvR (78 + 2 * m)] g11 P
  refine ts_f0 (tce_7 _) uca78_60 rfl (el_s78 hm) hS11 (tcw78_7 m hm) (tcg78_7 m hm) (by decide) ⟨by omega, by omega⟩ (fun g13 hS13 => ?_)
  replace hS13 : sE (tk8 (78 + 2 * m)) [79 + 2 * m] (W73 78 m) g0 g13 [cF g0 (78 + 2 * m) 8] [fun k : Nat => if (k : Int) < 25 then fA g0 (5 + 2 * m) k else fA g0 (79 + 2 * m) k] := hS13
  show t_X d 73 63 lv [] g13 P
  refine t_0 uca78_63 rfl (ld_a l0) ?_
  refine t_0 uca78_64 rfl (ld_a l1) ?_
  have r14 := cb_i hG (el_s4 hm) (y := 8) (Nat.le_of_ble_eq_true rfl) rfl (tcg4_8 m hm)
  refine t_0 uca78_65 rfl (pq_cv (el_s4 hm) rfl (cF_M (S_J hS13).2 (tcn4_8 m hm) : cF g13 (4 + 2 * m) 8 = cF g0 (4 + 2 * m) 8)) ?_
  show t_X d 73 68 lv [oI (cF g0 (4 + 2 * m) 8), pvR (78 + 2 * m)] g13 P
  refine ts_f (n := 0) rfl rfl (tce_8 _) uca78_68 rfl (el_s78 hm) hS13 (tcw78_8 m hm) (tcg78_8 m hm) (by decide) ⟨by omega, by omega⟩ (fun g15 hS15 => ?_)
  replace hS15 : sE (tk8 (78 + 2 * m)) [79 + 2 * m] (W73 78 m) g0 g15 [cF g0 (4 + 2 * m) 8] [fun k : Nat => if (k : Int) < 25 then fA g0 (5 + 2 * m) k else fA g0 (79 + 2 * m) k] := hS15
  show t_X d 73 71 lv [] g15 P
  refine t_0 uca78_71 rfl (ld_a l0) ?_
  refine t_0 uca78_72 rfl (ld_a l1) ?_
  have r16 := cb_i hG (el_s4 hm) (y := 9) (Nat.le_of_ble_eq_true rfl) rfl (tcg4_9 m hm)
  refine t_0 uca78_73 rfl (pq_cv (el_s4 hm) rfl (cF_M (S_J hS15).2 (tcn4_9 m hm) : cF g15 (4 + 2 * m) 9 = cF g0 (4 + 2 * m) 9)) ?_
  show t_X d 73 76 lv [oI (cF g0 (4 + 2 * m) 9), pvR (78 + 2 * m)] g15 P
  refine ts_f0 (tce_9 _) uca78_76 rfl (el_s78 hm) hS15 (tcw78_9 m hm) (tcg78_9 m hm) (by decide) ⟨by omega, by omega⟩ (fun g17 hS17 => ?_)
  replace hS17 : sE (tk8 (78 + 2 * m)) [79 + 2 * m] (W73 78 m) g0 g17 [cF g0 (4 + 2 * m) 8] [fun k : Nat => if (k : Int) < 25 then fA g0 (5 + 2 * m) k else fA g0 (79 + 2 * m) k] := hS17
  show t_X d 73 79 lv [] g17 P
  refine t_5 uca78_79 rfl rfl ?_
  exact hP g17 (S_J hS17).1 (xL_K _ _ _ (S_J hS17).2 (tc_a m hm).2.2.2.1 hx) (S_J hS17).2 (S_f hS17 0 (Nat.le_of_ble_eq_true rfl))
set_option maxHeartbeats 2000000 in
theorem uca4_run {m : Nat} (hm : m < 32) {d : Nat} (hd : 2 ≤ d) (hd2 : d ≤ 1000000) {g0 : pH} (hG : g_I eG g0) (hx : xL g0) {P : Option pv × pH → Prop} (hP : ∀ g1 : pH, g_I eG g1 → xL g1 → f_M (W73 4 m) g0 g1 → d8 g0 g1 4 78 m → P (none, g1)) {lv : List (Nat × pv)} (l0 : px_lg lv 0 = some (pvR (4 + 2 * m))) (l1 : px_lg lv 1 = some (pvR (78 + 2 * m))) : t_X d 73 0 lv [] g0 P := by
  have hS : sE (tk8 (4 + 2 * m)) [5 + 2 * m] (W73 4 m) g0 g0 [cF g0 (4 + 2 * m) 8] [fA g0 (5 + 2 * m)] := S_0 hG
  refine t_0 uca4_0 rfl (ld_a l1) ?_
  refine t_0 uca4_1 rfl (tc_r78 hm (S_J hS).1) ?_
  show t_X d 73 4 lv [pvR (79 + 2 * m)] g0 P
  refine t_0 uca4_4 rfl rfl ?_
  refine t_0 uca4_5 rfl (ld_a l0) ?_
  refine t_0 uca4_6 rfl (tc_r4 hm (S_J hS).1) ?_
  show t_X d 73 9 lv [pvR (5 + 2 * m), oI 0, pvR (79 + 2 * m)] g0 P
  refine t_0 uca4_9 rfl rfl ?_
  refine t_0 uca4_10 rfl (pq_b (by decide)) ?_
  refine ts_cp (n := 0) rfl rfl (tc_b _) uca4_12 (by omega) (Nat.le_of_ble_eq_true rfl) hS (tc_a m hm).1.1 (tc_a m hm).1.2 rfl ⟨by omega, by omega, by omega⟩ (tc_a m hm).2.1.2 (tc_a m hm).2.2.1.symm (fun g1 hS1 => ?_)
  replace hS1 : sE (tk8 (4 + 2 * m)) [5 + 2 * m] (W73 4 m) g0 g1 [cF g0 (4 + 2 * m) 8] [fun k : Nat => if (k : Int) < 25 then fA g0 (79 + 2 * m) k else fA g0 (5 + 2 * m) k] := hS1
  show t_X d 73 15 lv [] g1 P
  refine t_0 uca4_15 rfl (ld_a l0) ?_
  refine t_0 uca4_16 rfl (ld_a l1) ?_
  have r2 := cb_z hG (el_s78 hm) (y := 2) (Nat.le_of_ble_eq_true rfl) rfl (tcg78_2 m hm)
  refine t_0 uca4_17 rfl (pq_zv (el_s78 hm) rfl (cF_M (S_J hS1).2 (tcn78_2 m hm) : cF g1 (78 + 2 * m) 2 = cF g0 (78 + 2 * m) 2)) ?_
  show t_X d 73 20 lv [oI (cF g0 (78 + 2 * m) 2), pvR (4 + 2 * m)] g1 P
  refine ts_z0 (tce_2 _) uca4_20 rfl (el_s4 hm) hS1 (tcw4_2 m hm) (tcg4_2 m hm) (by decide) ⟨by omega, by omega⟩ (by omega) (fun g3 hS3 => ?_)
  replace hS3 : sE (tk8 (4 + 2 * m)) [5 + 2 * m] (W73 4 m) g0 g3 [cF g0 (4 + 2 * m) 8] [fun k : Nat => if (k : Int) < 25 then fA g0 (79 + 2 * m) k else fA g0 (5 + 2 * m) k] := hS3
  show t_X d 73 23 lv [] g3 P
  refine t_0 uca4_23 rfl (ld_a l0) ?_
  refine t_0 uca4_24 rfl (ld_a l1) ?_
  have r4 := cb_i hG (el_s78 hm) (y := 3) (Nat.le_of_ble_eq_true rfl) rfl (tcg78_3 m hm)
  refine t_0 uca4_25 rfl (pq_cv (el_s78 hm) rfl (cF_M (S_J hS3).2 (tcn78_3 m hm) : cF g3 (78 + 2 * m) 3 = cF g0 (78 + 2 * m) 3)) ?_
  show t_X d 73 28 lv [oI (cF g0 (78 + 2 * m) 3), pvR (4 + 2 * m)] g3 P
  refine ts_f0 (tce_3 _) uca4_28 rfl (el_s4 hm) hS3 (tcw4_3 m hm) (tcg4_3 m hm) (by decide) ⟨by omega, by omega⟩ (fun g5 hS5 => ?_)
  replace hS5 : sE (tk8 (4 + 2 * m)) [5 + 2 * m] (W73 4 m) g0 g5 [cF g0 (4 + 2 * m) 8] [fun k : Nat => if (k : Int) < 25 then fA g0 (79 + 2 * m) k else fA g0 (5 + 2 * m) k] := hS5
  show t_X d 73 31 lv [] g5 P
  refine t_0 uca4_31 rfl (ld_a l0) ?_
  refine t_0 uca4_32 rfl (ld_a l1) ?_
  have r6 := cb_i hG (el_s78 hm) (y := 4) (Nat.le_of_ble_eq_true rfl) rfl (tcg78_4 m hm)
  refine t_0 uca4_33 rfl (pq_cv (el_s78 hm) rfl (cF_M (S_J hS5).2 (tcn78_4 m hm) : cF g5 (78 + 2 * m) 4 = cF g0 (78 + 2 * m) 4)) ?_
  show t_X d 73 36 lv [oI (cF g0 (78 + 2 * m) 4), pvR (4 + 2 * m)] g5 P
  refine ts_f0 (tce_4 _) uca4_36 rfl (el_s4 hm) hS5 (tcw4_4 m hm) (tcg4_4 m hm) (by decide) ⟨by omega, by omega⟩ (fun g7 hS7 => ?_)
  replace hS7 : sE (tk8 (4 + 2 * m)) [5 + 2 * m] (W73 4 m) g0 g7 [cF g0 (4 + 2 * m) 8] [fun k : Nat => if (k : Int) < 25 then fA g0 (79 + 2 * m) k else fA g0 (5 + 2 * m) k] := hS7
  show t_X d 73 39 lv [] g7 P
  refine t_0 uca4_39 rfl (ld_a l0) ?_
  refine t_0 uca4_40 rfl (ld_a l1) ?_
  have r8 := cb_i hG (el_s78 hm) (y := 5) (Nat.le_of_ble_eq_true rfl) rfl (tcg78_5 m hm)
  refine t_0 uca4_41 rfl (pq_cv (el_s78 hm) rfl (cF_M (S_J hS7).2 (tcn78_5 m hm) : cF g7 (78 + 2 * m) 5 = cF g0 (78 + 2 * m) 5)) ?_
  show t_X d 73 44 lv [oI (cF g0 (78 + 2 * m) 5), pvR (4 + 2 * m)] g7 P
  refine ts_f0 (tce_5 _) uca4_44 rfl (el_s4 hm) hS7 (tcw4_5 m hm) (tcg4_5 m hm) (by decide) ⟨by omega, by omega⟩ (fun g9 hS9 => ?_)
  replace hS9 : sE (tk8 (4 + 2 * m)) [5 + 2 * m] (W73 4 m) g0 g9 [cF g0 (4 + 2 * m) 8] [fun k : Nat => if (k : Int) < 25 then fA g0 (79 + 2 * m) k else fA g0 (5 + 2 * m) k] := hS9
  show t_X d 73 47 lv [] g9 P
  refine t_0 uca4_47 rfl (ld_a l0) ?_
  refine t_0 uca4_48 rfl (ld_a l1) ?_
  have r10 := cb_i hG (el_s78 hm) (y := 6) (Nat.le_of_ble_eq_true rfl) rfl (tcg78_6 m hm)
  refine t_0 uca4_49 rfl (pq_cv (el_s78 hm) rfl (cF_M (S_J hS9).2 (tcn78_6 m hm) : cF g9 (78 + 2 * m) 6 = cF g0 (78 + 2 * m) 6)) ?_
  show t_X d 73 52 lv [oI (cF g0 (78 + 2 * m) 6), pvR (4 + 2 * m)] g9 P
  refine ts_f0 (tce_6 _) uca4_52 rfl (el_s4 hm) hS9 (tcw4_6 m hm) (tcg4_6 m hm) (by decide) ⟨by omega, by omega⟩ (fun g11 hS11 => ?_)
  replace hS11 : sE (tk8 (4 + 2 * m)) [5 + 2 * m] (W73 4 m) g0 g11 [cF g0 (4 + 2 * m) 8] [fun k : Nat => if (k : Int) < 25 then fA g0 (79 + 2 * m) k else fA g0 (5 + 2 * m) k] := hS11
  show t_X d 73 55 lv [] g11 P
  refine t_0 uca4_55 rfl (ld_a l0) ?_
  refine t_0 uca4_56 rfl (ld_a l1) ?_
  have r12 := cb_i hG (el_s78 hm) (y := 7) (Nat.le_of_ble_eq_true rfl) rfl (tcg78_7 m hm)
  refine t_0 uca4_57 rfl (pq_cv (el_s78 hm) rfl (cF_M (S_J hS11).2 (tcn78_7 m hm) : cF g11 (78 + 2 * m) 7 = cF g0 (78 + 2 * m) 7)) ?_
  show t_X d 73 60 lv [oI (cF g0 (78 + 2 * m) 7), pvR (4 + 2 * m)] g11 P
  refine ts_f0 (tce_7 _) uca4_60 rfl (el_s4 hm) hS11 (tcw4_7 m hm) (tcg4_7 m hm) (by decide) ⟨by omega, by omega⟩ (fun g13 hS13 => ?_)
  replace hS13 : sE (tk8 (4 + 2 * m)) [5 + 2 * m] (W73 4 m) g0 g13 [cF g0 (4 + 2 * m) 8] [fun k : Nat => if (k : Int) < 25 then fA g0 (79 + 2 * m) k else fA g0 (5 + 2 * m) k] := hS13
  show t_X d 73 63 lv [] g13 P
  refine t_0 uca4_63 rfl (ld_a l0) ?_
  refine t_0 uca4_64 rfl (ld_a l1) ?_
  have r14 := cb_i hG (el_s78 hm) (y := 8) (Nat.le_of_ble_eq_true rfl) rfl (tcg78_8 m hm)
  refine t_0 uca4_65 rfl (pq_cv (el_s78 hm) rfl (cF_M (S_J hS13).2 (tcn78_8 m hm) : cF g13 (78 + 2 * m) 8 = cF g0 (78 + 2 * m) 8)) ?_
  show t_X d 73 68 lv [oI (cF g0 (78 + 2 * m) 8), pvR (4 + 2 * m)] g13 P
  refine ts_f (n := 0) rfl rfl (tce_8 _) uca4_68 rfl (el_s4 hm) hS13 (tcw4_8 m hm) (tcg4_8 m hm) (by decide) ⟨by omega, by omega⟩ (fun g15 hS15 => ?_)
  replace hS15 : sE (tk8 (4 + 2 * m)) [5 + 2 * m] (W73 4 m) g0 g15 [cF g0 (78 + 2 * m) 8] [fun k : Nat => if (k : Int) < 25 then fA g0 (79 + 2 * m) k else fA g0 (5 + 2 * m) k] := hS15
  show t_X d 73 71 lv [] g15 P
  refine t_0 uca4_71 rfl (ld_a l0) ?_
  refine t_0 uca4_72 rfl (ld_a l1) ?_
  have r16 := cb_i hG (el_s78 hm) (y := 9) (Nat.le_of_ble_eq_true rfl) rfl (tcg78_9 m hm)
  refine t_0 uca4_73 rfl (pq_cv (el_s78 hm) rfl (cF_M (S_J hS15).2 (tcn78_9 m hm) : cF g15 (78 + 2 * m) 9 = cF g0 (78 + 2 * m) 9)) ?_
  show t_X d 73 76 lv [oI (cF g0 (78 + 2 * m) 9), pvR (4 + 2 * m)] g15 P
  refine ts_f0 (tce_9 _) uca4_76 rfl (el_s4 hm) hS15 (tcw4_9 m hm) (tcg4_9 m hm) (by decide) ⟨by omega, by omega⟩ (fun g17 hS17 => ?_)
  replace hS17 : sE (tk8 (4 + 2 * m)) [5 + 2 * m] (W73 4 m) g0 g17 [cF g0 (78 + 2 * m) 8] [fun k : Nat => if (k : Int) < 25 then fA g0 (79 + 2 * m) k else fA g0 (5 + 2 * m) k] := hS17
  show t_X d 73 79 lv [] g17 P
  refine t_5 uca4_79 rfl rfl ?_
  exact hP g17 (S_J hS17).1 (xL_K _ _ _ (S_J hS17).2 (tc_a m hm).2.2.2.2 hx) (S_J hS17).2 (S_f hS17 0 (Nat.le_of_ble_eq_true rfl))
def kxk_t : eK := (79, (2, [(0, 2, (0, 100000, [77])), (1, 2, (0, 100000, [3]))], [], []), (0, []), 5476726935787508345714640739271923972983571412386570705989221085222589944826992132699889406449473688067297092339463162909809896761580005569786743676997061624822433437424169402753881503870020764014682956806920062812529676760645632, [(none, [], [])])
theorem exk_t : ex_mid eG eKT eDX 4000 kxk_t [] 29 = true := by decide +kernel
theorem Wxk_t : kxk_t.2.2.2.1 &&& kk_57.2.2.2.1 = kxk_t.2.2.2.1 ∧ ∀ j, j < 32 → kxk_t.2.2.2.1.testBit (cn (4 + 2 * j) + 8) = false ∧ kxk_t.2.2.2.1.testBit (cn (78 + 2 * j) + 8) = false := by decide +kernel
set_option maxHeartbeats 4000000 in
theorem xk_loop {d : Nat} (hd : 5 ≤ d) (hd2 : d ≤ 1000000) {h0 : pH} (hx : xL h0) (hS0 : rS h0) {P : Option pv × pH → Prop} (hP : ∀ g1 : pH, J_ kk_57.2.2.2.1 h0 g1 → xL g1 → (∀ j, j < 32 → d8 h0 g1 78 4 j) → (∀ j, j < 32 → d8 h0 g1 4 4 j) → P (none, g1)) : ∀ (n m : Nat) (lv : List (Nat × pv)) (g : pH), 32 - m ≤ n → m ≤ 32 → J_ kk_57.2.2.2.1 h0 g → (∀ j, j < m → d8 h0 g 78 4 j) → (∀ j, j < 32 → d8 h0 g 4 4 j) → px_lg lv 0 = some (pvR 76) → px_lg lv 1 = some (pvR 2) → px_lg lv 2 = some (oI (m : Int)) → t_X d 79 2 lv [] g P := by
  intro n
  induction n with
  | zero =>
    intro m lv g hn hm2 hJ hc hs l0 l1 l2
    refine t_0 vct78_2 rfl (ld_i l2) ?_
    refine t_0 vct78_3 rfl (pq_b (by decide)) ?_
    refine tb_ge vct78_5 (by decide) ⟨by omega, by omega⟩ ⟨by omega, by omega⟩ (fun c1 => ?_) (fun c1 => absurd c1 (by omega))
    show t_X d 79 29 lv [] g P
    refine mid_L (k := kxk_t) exk_t hJ.1 (xL_K _ _ _ hJ.2 Wku_b.2.1 hx) (xs := [cv (pvR 76), cv (pvR 2)]) (ys := []) ⟨by show 2 ≤ _; omega, ⟨⟨pvR 76, l0, rfl, rfl, ok_rl rfl (by decide)⟩, ⟨pvR 2, l1, rfl, rfl, ok_rl rfl (by decide)⟩, trivial⟩, trivial, fun c hc => absurd hc List.not_mem_nil⟩ (by omega) (fun o G1 X1 M1 P1 => ?_)
    obtain ⟨o1, o2⟩ := o
    obtain ⟨rfl, ys, hF⟩ := po_n P1
    exact hP o2 (J_up Wxk_t.1 hJ ⟨G1, M1⟩) X1 (fun j hj => d8_f M1 (Wxk_t.2 j hj).2 (hc j (by omega))) (fun j hj => d8_f M1 (Wxk_t.2 j hj).1 (hs j hj))
  | succ n ih =>
    intro m lv g hn hm2 hJ hc hs l0 l1 l2
    by_cases hm : m < 32
    · have hSg := rS_M hJ.2 ⟨Wku_b.2.2.1, Wku_b.2.2.2.1⟩ hS0
      refine t_0 vct78_2 rfl (ld_i l2) ?_
      refine t_0 vct78_3 rfl (pq_b (by decide)) ?_
      refine tb_ge vct78_5 (by decide) ⟨by omega, by omega⟩ ⟨by omega, by omega⟩ (fun c1 => absurd c1 (by omega)) (fun c1 => ?_)
      show t_X d 79 8 lv [] g P
      refine t_0 vct78_8 rfl (ld_a l0) ?_
      refine t_0 vct78_9 rfl (cr_76_0 hJ.1) ?_
      refine t_0 vct78_12 rfl (ld_i l2) ?_
      refine t_0 vct78_13 rfl (pq_a77 hSg hm (by omega)) ?_
      refine t_0 vct78_14 rfl (ld_a l1) ?_
      refine t_0 vct78_15 rfl (cr_2_0 hJ.1) ?_
      refine t_0 vct78_18 rfl (ld_i l2) ?_
      refine t_0 vct78_19 rfl (pq_a3 hSg hm (by omega)) ?_
      refine t_3 vct78_20 rfl (ar := ([pvR (78 + 2 * m), pvR (4 + 2 * m)], [])) (pcal_v1 rfl rfl (el_s78 hm)) ⟨by omega, Nat.le_of_ble_eq_true rfl, Nat.le_of_ble_eq_true rfl, rfl⟩ ?_
      refine uca78_run hm (by omega) (by omega) hJ.1 (xL_K _ _ _ hJ.2 Wku_b.2.1 hx) (fun o2 G1 X1 M1 P1 => ?_) rfl rfl
      have hJ9 : J_ kk_57.2.2.2.1 h0 o2 := J_up (W73_k m hm).1 hJ ⟨G1, M1⟩
      show t_X d 79 23 lv [] o2 P
      refine t_2 vct78_23 rfl (w := (px_s1 lv 2 (oI ((m : Int) + 1)), [])) (pq_inc l2 (by decide)) ?_
      replace l0 : px_lg (px_s1 lv 2 (oI ((m : Int) + 1))) 0 = some (pvR 76) := s1_ne (by decide) (fun _ => rfl) l0
      replace l1 : px_lg (px_s1 lv 2 (oI ((m : Int) + 1))) 1 = some (pvR 2) := s1_ne (by decide) (fun _ => rfl) l1
      have l2 : px_lg (px_s1 lv 2 (oI ((m : Int) + 1))) 2 = some (oI ((m : Int) + 1)) := s1_eq
      generalize px_s1 lv 2 (oI ((m : Int) + 1)) = lv2 at l0 l1 l2 ⊢
      show t_X d 79 26 lv2 [] o2 P
      refine t_1 vct78_26 rfl (pb_goto (pc := 26) (by decide)) ?_
      show t_X d 79 2 lv2 [] o2 P
      refine ih (m + 1) _ o2 (by omega) (by omega) hJ9 (fun j hj => ?_) (fun j hj => ?_) l0 l1 l2
      · rcases Nat.lt_or_ge j m with z | z
        · exact d8_f M1 (((W73_8 m hm j (by omega)).2 (by omega)).1) (hc j z)
        · rw [show j = m by omega]; exact d8_t P1 (hs m hm)
      · exact d8_f M1 ((W73_8 m hm j hj).1.1) (hs j hj)
    · skip
      refine t_0 vct78_2 rfl (ld_i l2) ?_
      refine t_0 vct78_3 rfl (pq_b (by decide)) ?_
      refine tb_ge vct78_5 (by decide) ⟨by omega, by omega⟩ ⟨by omega, by omega⟩ (fun c1 => ?_) (fun c1 => absurd c1 (by omega))
      show t_X d 79 29 lv [] g P
      refine mid_L (k := kxk_t) exk_t hJ.1 (xL_K _ _ _ hJ.2 Wku_b.2.1 hx) (xs := [cv (pvR 76), cv (pvR 2)]) (ys := []) ⟨by show 2 ≤ _; omega, ⟨⟨pvR 76, l0, rfl, rfl, ok_rl rfl (by decide)⟩, ⟨pvR 2, l1, rfl, rfl, ok_rl rfl (by decide)⟩, trivial⟩, trivial, fun c hc => absurd hc List.not_mem_nil⟩ (by omega) (fun o G1 X1 M1 P1 => ?_)
      obtain ⟨o1, o2⟩ := o
      obtain ⟨rfl, ys, hF⟩ := po_n P1
      exact hP o2 (J_up Wxk_t.1 hJ ⟨G1, M1⟩) X1 (fun j hj => d8_f M1 (Wxk_t.2 j hj).2 (hc j (by omega))) (fun j hj => d8_f M1 (Wxk_t.2 j hj).1 (hs j hj))
theorem xk_run {d : Nat} (hd : 5 ≤ d) (hd2 : d ≤ 1000000) {h0 : pH} (hG : g_I eG h0) (hx : xL h0) (hS0 : rS h0) {P : Option pv × pH → Prop} (hP : ∀ g1 : pH, J_ kk_57.2.2.2.1 h0 g1 → xL g1 → (∀ j, j < 32 → d8 h0 g1 78 4 j) → (∀ j, j < 32 → d8 h0 g1 4 4 j) → P (none, g1)) {lv : List (Nat × pv)} (l0 : px_lg lv 0 = some (pvR 76)) (l1 : px_lg lv 1 = some (pvR 2)) : t_X d 79 0 lv [] h0 P := by
  have hJ : J_ kk_57.2.2.2.1 h0 h0 := J_rf hG
  refine t_0 vct78_0 rfl rfl ?_
  refine t_2 vct78_1 rfl (w := (px_s1 lv 2 (oI (0)), [])) rfl ?_
  replace l0 : px_lg (px_s1 lv 2 (oI (0))) 0 = some (pvR 76) := s1_ne (by decide) (fun _ => rfl) l0
  replace l1 : px_lg (px_s1 lv 2 (oI (0))) 1 = some (pvR 2) := s1_ne (by decide) (fun _ => rfl) l1
  have l2 : px_lg (px_s1 lv 2 (oI (0))) 2 = some (oI (0)) := s1_eq
  generalize px_s1 lv 2 (oI (0)) = lv1 at l0 l1 l2 ⊢
  show t_X d 79 2 lv1 [] h0 P
  exact xk_loop hd hd2 hx hS0 hP 32 0 _ _ (by omega) (by omega) hJ (fun j hj => absurd hj (by omega)) (fun j hj => rfl) l0 l1 l2
def kxu_t : eK := (79, (2, [(0, 2, (0, 100000, [3])), (1, 2, (0, 100000, [77]))], [], []), (0, []), 284664103360279645715273768223498491142558506955960326610821752543564306314000355569572989993787701084655697143300096, [(none, [], [])])
theorem exu_t : ex_mid eG eKT eDX 4000 kxu_t [] 29 = true := by decide +kernel
theorem Wxu_t : kxu_t.2.2.2.1 &&& kk_59.2.2.2.1 = kxu_t.2.2.2.1 ∧ ∀ j, j < 32 → kxu_t.2.2.2.1.testBit (cn (4 + 2 * j) + 8) = false ∧ kxu_t.2.2.2.1.testBit (cn (78 + 2 * j) + 8) = false := by decide +kernel
set_option maxHeartbeats 4000000 in
theorem xu_loop {d : Nat} (hd : 5 ≤ d) (hd2 : d ≤ 1000000) {h0 : pH} (hx : xL h0) (hS0 : rS h0) {P : Option pv × pH → Prop} (hP : ∀ g1 : pH, J_ kk_59.2.2.2.1 h0 g1 → xL g1 → (∀ j, j < 32 → d8 h0 g1 4 78 j) → (∀ j, j < 32 → d8 h0 g1 78 78 j) → P (none, g1)) : ∀ (n m : Nat) (lv : List (Nat × pv)) (g : pH), 32 - m ≤ n → m ≤ 32 → J_ kk_59.2.2.2.1 h0 g → (∀ j, j < m → d8 h0 g 4 78 j) → (∀ j, j < 32 → d8 h0 g 78 78 j) → px_lg lv 0 = some (pvR 2) → px_lg lv 1 = some (pvR 76) → px_lg lv 2 = some (oI (m : Int)) → t_X d 79 2 lv [] g P := by
  intro n
  induction n with
  | zero =>
    intro m lv g hn hm2 hJ hc hs l0 l1 l2
    refine t_0 vct4_2 rfl (ld_i l2) ?_
    refine t_0 vct4_3 rfl (pq_b (by decide)) ?_
    refine tb_ge vct4_5 (by decide) ⟨by omega, by omega⟩ ⟨by omega, by omega⟩ (fun c1 => ?_) (fun c1 => absurd c1 (by omega))
    show t_X d 79 29 lv [] g P
    refine mid_L (k := kxu_t) exu_t hJ.1 (xL_K _ _ _ hJ.2 Wku_b.2.2.2.2.1 hx) (xs := [cv (pvR 2), cv (pvR 76)]) (ys := []) ⟨by show 2 ≤ _; omega, ⟨⟨pvR 2, l0, rfl, rfl, ok_rl rfl (by decide)⟩, ⟨pvR 76, l1, rfl, rfl, ok_rl rfl (by decide)⟩, trivial⟩, trivial, fun c hc => absurd hc List.not_mem_nil⟩ (by omega) (fun o G1 X1 M1 P1 => ?_)
    obtain ⟨o1, o2⟩ := o
    obtain ⟨rfl, ys, hF⟩ := po_n P1
    exact hP o2 (J_up Wxu_t.1 hJ ⟨G1, M1⟩) X1 (fun j hj => d8_f M1 (Wxu_t.2 j hj).1 (hc j (by omega))) (fun j hj => d8_f M1 (Wxu_t.2 j hj).2 (hs j hj))
  | succ n ih =>
    intro m lv g hn hm2 hJ hc hs l0 l1 l2
    by_cases hm : m < 32
    · have hSg := rS_M hJ.2 ⟨Wku_b.2.2.2.2.2.1, Wku_b.2.2.2.2.2.2⟩ hS0
      refine t_0 vct4_2 rfl (ld_i l2) ?_
      refine t_0 vct4_3 rfl (pq_b (by decide)) ?_
      refine tb_ge vct4_5 (by decide) ⟨by omega, by omega⟩ ⟨by omega, by omega⟩ (fun c1 => absurd c1 (by omega)) (fun c1 => ?_)
      show t_X d 79 8 lv [] g P
      refine t_0 vct4_8 rfl (ld_a l0) ?_
      refine t_0 vct4_9 rfl (cr_2_0 hJ.1) ?_
      refine t_0 vct4_12 rfl (ld_i l2) ?_
      refine t_0 vct4_13 rfl (pq_a3 hSg hm (by omega)) ?_
      refine t_0 vct4_14 rfl (ld_a l1) ?_
      refine t_0 vct4_15 rfl (cr_76_0 hJ.1) ?_
      refine t_0 vct4_18 rfl (ld_i l2) ?_
      refine t_0 vct4_19 rfl (pq_a77 hSg hm (by omega)) ?_
      refine t_3 vct4_20 rfl (ar := ([pvR (4 + 2 * m), pvR (78 + 2 * m)], [])) (pcal_v1 rfl rfl (el_s4 hm)) ⟨by omega, Nat.le_of_ble_eq_true rfl, Nat.le_of_ble_eq_true rfl, rfl⟩ ?_
      refine uca4_run hm (by omega) (by omega) hJ.1 (xL_K _ _ _ hJ.2 Wku_b.2.2.2.2.1 hx) (fun o2 G1 X1 M1 P1 => ?_) rfl rfl
      have hJ9 : J_ kk_59.2.2.2.1 h0 o2 := J_up (W73_k m hm).2 hJ ⟨G1, M1⟩
      show t_X d 79 23 lv [] o2 P
      refine t_2 vct4_23 rfl (w := (px_s1 lv 2 (oI ((m : Int) + 1)), [])) (pq_inc l2 (by decide)) ?_
      replace l0 : px_lg (px_s1 lv 2 (oI ((m : Int) + 1))) 0 = some (pvR 2) := s1_ne (by decide) (fun _ => rfl) l0
      replace l1 : px_lg (px_s1 lv 2 (oI ((m : Int) + 1))) 1 = some (pvR 76) := s1_ne (by decide) (fun _ => rfl) l1
      have l2 : px_lg (px_s1 lv 2 (oI ((m : Int) + 1))) 2 = some (oI ((m : Int) + 1)) := s1_eq
      generalize px_s1 lv 2 (oI ((m : Int) + 1)) = lv2 at l0 l1 l2 ⊢
      show t_X d 79 26 lv2 [] o2 P
      refine t_1 vct4_26 rfl (pb_goto (pc := 26) (by decide)) ?_
      show t_X d 79 2 lv2 [] o2 P
      refine ih (m + 1) _ o2 (by omega) (by omega) hJ9 (fun j hj => ?_) (fun j hj => ?_) l0 l1 l2
      · rcases Nat.lt_or_ge j m with z | z
        · exact d8_f M1 (((W73_8 m hm j (by omega)).2 (by omega)).2) (hc j z)
        · rw [show j = m by omega]; exact d8_t P1 (hs m hm)
      · exact d8_f M1 ((W73_8 m hm j hj).1.2) (hs j hj)
    · skip
      refine t_0 vct4_2 rfl (ld_i l2) ?_
      refine t_0 vct4_3 rfl (pq_b (by decide)) ?_
      refine tb_ge vct4_5 (by decide) ⟨by omega, by omega⟩ ⟨by omega, by omega⟩ (fun c1 => ?_) (fun c1 => absurd c1 (by omega))
      show t_X d 79 29 lv [] g P
      refine mid_L (k := kxu_t) exu_t hJ.1 (xL_K _ _ _ hJ.2 Wku_b.2.2.2.2.1 hx) (xs := [cv (pvR 2), cv (pvR 76)]) (ys := []) ⟨by show 2 ≤ _; omega, ⟨⟨pvR 2, l0, rfl, rfl, ok_rl rfl (by decide)⟩, ⟨pvR 76, l1, rfl, rfl, ok_rl rfl (by decide)⟩, trivial⟩, trivial, fun c hc => absurd hc List.not_mem_nil⟩ (by omega) (fun o G1 X1 M1 P1 => ?_)
      obtain ⟨o1, o2⟩ := o
      obtain ⟨rfl, ys, hF⟩ := po_n P1
      exact hP o2 (J_up Wxu_t.1 hJ ⟨G1, M1⟩) X1 (fun j hj => d8_f M1 (Wxu_t.2 j hj).1 (hc j (by omega))) (fun j hj => d8_f M1 (Wxu_t.2 j hj).2 (hs j hj))
theorem xu_run {d : Nat} (hd : 5 ≤ d) (hd2 : d ≤ 1000000) {h0 : pH} (hG : g_I eG h0) (hx : xL h0) (hS0 : rS h0) {P : Option pv × pH → Prop} (hP : ∀ g1 : pH, J_ kk_59.2.2.2.1 h0 g1 → xL g1 → (∀ j, j < 32 → d8 h0 g1 4 78 j) → (∀ j, j < 32 → d8 h0 g1 78 78 j) → P (none, g1)) {lv : List (Nat × pv)} (l0 : px_lg lv 0 = some (pvR 2)) (l1 : px_lg lv 1 = some (pvR 76)) : t_X d 79 0 lv [] h0 P := by
  have hJ : J_ kk_59.2.2.2.1 h0 h0 := J_rf hG
  refine t_0 vct4_0 rfl rfl ?_
  refine t_2 vct4_1 rfl (w := (px_s1 lv 2 (oI (0)), [])) rfl ?_
  replace l0 : px_lg (px_s1 lv 2 (oI (0))) 0 = some (pvR 2) := s1_ne (by decide) (fun _ => rfl) l0
  replace l1 : px_lg (px_s1 lv 2 (oI (0))) 1 = some (pvR 76) := s1_ne (by decide) (fun _ => rfl) l1
  have l2 : px_lg (px_s1 lv 2 (oI (0))) 2 = some (oI (0)) := s1_eq
  generalize px_s1 lv 2 (oI (0)) = lv1 at l0 l1 l2 ⊢
  show t_X d 79 2 lv1 [] h0 P
  exact xu_loop hd hd2 hx hS0 hP 32 0 _ _ (by omega) (by omega) hJ (fun j hj => absurd hj (by omega)) (fun j hj => rfl) l0 l1 l2
set_option maxHeartbeats 2000000 in
theorem xck_run {d : Nat} (hd : 8 ≤ d) (hd2 : d ≤ 1000000) {g : pH} (hG : g_I eG g) (hx : xL g) (hS : rS g) {P : Option pv × pH → Prop} (hP : ∀ (v : pv) (g1 : pH), J_ kk_57.2.2.2.1 g g1 → (∀ j, j < 32 → d8 g g1 78 4 j) → (∀ j, j < 32 → d8 g g1 4 4 j) → P (some v, g1)) {lv : List (Nat × pv)} (l0 : px_lg lv 0 = some (pvR 0)) : t_X d 126 0 lv [] g P := by
  have hJ : J_ kk_57.2.2.2.1 g g := J_rf hG
  have w_0_4 := Wku_b.1
  refine t_0 vkq_0 rfl (ld_a l0) ?_
  refine t_0 vkq_1 rfl (cr_0_3 hJ.1) ?_
  refine t_0 vkq_4 rfl (ld_a l0) ?_
  refine t_0 vkq_5 rfl (cr_0_2 hJ.1) ?_
  refine t_3 vkq_8 rfl (ar := ([pvR 76, pvR 2], [])) (pcal_v1 rfl rfl er_76) ⟨by omega, Nat.le_of_ble_eq_true rfl, Nat.le_of_ble_eq_true rfl, rfl⟩ ?_
  refine xk_run (by omega) (by omega) hG hx hS (fun gq hJq Xq c1 c2 => ?_) rfl rfl
  show t_X d 126 11 lv [] gq P
  refine t_0 vkq_11 rfl (ld_a l0) ?_
  refine t_0 vkq_12 rfl rfl ?_
  refine tw_z vkq_13 er_0 rfl hJq w_0_4 gx_0_4 (by decide) ⟨by omega, by omega⟩ (by omega) (fun g1 hJ1 e1 => ?_)
  have v1 : cF g1 0 4 = 1 := by rw [e1]; exact pc_at (by omega) (by omega)
  show t_X d 126 16 lv [] g1 P
  refine t_0 vkq_16 rfl (ld_a l0) ?_
  refine t_0 vkq_17 rfl (cr_0_2 hJ1.1) ?_
  refine t_3 vkq_20 rfl (ar := ([pvR 2], [])) (pcal_v0 rfl rfl er_2) ⟨by omega, Nat.le_of_ble_eq_true rfl, Nat.le_of_ble_eq_true rfl, rfl⟩ ?_
  refine tc_run hJ1.1 (rS_M hJ1.2 ⟨Wku_b.2.2.1, Wku_b.2.2.2.1⟩ hS) ?_ rfl
  show t_X d 126 23 lv [oI (ctl (fun j => cF g1 (4 + 2 * j) 2) 32)] g1 P
  refine t_5 vkq_23 rfl rfl ?_
  have f9 : ∀ D S j, d8 g gq D S j → 0 < D → d8 g g1 D S j := fun D S j h0 hD => by rw [e1]; exact Eq.trans (pc_ne (by omega)) h0
  exact hP _ g1 hJ1 (fun j hj => f9 _ _ _ (c1 j hj) (by decide)) (fun j hj => f9 _ _ _ (c2 j hj) (by decide))
set_option maxHeartbeats 2000000 in
theorem xcu_run {d : Nat} (hd : 8 ≤ d) (hd2 : d ≤ 1000000) {g : pH} (hG : g_I eG g) (hx : xL g) (hS : rS g) {P : Option pv × pH → Prop} (hA : ∀ (v : pv) (g1 : pH), cF g 0 4 ≠ 0 → J_ kk_59.2.2.2.1 g g1 → (∀ j, j < 32 → d8 g g1 4 78 j) → (∀ j, j < 32 → d8 g g1 78 78 j) → P (some v, g1)) (hR : cF g 0 4 = 0 → P (some (oI (cF g 0 4)), g)) {lv : List (Nat × pv)} (l0 : px_lg lv 0 = some (pvR 0)) : t_X d 160 0 lv [] g P := by
  have hJ : J_ kk_59.2.2.2.1 g g := J_rf hG
  refine t_0 vuq_0 rfl (ld_a l0) ?_
  have r1 := cb_0_4 hJ.1
  refine t_0 vuq_1 rfl (pq_cz (y := 4) er_0 rfl) ?_
  refine tz_eq vuq_4 (by decide) ⟨by omega, by omega⟩ (fun c2 => ?_) (fun c2 => ?_)
  · show t_X d 160 18 lv [] g P
    refine t_0 vuq_18 rfl (ld_a l0) ?_
    have r3 := cb_0_4 hJ.1
    refine t_0 vuq_19 rfl (pq_cz (y := 4) er_0 rfl) ?_
    refine t_5 vuq_22 rfl (pr_z rfl (by omega)) ?_
    exact hR (by omega)
  · show t_X d 160 7 lv [] g P
    refine t_0 vuq_7 rfl (ld_a l0) ?_
    refine t_0 vuq_8 rfl (cr_0_2 hJ.1) ?_
    refine t_0 vuq_11 rfl (ld_a l0) ?_
    refine t_0 vuq_12 rfl (cr_0_3 hJ.1) ?_
    refine t_3 vuq_15 rfl (ar := ([pvR 2, pvR 76], [])) (pcal_v1 rfl rfl er_2) ⟨by omega, Nat.le_of_ble_eq_true rfl, Nat.le_of_ble_eq_true rfl, rfl⟩ ?_
    refine xu_run (by omega) (by omega) hG hx hS (fun gq hJq Xq c1 c2 => ?_) rfl rfl
    show t_X d 160 18 lv [] gq P
    refine t_0 vuq_18 rfl (ld_a l0) ?_
    have r4 := cb_0_4 hJq.1
    refine t_0 vuq_19 rfl (pq_cz (y := 4) er_0 rfl) ?_
    refine t_5 vuq_22 rfl (pr_z rfl (by omega)) ?_
    exact hA _ gq (by omega) hJq c1 c2
