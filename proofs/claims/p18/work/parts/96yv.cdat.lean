/-! the slides' data: slide, day, keep, undo of the class (printed by wip/e2/x12.py) -/
theorem vcs4_0 : xe_look (xc 79) 0 = some (.iconst 0, 1, 0, 0, 0) := by decide +kernel
theorem vcs4_1 : xe_look (xc 79) 1 = some (.istore_n 2, 1, 0, 0, 0) := by decide +kernel
theorem vcs4_2 : xe_look (xc 79) 2 = some (.iload_n 2, 1, 0, 0, 0) := by decide +kernel
theorem vcs4_3 : xe_look (xc 79) 3 = some (.bipush 32, 2, 0, 0, 0) := by decide +kernel
theorem vcs4_5 : xe_look (xc 79) 5 = some (.if_icmp .ge 24, 3, 0, 0, 0) := by decide +kernel
theorem vcs4_8 : xe_look (xc 79) 8 = some (.aload_n 0, 1, 0, 0, 0) := by decide +kernel
theorem vcs4_9 : xe_look (xc 79) 9 = some (.getfield 11, 3, 8, 0, 924) := by decide +kernel
theorem vcs4_12 : xe_look (xc 79) 12 = some (.iload_n 2, 1, 0, 0, 0) := by decide +kernel
theorem vcs4_13 : xe_look (xc 79) 13 = some (.aaload, 1, 0, 0, 0) := by decide +kernel
theorem vcs4_14 : xe_look (xc 79) 14 = some (.aload_n 1, 1, 0, 0, 0) := by decide +kernel
theorem vcs4_15 : xe_look (xc 79) 15 = some (.getfield 11, 3, 8, 0, 924) := by decide +kernel
theorem vcs4_18 : xe_look (xc 79) 18 = some (.iload_n 2, 1, 0, 0, 0) := by decide +kernel
theorem vcs4_19 : xe_look (xc 79) 19 = some (.aaload, 1, 0, 0, 0) := by decide +kernel
theorem vcs4_20 : xe_look (xc 79) 20 = some (.invokevirtual 65, 3, 0, 73, 925) := by decide +kernel
theorem vcs4_23 : xe_look (xc 79) 23 = some (.iinc 2 1, 3, 0, 0, 0) := by decide +kernel
theorem vcs4_26 : xe_look (xc 79) 26 = some (.goto (-24), 3, 0, 0, 0) := by decide +kernel
theorem vcs78_0 : xe_look (xc 79) 0 = some (.iconst 0, 1, 0, 0, 0) := by decide +kernel
theorem vcs78_1 : xe_look (xc 79) 1 = some (.istore_n 2, 1, 0, 0, 0) := by decide +kernel
theorem vcs78_2 : xe_look (xc 79) 2 = some (.iload_n 2, 1, 0, 0, 0) := by decide +kernel
theorem vcs78_3 : xe_look (xc 79) 3 = some (.bipush 32, 2, 0, 0, 0) := by decide +kernel
theorem vcs78_5 : xe_look (xc 79) 5 = some (.if_icmp .ge 24, 3, 0, 0, 0) := by decide +kernel
theorem vcs78_8 : xe_look (xc 79) 8 = some (.aload_n 0, 1, 0, 0, 0) := by decide +kernel
theorem vcs78_9 : xe_look (xc 79) 9 = some (.getfield 11, 3, 8, 0, 924) := by decide +kernel
theorem vcs78_12 : xe_look (xc 79) 12 = some (.iload_n 2, 1, 0, 0, 0) := by decide +kernel
theorem vcs78_13 : xe_look (xc 79) 13 = some (.aaload, 1, 0, 0, 0) := by decide +kernel
theorem vcs78_14 : xe_look (xc 79) 14 = some (.aload_n 1, 1, 0, 0, 0) := by decide +kernel
theorem vcs78_15 : xe_look (xc 79) 15 = some (.getfield 11, 3, 8, 0, 924) := by decide +kernel
theorem vcs78_18 : xe_look (xc 79) 18 = some (.iload_n 2, 1, 0, 0, 0) := by decide +kernel
theorem vcs78_19 : xe_look (xc 79) 19 = some (.aaload, 1, 0, 0, 0) := by decide +kernel
theorem vcs78_20 : xe_look (xc 79) 20 = some (.invokevirtual 65, 3, 0, 73, 925) := by decide +kernel
theorem vcs78_23 : xe_look (xc 79) 23 = some (.iinc 2 1, 3, 0, 0, 0) := by decide +kernel
theorem vcs78_26 : xe_look (xc 79) 26 = some (.goto (-24), 3, 0, 0, 0) := by decide +kernel
theorem vdy_0 : xe_look (xc 116) 0 = some (.aload_n 0, 1, 0, 0, 0) := by decide +kernel
theorem vdy_1 : xe_look (xc 116) 1 = some (.getfield 16, 3, 11, 2, 983) := by decide +kernel
theorem vdy_4 : xe_look (xc 116) 4 = some (.iload_n 1, 1, 0, 0, 0) := by decide +kernel
theorem vdy_5 : xe_look (xc 116) 5 = some (.invokevirtual 107, 3, 0, 84, 984) := by decide +kernel
theorem vdy_8 : xe_look (xc 116) 8 = some (.astore_n 3, 1, 0, 0, 0) := by decide +kernel
theorem vdy_9 : xe_look (xc 116) 9 = some (.aload_n 3, 1, 0, 0, 0) := by decide +kernel
theorem vdy_10 : xe_look (xc 116) 10 = some (.ifnull 13, 3, 0, 0, 0) := by decide +kernel
theorem vdy_13 : xe_look (xc 116) 13 = some (.iload_n 2, 1, 0, 0, 0) := by decide +kernel
theorem vdy_14 : xe_look (xc 116) 14 = some (.iconst 0, 1, 0, 0, 0) := by decide +kernel
theorem vdy_15 : xe_look (xc 116) 15 = some (.bipush 99, 2, 0, 0, 0) := by decide +kernel
theorem vdy_17 : xe_look (xc 116) 17 = some (.invokestatic 89, 3, 0, 124, 994) := by decide +kernel
theorem vdy_20 : xe_look (xc 116) 20 = some (.ifCond .ne 5, 3, 0, 0, 0) := by decide +kernel
theorem vdy_23 : xe_look (xc 116) 23 = some (.iconst 0, 1, 0, 0, 0) := by decide +kernel
theorem vdy_24 : xe_look (xc 116) 24 = some (.ireturn, 1, 0, 0, 0) := by decide +kernel
theorem vdy_25 : xe_look (xc 116) 25 = some (.aload_n 3, 1, 0, 0, 0) := by decide +kernel
theorem vdy_26 : xe_look (xc 116) 26 = some (.iload_n 2, 1, 0, 0, 0) := by decide +kernel
theorem vdy_27 : xe_look (xc 116) 27 = some (.putfield 118, 3, 7, 6, 1011) := by decide +kernel
theorem vdy_30 : xe_look (xc 116) 30 = some (.iconst 1, 1, 0, 0, 0) := by decide +kernel
theorem vdy_31 : xe_look (xc 116) 31 = some (.ireturn, 1, 0, 0, 0) := by decide +kernel
theorem vkp_0 : xe_look (xc 126) 0 = some (.aload_n 0, 1, 0, 0, 0) := by decide +kernel
theorem vkp_1 : xe_look (xc 126) 1 = some (.getfield 20, 3, 11, 3, 1029) := by decide +kernel
theorem vkp_4 : xe_look (xc 126) 4 = some (.aload_n 0, 1, 0, 0, 0) := by decide +kernel
theorem vkp_5 : xe_look (xc 126) 5 = some (.getfield 16, 3, 11, 2, 983) := by decide +kernel
theorem vkp_8 : xe_look (xc 126) 8 = some (.invokevirtual 398, 3, 0, 79, 1050) := by decide +kernel
theorem vkp_11 : xe_look (xc 126) 11 = some (.aload_n 0, 1, 0, 0, 0) := by decide +kernel
theorem vkp_12 : xe_look (xc 126) 12 = some (.iconst 1, 1, 0, 0, 0) := by decide +kernel
theorem vkp_13 : xe_look (xc 126) 13 = some (.putfield 401, 3, 11, 4, 1051) := by decide +kernel
theorem vkp_16 : xe_look (xc 126) 16 = some (.aload_n 0, 1, 0, 0, 0) := by decide +kernel
theorem vkp_17 : xe_look (xc 126) 17 = some (.getfield 16, 3, 11, 2, 983) := by decide +kernel
theorem vkp_20 : xe_look (xc 126) 20 = some (.invokevirtual 404, 3, 0, 83, 998) := by decide +kernel
theorem vkp_23 : xe_look (xc 126) 23 = some (.ireturn, 1, 0, 0, 0) := by decide +kernel
theorem vsl_0 : xe_look (xc 147) 0 = some (.iload_n 1, 1, 0, 0, 0) := by decide +kernel
theorem vsl_1 : xe_look (xc 147) 1 = some (.iconst 0, 1, 0, 0, 0) := by decide +kernel
theorem vsl_2 : xe_look (xc 147) 2 = some (.bipush 31, 2, 0, 0, 0) := by decide +kernel
theorem vsl_4 : xe_look (xc 147) 4 = some (.invokestatic 89, 3, 0, 124, 994) := by decide +kernel
theorem vsl_7 : xe_look (xc 147) 7 = some (.ifCond .eq 32, 3, 0, 0, 0) := by decide +kernel
theorem vsl_10 : xe_look (xc 147) 10 = some (.iload_n 2, 1, 0, 0, 0) := by decide +kernel
theorem vsl_11 : xe_look (xc 147) 11 = some (.iconst 0, 1, 0, 0, 0) := by decide +kernel
theorem vsl_12 : xe_look (xc 147) 12 = some (.iconst 3, 1, 0, 0, 0) := by decide +kernel
theorem vsl_13 : xe_look (xc 147) 13 = some (.invokestatic 89, 3, 0, 124, 994) := by decide +kernel
theorem vsl_16 : xe_look (xc 147) 16 = some (.ifCond .eq 23, 3, 0, 0, 0) := by decide +kernel
theorem vsl_19 : xe_look (xc 147) 19 = some (.iload_n 3, 1, 0, 0, 0) := by decide +kernel
theorem vsl_20 : xe_look (xc 147) 20 = some (.iconst 0, 1, 0, 0, 0) := by decide +kernel
theorem vsl_21 : xe_look (xc 147) 21 = some (.iconst 3, 1, 0, 0, 0) := by decide +kernel
theorem vsl_22 : xe_look (xc 147) 22 = some (.invokestatic 89, 3, 0, 124, 994) := by decide +kernel
theorem vsl_25 : xe_look (xc 147) 25 = some (.ifCond .eq 14, 3, 0, 0, 0) := by decide +kernel
theorem vsl_28 : xe_look (xc 147) 28 = some (.iload 4, 2, 0, 0, 0) := by decide +kernel
theorem vsl_30 : xe_look (xc 147) 30 = some (.iconst 0, 1, 0, 0, 0) := by decide +kernel
theorem vsl_31 : xe_look (xc 147) 31 = some (.bipush 99, 2, 0, 0, 0) := by decide +kernel
theorem vsl_33 : xe_look (xc 147) 33 = some (.invokestatic 89, 3, 0, 124, 994) := by decide +kernel
theorem vsl_36 : xe_look (xc 147) 36 = some (.ifCond .ne 5, 3, 0, 0, 0) := by decide +kernel
theorem vsl_41 : xe_look (xc 147) 41 = some (.aload_n 0, 1, 0, 0, 0) := by decide +kernel
theorem vsl_42 : xe_look (xc 147) 42 = some (.getfield 81, 3, 11, 1, 981) := by decide +kernel
theorem vsl_45 : xe_look (xc 147) 45 = some (.bipush 25, 2, 0, 0, 0) := by decide +kernel
theorem vsl_47 : xe_look (xc 147) 47 = some (.if_icmp .ge 5, 3, 0, 0, 0) := by decide +kernel
theorem vsl_52 : xe_look (xc 147) 52 = some (.aload_n 0, 1, 0, 0, 0) := by decide +kernel
theorem vsl_53 : xe_look (xc 147) 53 = some (.iconst 0, 1, 0, 0, 0) := by decide +kernel
theorem vsl_54 : xe_look (xc 147) 54 = some (.putfield 81, 3, 11, 1, 981) := by decide +kernel
theorem vsl_57 : xe_look (xc 147) 57 = some (.aload_n 0, 1, 0, 0, 0) := by decide +kernel
theorem vsl_58 : xe_look (xc 147) 58 = some (.invokevirtual 93, 3, 0, 152, 1095) := by decide +kernel
theorem vsl_61 : xe_look (xc 147) 61 = some (.ifCond .ne 5, 3, 0, 0, 0) := by decide +kernel
theorem vsl_64 : xe_look (xc 147) 64 = some (.iconst 0, 1, 0, 0, 0) := by decide +kernel
theorem vsl_65 : xe_look (xc 147) 65 = some (.ireturn, 1, 0, 0, 0) := by decide +kernel
theorem vsl_66 : xe_look (xc 147) 66 = some (.aload_n 0, 1, 0, 0, 0) := by decide +kernel
theorem vsl_67 : xe_look (xc 147) 67 = some (.getfield 16, 3, 11, 2, 983) := by decide +kernel
theorem vsl_70 : xe_look (xc 147) 70 = some (.getfield 97, 3, 8, 0, 1096) := by decide +kernel
theorem vsl_73 : xe_look (xc 147) 73 = some (.iload_n 1, 1, 0, 0, 0) := by decide +kernel
theorem vsl_74 : xe_look (xc 147) 74 = some (.aaload, 1, 0, 0, 0) := by decide +kernel
theorem vsl_75 : xe_look (xc 147) 75 = some (.aload_n 0, 1, 0, 0, 0) := by decide +kernel
theorem vsl_76 : xe_look (xc 147) 76 = some (.getfield 9, 3, 11, 0, 982) := by decide +kernel
theorem vsl_79 : xe_look (xc 147) 79 = some (.iload_n 2, 1, 0, 0, 0) := by decide +kernel
theorem vsl_80 : xe_look (xc 147) 80 = some (.iload_n 3, 1, 0, 0, 0) := by decide +kernel
theorem vsl_81 : xe_look (xc 147) 81 = some (.iload 4, 2, 0, 0, 0) := by decide +kernel
theorem vsl_83 : xe_look (xc 147) 83 = some (.invokevirtual 101, 3, 0, 78, 1097) := by decide +kernel
theorem vsl_86 : xe_look (xc 147) 86 = some (.iconst 1, 1, 0, 0, 0) := by decide +kernel
theorem vsl_87 : xe_look (xc 147) 87 = some (.ireturn, 1, 0, 0, 0) := by decide +kernel
theorem vun_0 : xe_look (xc 160) 0 = some (.aload_n 0, 1, 0, 0, 0) := by decide +kernel
theorem vun_1 : xe_look (xc 160) 1 = some (.getfield 401, 3, 11, 4, 1051) := by decide +kernel
theorem vun_4 : xe_look (xc 160) 4 = some (.ifCond .eq 14, 3, 0, 0, 0) := by decide +kernel
theorem vun_7 : xe_look (xc 160) 7 = some (.aload_n 0, 1, 0, 0, 0) := by decide +kernel
theorem vun_8 : xe_look (xc 160) 8 = some (.getfield 16, 3, 11, 2, 983) := by decide +kernel
theorem vun_11 : xe_look (xc 160) 11 = some (.aload_n 0, 1, 0, 0, 0) := by decide +kernel
theorem vun_12 : xe_look (xc 160) 12 = some (.getfield 20, 3, 11, 3, 1029) := by decide +kernel
theorem vun_15 : xe_look (xc 160) 15 = some (.invokevirtual 398, 3, 0, 79, 1050) := by decide +kernel
theorem vun_18 : xe_look (xc 160) 18 = some (.aload_n 0, 1, 0, 0, 0) := by decide +kernel
theorem vun_19 : xe_look (xc 160) 19 = some (.getfield 401, 3, 11, 4, 1051) := by decide +kernel
theorem vun_22 : xe_look (xc 160) 22 = some (.ireturn, 1, 0, 0, 0) := by decide +kernel
set_option maxHeartbeats 4000000 in
theorem vsl_run {d : Nat} (hd : 7 ≤ d) (hd2 : d ≤ 1000000) {g : pH} (hG : g_I eG g) (hx : xL g) (hS : rS g) {i a b c : Int} (hi : -2147483648 ≤ i ∧ i ≤ 2147483647) (ha : -2147483648 ≤ a ∧ a ≤ 2147483647) (hb9 : -2147483648 ≤ b ∧ b ≤ 2147483647) (hc : -2147483648 ≤ c ∧ c ≤ 2147483647) {P : Option pv × pH → Prop} (hA : ∀ m : Nat, m < 32 → i = m → (0 ≤ i ∧ i ≤ 31) ∧ (0 ≤ a ∧ a ≤ 3) ∧ (0 ≤ b ∧ b ≤ 3) ∧ (0 ≤ c ∧ c ≤ 99) ∧ 25 ≤ cF g 0 1 → picC g → ∀ g1 : pH, g_I eG g1 → xL g1 → f_M (WT m) (pu g.1 0 1 (Int32.ofInt 0), g.2) g1 → (cF g1 (4 + 2 * m) 3 = a ∧ cF g1 (4 + 2 * m) 4 = b ∧ cF g1 (4 + 2 * m) 5 = c ∧ cF g1 (4 + 2 * m) 6 = 0) → (∀ j : Nat, j < 25 → fA g1 (5 + 2 * m) j = fA g 1 j) → P (some (oI 1), g1)) (hB : (0 ≤ i ∧ i ≤ 31) ∧ (0 ≤ a ∧ a ≤ 3) ∧ (0 ≤ b ∧ b ≤ 3) ∧ (0 ≤ c ∧ c ≤ 99) ∧ 25 ≤ cF g 0 1 → ¬ picC g → ∀ g1 : pH, g_I eG g1 → xL g1 → g1 = (pu g.1 0 1 (Int32.ofInt 0), g.2) → P (some (oI 0), g1)) (hR : ∀ g1 : pH, g_I eG g1 → xL g1 → f_M 0 g g1 → ¬ ((0 ≤ i ∧ i ≤ 31) ∧ (0 ≤ a ∧ a ≤ 3) ∧ (0 ≤ b ∧ b ≤ 3) ∧ (0 ≤ c ∧ c ≤ 99) ∧ 25 ≤ cF g 0 1) → P (some (oI 0), g1)) {lv : List (Nat × pv)} (l0 : px_lg lv 0 = some (pvR 0)) (l1 : px_lg lv 1 = some (oI i)) (l2 : px_lg lv 2 = some (oI a)) (l3 : px_lg lv 3 = some (oI b)) (l4 : px_lg lv 4 = some (oI c)) : t_X d 147 0 lv [] g P := by
  have hJ : J_ kk_2.2.2.2.1 g g := J_rf hG
  have w_0_1 := Wsl_b.1
  have hb := cb_0_1 hG
  by_cases a0 : i < 0
  · refine mid_L (k := kcsl_1) ecsl_1 hG hx (xs := [cv (pvR 0), cv (oI i), cv (oI a), cv (oI b), cv (oI c)]) (ys := []) ⟨by show 1 ≤ _; omega, ⟨⟨pvR 0, l0, rfl, rfl, ok_0⟩, ⟨oI i, l1, rfl, rfl, ok_oI (by omega) (by decide) (by decide)⟩, ⟨oI a, l2, rfl, rfl, ok_full32 _⟩, ⟨oI b, l3, rfl, rfl, ok_full32 _⟩, ⟨oI c, l4, rfl, rfl, ok_full32 _⟩, trivial⟩, trivial, fun c hc => absurd hc List.not_mem_nil⟩ (by omega) (fun o G1 X1 M1 P1 => ?_)
    obtain ⟨o1, o2⟩ := o
    obtain ⟨rfl, -⟩ := po_c P1
    exact hR _ G1 X1 M1 (fun z => by omega)
  · skip
    by_cases a1 : 31 < i
    · refine mid_L (k := kcsl_2) ecsl_2 hG hx (xs := [cv (pvR 0), cv (oI i), cv (oI a), cv (oI b), cv (oI c)]) (ys := []) ⟨by show 1 ≤ _; omega, ⟨⟨pvR 0, l0, rfl, rfl, ok_0⟩, ⟨oI i, l1, rfl, rfl, ok_oI (by omega) (by decide) (by decide)⟩, ⟨oI a, l2, rfl, rfl, ok_full32 _⟩, ⟨oI b, l3, rfl, rfl, ok_full32 _⟩, ⟨oI c, l4, rfl, rfl, ok_full32 _⟩, trivial⟩, trivial, fun c hc => absurd hc List.not_mem_nil⟩ (by omega) (fun o G1 X1 M1 P1 => ?_)
      obtain ⟨o1, o2⟩ := o
      obtain ⟨rfl, -⟩ := po_c P1
      exact hR _ G1 X1 M1 (fun z => by omega)
    · skip
      by_cases a2 : a < 0
      · refine mid_L (k := kcsl_3) ecsl_3 hG hx (xs := [cv (pvR 0), cv (oI i), cv (oI a), cv (oI b), cv (oI c)]) (ys := []) ⟨by show 1 ≤ _; omega, ⟨⟨pvR 0, l0, rfl, rfl, ok_0⟩, ⟨oI i, l1, rfl, rfl, ok_full32 _⟩, ⟨oI a, l2, rfl, rfl, ok_oI (by omega) (by decide) (by decide)⟩, ⟨oI b, l3, rfl, rfl, ok_full32 _⟩, ⟨oI c, l4, rfl, rfl, ok_full32 _⟩, trivial⟩, trivial, fun c hc => absurd hc List.not_mem_nil⟩ (by omega) (fun o G1 X1 M1 P1 => ?_)
        obtain ⟨o1, o2⟩ := o
        obtain ⟨rfl, -⟩ := po_c P1
        exact hR _ G1 X1 M1 (fun z => by omega)
      · skip
        by_cases a3 : 3 < a
        · refine mid_L (k := kcsl_4) ecsl_4 hG hx (xs := [cv (pvR 0), cv (oI i), cv (oI a), cv (oI b), cv (oI c)]) (ys := []) ⟨by show 1 ≤ _; omega, ⟨⟨pvR 0, l0, rfl, rfl, ok_0⟩, ⟨oI i, l1, rfl, rfl, ok_full32 _⟩, ⟨oI a, l2, rfl, rfl, ok_oI (by omega) (by decide) (by decide)⟩, ⟨oI b, l3, rfl, rfl, ok_full32 _⟩, ⟨oI c, l4, rfl, rfl, ok_full32 _⟩, trivial⟩, trivial, fun c hc => absurd hc List.not_mem_nil⟩ (by omega) (fun o G1 X1 M1 P1 => ?_)
          obtain ⟨o1, o2⟩ := o
          obtain ⟨rfl, -⟩ := po_c P1
          exact hR _ G1 X1 M1 (fun z => by omega)
        · skip
          by_cases a4 : b < 0
          · refine mid_L (k := kcsl_5) ecsl_5 hG hx (xs := [cv (pvR 0), cv (oI i), cv (oI a), cv (oI b), cv (oI c)]) (ys := []) ⟨by show 1 ≤ _; omega, ⟨⟨pvR 0, l0, rfl, rfl, ok_0⟩, ⟨oI i, l1, rfl, rfl, ok_full32 _⟩, ⟨oI a, l2, rfl, rfl, ok_full32 _⟩, ⟨oI b, l3, rfl, rfl, ok_oI (by omega) (by decide) (by decide)⟩, ⟨oI c, l4, rfl, rfl, ok_full32 _⟩, trivial⟩, trivial, fun c hc => absurd hc List.not_mem_nil⟩ (by omega) (fun o G1 X1 M1 P1 => ?_)
            obtain ⟨o1, o2⟩ := o
            obtain ⟨rfl, -⟩ := po_c P1
            exact hR _ G1 X1 M1 (fun z => by omega)
          · skip
            by_cases a5 : 3 < b
            · refine mid_L (k := kcsl_6) ecsl_6 hG hx (xs := [cv (pvR 0), cv (oI i), cv (oI a), cv (oI b), cv (oI c)]) (ys := []) ⟨by show 1 ≤ _; omega, ⟨⟨pvR 0, l0, rfl, rfl, ok_0⟩, ⟨oI i, l1, rfl, rfl, ok_full32 _⟩, ⟨oI a, l2, rfl, rfl, ok_full32 _⟩, ⟨oI b, l3, rfl, rfl, ok_oI (by omega) (by decide) (by decide)⟩, ⟨oI c, l4, rfl, rfl, ok_full32 _⟩, trivial⟩, trivial, fun c hc => absurd hc List.not_mem_nil⟩ (by omega) (fun o G1 X1 M1 P1 => ?_)
              obtain ⟨o1, o2⟩ := o
              obtain ⟨rfl, -⟩ := po_c P1
              exact hR _ G1 X1 M1 (fun z => by omega)
            · skip
              by_cases a6 : c < 0
              · refine mid_L (k := kcsl_7) ecsl_7 hG hx (xs := [cv (pvR 0), cv (oI i), cv (oI a), cv (oI b), cv (oI c)]) (ys := []) ⟨by show 1 ≤ _; omega, ⟨⟨pvR 0, l0, rfl, rfl, ok_0⟩, ⟨oI i, l1, rfl, rfl, ok_full32 _⟩, ⟨oI a, l2, rfl, rfl, ok_full32 _⟩, ⟨oI b, l3, rfl, rfl, ok_full32 _⟩, ⟨oI c, l4, rfl, rfl, ok_oI (by omega) (by decide) (by decide)⟩, trivial⟩, trivial, fun c hc => absurd hc List.not_mem_nil⟩ (by omega) (fun o G1 X1 M1 P1 => ?_)
                obtain ⟨o1, o2⟩ := o
                obtain ⟨rfl, -⟩ := po_c P1
                exact hR _ G1 X1 M1 (fun z => by omega)
              · skip
                by_cases a7 : 99 < c
                · refine mid_L (k := kcsl_8) ecsl_8 hG hx (xs := [cv (pvR 0), cv (oI i), cv (oI a), cv (oI b), cv (oI c)]) (ys := []) ⟨by show 1 ≤ _; omega, ⟨⟨pvR 0, l0, rfl, rfl, ok_0⟩, ⟨oI i, l1, rfl, rfl, ok_full32 _⟩, ⟨oI a, l2, rfl, rfl, ok_full32 _⟩, ⟨oI b, l3, rfl, rfl, ok_full32 _⟩, ⟨oI c, l4, rfl, rfl, ok_oI (by omega) (by decide) (by decide)⟩, trivial⟩, trivial, fun c hc => absurd hc List.not_mem_nil⟩ (by omega) (fun o G1 X1 M1 P1 => ?_)
                  obtain ⟨o1, o2⟩ := o
                  obtain ⟨rfl, -⟩ := po_c P1
                  exact hR _ G1 X1 M1 (fun z => by omega)
                · skip
                  by_cases a8 : cF g 0 1 < 25
                  · refine mid_L (k := kcsl_9) ecsl_9 hG hx (xs := [cv (pvR 0), cv (oI i), cv (oI a), cv (oI b), cv (oI c)]) (ys := [cF g 0 1]) ⟨by show 1 ≤ _; omega, ⟨⟨pvR 0, l0, rfl, rfl, ok_0⟩, ⟨oI i, l1, rfl, rfl, ok_oI (by omega) (by decide) (by decide)⟩, ⟨oI a, l2, rfl, rfl, ok_oI (by omega) (by decide) (by decide)⟩, ⟨oI b, l3, rfl, rfl, ok_oI (by omega) (by decide) (by decide)⟩, ⟨oI c, l4, rfl, rfl, ok_oI (by omega) (by decide) (by decide)⟩, trivial⟩, ⟨⟨.inl (g.1 0 1), hc_i er_0 (Nat.le_of_ble_eq_true rfl) rfl, rfl, rfl, ⟨hb.1, show cF g 0 1 ≤ 24 by omega, Or.inl rfl⟩⟩, trivial⟩, fun c hc => absurd hc List.not_mem_nil⟩ (by omega) (fun o G1 X1 M1 P1 => ?_)
                    obtain ⟨o1, o2⟩ := o
                    obtain ⟨rfl, -⟩ := po_c P1
                    exact hR _ G1 X1 M1 (fun z => by omega)
                  · skip
                    obtain ⟨m, rfl⟩ : ∃ m : Nat, i = m := ⟨i.toNat, by omega⟩
                    have hm : m < 32 := by omega
                    refine t_0 vsl_0 rfl (ld_i l1) ?_
                    refine t_0 vsl_1 rfl rfl ?_
                    refine t_0 vsl_2 rfl (pq_b (by decide)) ?_
                    refine t_3 vsl_4 rfl (ar := ([oI ((m : Int)), oI (0), oI (31)], [])) (pcal_s ⟨Or.inl rfl, rfl, Nat.le_of_ble_eq_true rfl⟩) ⟨by omega, Nat.le_of_ble_eq_true rfl, Nat.le_of_ble_eq_true rfl, rfl⟩ ?_
                    refine ii_run ⟨by omega, by omega⟩ ⟨by omega, by omega⟩ ⟨by omega, by omega⟩ rfl rfl rfl (fun t1 => ?_) (fun t1 => absurd t1 (by omega))
                    show t_X d 147 7 lv [oI (1)] g P
                    refine tz_eq vsl_7 (by decide) ⟨by omega, by omega⟩ (fun c2 => absurd c2 (by omega)) (fun c2 => ?_)
                    show t_X d 147 10 lv [] g P
                    refine t_0 vsl_10 rfl (ld_i l2) ?_
                    refine t_0 vsl_11 rfl rfl ?_
                    refine t_0 vsl_12 rfl rfl ?_
                    refine t_3 vsl_13 rfl (ar := ([oI (a), oI (0), oI (3)], [])) (pcal_s ⟨Or.inl rfl, rfl, Nat.le_of_ble_eq_true rfl⟩) ⟨by omega, Nat.le_of_ble_eq_true rfl, Nat.le_of_ble_eq_true rfl, rfl⟩ ?_
                    refine ii_run ⟨by omega, by omega⟩ ⟨by omega, by omega⟩ ⟨by omega, by omega⟩ rfl rfl rfl (fun t3 => ?_) (fun t3 => absurd t3 (by omega))
                    show t_X d 147 16 lv [oI (1)] g P
                    refine tz_eq vsl_16 (by decide) ⟨by omega, by omega⟩ (fun c4 => absurd c4 (by omega)) (fun c4 => ?_)
                    show t_X d 147 19 lv [] g P
                    refine t_0 vsl_19 rfl (ld_i l3) ?_
                    refine t_0 vsl_20 rfl rfl ?_
                    refine t_0 vsl_21 rfl rfl ?_
                    refine t_3 vsl_22 rfl (ar := ([oI (b), oI (0), oI (3)], [])) (pcal_s ⟨Or.inl rfl, rfl, Nat.le_of_ble_eq_true rfl⟩) ⟨by omega, Nat.le_of_ble_eq_true rfl, Nat.le_of_ble_eq_true rfl, rfl⟩ ?_
                    refine ii_run ⟨by omega, by omega⟩ ⟨by omega, by omega⟩ ⟨by omega, by omega⟩ rfl rfl rfl (fun t5 => ?_) (fun t5 => absurd t5 (by omega))
                    show t_X d 147 25 lv [oI (1)] g P
                    refine tz_eq vsl_25 (by decide) ⟨by omega, by omega⟩ (fun c6 => absurd c6 (by omega)) (fun c6 => ?_)
                    show t_X d 147 28 lv [] g P
                    refine t_0 vsl_28 rfl (ld_i l4) ?_
                    refine t_0 vsl_30 rfl rfl ?_
                    refine t_0 vsl_31 rfl (pq_b (by decide)) ?_
                    refine t_3 vsl_33 rfl (ar := ([oI (c), oI (0), oI (99)], [])) (pcal_s ⟨Or.inl rfl, rfl, Nat.le_of_ble_eq_true rfl⟩) ⟨by omega, Nat.le_of_ble_eq_true rfl, Nat.le_of_ble_eq_true rfl, rfl⟩ ?_
                    refine ii_run ⟨by omega, by omega⟩ ⟨by omega, by omega⟩ ⟨by omega, by omega⟩ rfl rfl rfl (fun t7 => ?_) (fun t7 => absurd t7 (by omega))
                    show t_X d 147 36 lv [oI (1)] g P
                    refine tz_ne vsl_36 (by decide) ⟨by omega, by omega⟩ (fun c8 => ?_) (fun c8 => absurd c8 (by omega))
                    show t_X d 147 41 lv [] g P
                    refine t_0 vsl_41 rfl (ld_a l0) ?_
                    have r9 := cb_0_1 hJ.1
                    refine t_0 vsl_42 rfl (pq_cf (y := 1) er_0 rfl) ?_
                    refine t_0 vsl_45 rfl (pq_b (by decide)) ?_
                    refine tb_ge vsl_47 (by decide) ⟨by omega, by omega⟩ ⟨by omega, by omega⟩ (fun c10 => ?_) (fun c10 => absurd c10 (by omega))
                    show t_X d 147 52 lv [] g P
                    refine t_0 vsl_52 rfl (ld_a l0) ?_
                    refine t_0 vsl_53 rfl rfl ?_
                    refine tw_c vsl_54 er_0 rfl hJ w_0_1 gx_0_1 (by decide) ⟨by omega, by omega⟩ (fun g11 hJ11 e11 => ?_)
                    have v11 : cF g11 0 1 = 0 := by rw [e11]; exact pc_at (by omega) (by omega)
                    show t_X d 147 57 lv [] g11 P
                    refine t_0 vsl_57 rfl (ld_a l0) ?_
                    refine t_3 vsl_58 rfl (ar := ([pvR 0], [])) (pcal_v0 rfl rfl er_0) ⟨by omega, Nat.le_of_ble_eq_true rfl, Nat.le_of_ble_eq_true rfl, rfl⟩ ?_
                    refine tp_run (by omega) hJ11.1 (fun t12 => ?_) (fun t12 => ?_) rfl
                    · show t_X d 147 61 lv [oI (1)] g11 P
                      refine tz_ne vsl_61 (by decide) ⟨by omega, by omega⟩ (fun c13 => ?_) (fun c13 => absurd c13 (by omega))
                      show t_X d 147 66 lv [] g11 P
                      refine t_0 vsl_66 rfl (ld_a l0) ?_
                      refine t_0 vsl_67 rfl (cr_0_2 hJ11.1) ?_
                      refine t_0 vsl_70 rfl (cr_2_0 hJ11.1) ?_
                      refine t_0 vsl_73 rfl (ld_i l1) ?_
                      refine t_0 vsl_74 rfl (pq_a3 (rS_2 e11 hS) hm (by omega)) ?_
                      refine t_0 vsl_75 rfl (ld_a l0) ?_
                      refine t_0 vsl_76 rfl (cr_0_0 hJ11.1) ?_
                      refine t_0 vsl_79 rfl (ld_i l2) ?_
                      refine t_0 vsl_80 rfl (ld_i l3) ?_
                      refine t_0 vsl_81 rfl (ld_i l4) ?_
                      refine t_3 vsl_83 rfl (ar := ([pvR (4 + 2 * m), pvR 1, oI (a), oI (b), oI (c)], [])) (pcal_v4 rfl rfl (el_s4 hm)) ⟨by omega, Nat.le_of_ble_eq_true rfl, Nat.le_of_ble_eq_true rfl, rfl⟩ ?_
                      refine utl_run hm (by omega) (by omega) hJ11.1 (xL_K _ _ _ hJ11.2 Wsl_b.2.1 hx) (by omega) (by omega) (by omega) (by omega) (fun o2 G1 X1 M1 u2 u3 u4 u5 u6 u7 => ?_) rfl rfl rfl rfl rfl
                      show t_X d 147 86 lv [] o2 P
                      refine t_0 vsl_86 rfl rfl ?_
                      refine t_5 vsl_87 rfl rfl ?_
                      refine hA m hm rfl (by omega) (pic_2 e11 t12) o2 G1 X1 (by rw [← e11]; exact M1) ⟨u3, u4, u5, u6⟩ (fun j hj => ?_)
                      rw [u7 j hj, e11]
                      rfl
                    · show t_X d 147 61 lv [oI (0)] g11 P
                      refine tz_ne vsl_61 (by decide) ⟨by omega, by omega⟩ (fun c14 => absurd c14 (by omega)) (fun c14 => ?_)
                      show t_X d 147 64 lv [] g11 P
                      refine t_0 vsl_64 rfl rfl ?_
                      refine t_5 vsl_65 rfl rfl ?_
                      exact hB (by omega) (fun z => t12 (pic_1 e11 z)) g11 hJ11.1 (xL_K _ _ _ hJ11.2 Wsl_b.2.1 hx) e11
theorem vd_w : ∀ m, m < 32 → (2 ^ (cn (4 + 2 * m) + 6)).testBit (cn (4 + 2 * m) + 6) = true := by decide +kernel
set_option maxHeartbeats 2000000 in
theorem vdy_run {d : Nat} (hd : 3 ≤ d) {g : pH} (hG : g_I eG g) (hS : rS g) {i b : Int} (hi : -2147483648 ≤ i ∧ i ≤ 2147483647) (hb : -2147483648 ≤ b ∧ b ≤ 2147483647) {P : Option pv × pH → Prop} (hA : ∀ m : Nat, m < 32 → i = m → 0 ≤ b ∧ b ≤ 99 → ∀ g1 : pH, J_ (2 ^ (cn (4 + 2 * m) + 6)) g g1 → cF g1 (4 + 2 * m) 6 = b → P (some (oI 1), g1)) (hR : ¬ (toC g i ∧ 0 ≤ b ∧ b ≤ 99) → P (some (oI 0), g)) {lv : List (Nat × pv)} (l0 : px_lg lv 0 = some (pvR 0)) (l1 : px_lg lv 1 = some (oI i)) (l2 : px_lg lv 2 = some (oI b)) : t_X d 116 0 lv [] g P := by
  have hJ : J_ 0 g g := J_rf hG
  refine t_0 vdy_0 rfl (ld_a l0) ?_
  refine t_0 vdy_1 rfl (cr_0_2 hJ.1) ?_
  refine t_0 vdy_4 rfl (ld_i l1) ?_
  refine t_3 vdy_5 rfl (ar := ([pvR 2, oI (i)], [])) (pcal_v1 rfl rfl er_2) ⟨by omega, Nat.le_of_ble_eq_true rfl, Nat.le_of_ble_eq_true rfl, rfl⟩ ?_
  refine td_run (by omega) hJ.1 hS (by omega) (fun m hm e1 c0 => ?_) (fun c0 => ?_) rfl rfl
  · show t_X d 116 8 lv [pvR (4 + 2 * m)] g P
    refine t_2 vdy_8 rfl (w := (px_s1 lv 3 (pvR (4 + 2 * m)), [])) rfl ?_
    replace l0 : px_lg (px_s1 lv 3 (pvR (4 + 2 * m))) 0 = some (pvR 0) := s1_ne (by decide) (fun _ => rfl) l0
    replace l1 : px_lg (px_s1 lv 3 (pvR (4 + 2 * m))) 1 = some (oI (i)) := s1_ne (by decide) (fun _ => rfl) l1
    replace l2 : px_lg (px_s1 lv 3 (pvR (4 + 2 * m))) 2 = some (oI (b)) := s1_ne (by decide) (fun _ => rfl) l2
    have l3 : px_lg (px_s1 lv 3 (pvR (4 + 2 * m))) 3 = some (pvR (4 + 2 * m)) := s1_eq
    generalize px_s1 lv 3 (pvR (4 + 2 * m)) = lv1 at l0 l1 l2 l3 ⊢
    show t_X d 116 9 lv1 [] g P
    refine t_0 vdy_9 rfl (ld_a l3) ?_
    refine t_1 vdy_10 rfl (pn_nf (pc := 10) ) ?_
    show t_X d 116 13 lv1 [] g P
    refine t_0 vdy_13 rfl (ld_i l2) ?_
    refine t_0 vdy_14 rfl rfl ?_
    refine t_0 vdy_15 rfl (pq_b (by decide)) ?_
    refine t_3 vdy_17 rfl (ar := ([oI (b), oI (0), oI (99)], [])) (pcal_s ⟨Or.inl rfl, rfl, Nat.le_of_ble_eq_true rfl⟩) ⟨by omega, Nat.le_of_ble_eq_true rfl, Nat.le_of_ble_eq_true rfl, rfl⟩ ?_
    refine ii_run ⟨by omega, by omega⟩ ⟨by omega, by omega⟩ ⟨by omega, by omega⟩ rfl rfl rfl (fun t2 => ?_) (fun t2 => ?_)
    · show t_X d 116 20 lv1 [oI (1)] g P
      refine tz_ne vdy_20 (by decide) ⟨by omega, by omega⟩ (fun c3 => ?_) (fun c3 => absurd c3 (by omega))
      show t_X d 116 25 lv1 [] g P
      refine t_0 vdy_25 rfl (ld_a l3) ?_
      refine t_0 vdy_26 rfl (ld_i l2) ?_
      have hJ2 : J_ (2 ^ (cn (4 + 2 * m) + 6)) g g := J_rf hG
      refine tw_c vdy_27 (el_s4 hm) rfl hJ2 (vd_w m hm) (tl_g6 m hm) (by decide) ⟨by omega, by omega⟩ (fun g4 hJ4 e4 => ?_)
      show t_X d 116 30 lv1 [] g4 P
      refine t_0 vdy_30 rfl rfl ?_
      refine t_5 vdy_31 rfl rfl ?_
      exact hA m hm e1 (by omega) g4 hJ4 (by rw [e4]; exact pc_at (by omega) (by omega))
    · show t_X d 116 20 lv1 [oI (0)] g P
      refine tz_ne vdy_20 (by decide) ⟨by omega, by omega⟩ (fun c5 => absurd c5 (by omega)) (fun c5 => ?_)
      show t_X d 116 23 lv1 [] g P
      refine t_0 vdy_23 rfl rfl ?_
      refine t_5 vdy_24 rfl rfl ?_
      exact hR (fun z => by first | exact c0 z.1 | omega)
  · show t_X d 116 8 lv [.inr (.inr none)] g P
    refine t_2 vdy_8 rfl (w := (px_s1 lv 3 (.inr (.inr none)), [])) rfl ?_
    replace l0 : px_lg (px_s1 lv 3 (.inr (.inr none))) 0 = some (pvR 0) := s1_ne (by decide) (fun _ => rfl) l0
    replace l1 : px_lg (px_s1 lv 3 (.inr (.inr none))) 1 = some (oI (i)) := s1_ne (by decide) (fun _ => rfl) l1
    replace l2 : px_lg (px_s1 lv 3 (.inr (.inr none))) 2 = some (oI (b)) := s1_ne (by decide) (fun _ => rfl) l2
    have l3 : px_lg (px_s1 lv 3 (.inr (.inr none))) 3 = some (.inr (.inr none)) := s1_eq
    generalize px_s1 lv 3 (.inr (.inr none)) = lv6 at l0 l1 l2 l3 ⊢
    show t_X d 116 9 lv6 [] g P
    refine t_0 vdy_9 rfl (ld_a l3) ?_
    refine t_1 vdy_10 rfl (pn_nt (pc := 10) (by decide)) ?_
    show t_X d 116 23 lv6 [] g P
    refine t_0 vdy_23 rfl rfl ?_
    refine t_5 vdy_24 rfl rfl ?_
    exact hR (fun z => by first | exact c0 z.1 | omega)
def nBb (W D j : Nat) : Bool := [cn (D + 2 * j) + 3, cn (D + 2 * j) + 4, cn (D + 2 * j) + 5, cn (D + 2 * j) + 6, cn (D + 1 + 2 * j)].all (fun i => !W.testBit i)
theorem dC_f {W : Nat} {h g g1 : pH} {D S j : Nat} (hM : f_M W g g1) (h1 : nBb W D j = true) (hd : dC h g D S j) : dC h g1 D S j := by
  have h2 := List.all_eq_true.mp h1
  have k : ∀ i, i ∈ [cn (D + 2 * j) + 3, cn (D + 2 * j) + 4, cn (D + 2 * j) + 5, cn (D + 2 * j) + 6, cn (D + 1 + 2 * j)] → W.testBit i = false := fun i hi => by
    have := h2 i hi
    rw [Bool.not_eq_true'] at this
    exact this
  have a1 := k _ (.head _)
  have a2 := k _ (.tail _ (.head _))
  have a3 := k _ (.tail _ (.tail _ (.head _)))
  have a4 := k _ (.tail _ (.tail _ (.tail _ (.head _))))
  have a5 := k _ (.tail _ (.tail _ (.tail _ (.tail _ (.head _)))))
  obtain ⟨⟨b1, b2, b3, b4⟩, b5⟩ := hd
  exact ⟨⟨(cF_M hM a1).trans b1, (cF_M hM a2).trans b2, (cF_M hM a3).trans b3, (cF_M hM a4).trans b4⟩, fun k hk => (congrFun (fA_M hM a5) k).trans (b5 k hk)⟩
theorem dC_t {h g g1 : pH} {D S E j : Nat} (h1 : dC g g1 D S j) (h2 : dC h g S E j) : dC h g1 D E j := ⟨⟨h1.1.1.trans h2.1.1, h1.1.2.1.trans h2.1.2.1, h1.1.2.2.1.trans h2.1.2.2.1, h1.1.2.2.2.trans h2.1.2.2.2⟩, fun k hk => (h1.2 k hk).trans (h2.2 k hk)⟩
theorem dC_r {h : pH} {S j : Nat} : dC h h S S j := ⟨⟨rfl, rfl, rfl, rfl⟩, fun _ _ => rfl⟩
theorem W73_d : ∀ m, m < 32 → ∀ j, j < 32 → (nBb (W73 78 m) 4 j = true ∧ nBb (W73 4 m) 78 j = true) ∧ (j ≠ m → nBb (W73 78 m) 78 j = true ∧ nBb (W73 4 m) 4 j = true) := by decide +kernel
def kvk_t : eK := (79, (2, [(0, 2, (0, 100000, [77])), (1, 2, (0, 100000, [3]))], [], []), (0, []), 5476726935787508345714640739271923972983571412386570705989221085222589944826992132699889406449473688067297092339463162909809896761580005569786743676997061624822433437424169402753881503870020764014682956806920062812529676760645632, [(none, [], [])])
theorem evk_t : ex_mid eG eKT eDX 4000 kvk_t [] 29 = true := by decide +kernel
theorem Wvk_t : kvk_t.2.2.2.1 &&& kk_57.2.2.2.1 = kvk_t.2.2.2.1 ∧ ∀ j, j < 32 → nBb kvk_t.2.2.2.1 4 j = true ∧ nBb kvk_t.2.2.2.1 78 j = true := by decide +kernel
set_option maxHeartbeats 4000000 in
theorem vk_loop {d : Nat} (hd : 5 ≤ d) (hd2 : d ≤ 1000000) {h0 : pH} (hx : xL h0) (hS0 : rS h0) {P : Option pv × pH → Prop} (hP : ∀ g1 : pH, J_ kk_57.2.2.2.1 h0 g1 → xL g1 → (∀ j, j < 32 → dC h0 g1 78 4 j) → (∀ j, j < 32 → dC h0 g1 4 4 j) → P (none, g1)) : ∀ (n m : Nat) (lv : List (Nat × pv)) (g : pH), 32 - m ≤ n → m ≤ 32 → J_ kk_57.2.2.2.1 h0 g → (∀ j, j < m → dC h0 g 78 4 j) → (∀ j, j < 32 → dC h0 g 4 4 j) → px_lg lv 0 = some (pvR 76) → px_lg lv 1 = some (pvR 2) → px_lg lv 2 = some (oI (m : Int)) → t_X d 79 2 lv [] g P := by
  intro n
  induction n with
  | zero =>
    intro m lv g hn hm2 hJ hc hs l0 l1 l2
    refine t_0 vcs78_2 rfl (ld_i l2) ?_
    refine t_0 vcs78_3 rfl (pq_b (by decide)) ?_
    refine tb_ge vcs78_5 (by decide) ⟨by omega, by omega⟩ ⟨by omega, by omega⟩ (fun c1 => ?_) (fun c1 => absurd c1 (by omega))
    show t_X d 79 29 lv [] g P
    refine mid_L (k := kvk_t) evk_t hJ.1 (xL_K _ _ _ hJ.2 Wku_b.2.1 hx) (xs := [cv (pvR 76), cv (pvR 2)]) (ys := []) ⟨by show 2 ≤ _; omega, ⟨⟨pvR 76, l0, rfl, rfl, ok_rl rfl (by decide)⟩, ⟨pvR 2, l1, rfl, rfl, ok_rl rfl (by decide)⟩, trivial⟩, trivial, fun c hc => absurd hc List.not_mem_nil⟩ (by omega) (fun o G1 X1 M1 P1 => ?_)
    obtain ⟨o1, o2⟩ := o
    obtain ⟨rfl, ys, hF⟩ := po_n P1
    exact hP o2 (J_up Wvk_t.1 hJ ⟨G1, M1⟩) X1 (fun j hj => dC_f M1 (Wvk_t.2 j hj).2 (hc j (by omega))) (fun j hj => dC_f M1 (Wvk_t.2 j hj).1 (hs j hj))
  | succ n ih =>
    intro m lv g hn hm2 hJ hc hs l0 l1 l2
    by_cases hm : m < 32
    · have hSg := rS_M hJ.2 ⟨Wku_b.2.2.1, Wku_b.2.2.2.1⟩ hS0
      refine t_0 vcs78_2 rfl (ld_i l2) ?_
      refine t_0 vcs78_3 rfl (pq_b (by decide)) ?_
      refine tb_ge vcs78_5 (by decide) ⟨by omega, by omega⟩ ⟨by omega, by omega⟩ (fun c1 => absurd c1 (by omega)) (fun c1 => ?_)
      show t_X d 79 8 lv [] g P
      refine t_0 vcs78_8 rfl (ld_a l0) ?_
      refine t_0 vcs78_9 rfl (cr_76_0 hJ.1) ?_
      refine t_0 vcs78_12 rfl (ld_i l2) ?_
      refine t_0 vcs78_13 rfl (pq_a77 hSg hm (by omega)) ?_
      refine t_0 vcs78_14 rfl (ld_a l1) ?_
      refine t_0 vcs78_15 rfl (cr_2_0 hJ.1) ?_
      refine t_0 vcs78_18 rfl (ld_i l2) ?_
      refine t_0 vcs78_19 rfl (pq_a3 hSg hm (by omega)) ?_
      refine t_3 vcs78_20 rfl (ar := ([pvR (78 + 2 * m), pvR (4 + 2 * m)], [])) (pcal_v1 rfl rfl (el_s78 hm)) ⟨by omega, Nat.le_of_ble_eq_true rfl, Nat.le_of_ble_eq_true rfl, rfl⟩ ?_
      refine ucp78_run hm (by omega) (by omega) hJ.1 (xL_K _ _ _ hJ.2 Wku_b.2.1 hx) (fun o2 G1 X1 M1 P1 => ?_) rfl rfl
      have hJ9 : J_ kk_57.2.2.2.1 h0 o2 := J_up (W73_k m hm).1 hJ ⟨G1, M1⟩
      show t_X d 79 23 lv [] o2 P
      refine t_2 vcs78_23 rfl (w := (px_s1 lv 2 (oI ((m : Int) + 1)), [])) (pq_inc l2 (by decide)) ?_
      replace l0 : px_lg (px_s1 lv 2 (oI ((m : Int) + 1))) 0 = some (pvR 76) := s1_ne (by decide) (fun _ => rfl) l0
      replace l1 : px_lg (px_s1 lv 2 (oI ((m : Int) + 1))) 1 = some (pvR 2) := s1_ne (by decide) (fun _ => rfl) l1
      have l2 : px_lg (px_s1 lv 2 (oI ((m : Int) + 1))) 2 = some (oI ((m : Int) + 1)) := s1_eq
      generalize px_s1 lv 2 (oI ((m : Int) + 1)) = lv2 at l0 l1 l2 ⊢
      show t_X d 79 26 lv2 [] o2 P
      refine t_1 vcs78_26 rfl (pb_goto (pc := 26) (by decide)) ?_
      show t_X d 79 2 lv2 [] o2 P
      refine ih (m + 1) _ o2 (by omega) (by omega) hJ9 (fun j hj => ?_) (fun j hj => ?_) l0 l1 l2
      · rcases Nat.lt_or_ge j m with z | z
        · exact dC_f M1 (((W73_d m hm j (by omega)).2 (by omega)).1) (hc j z)
        · rw [show j = m by omega]; exact dC_t P1 (hs m hm)
      · exact dC_f M1 ((W73_d m hm j hj).1.1) (hs j hj)
    · skip
      refine t_0 vcs78_2 rfl (ld_i l2) ?_
      refine t_0 vcs78_3 rfl (pq_b (by decide)) ?_
      refine tb_ge vcs78_5 (by decide) ⟨by omega, by omega⟩ ⟨by omega, by omega⟩ (fun c1 => ?_) (fun c1 => absurd c1 (by omega))
      show t_X d 79 29 lv [] g P
      refine mid_L (k := kvk_t) evk_t hJ.1 (xL_K _ _ _ hJ.2 Wku_b.2.1 hx) (xs := [cv (pvR 76), cv (pvR 2)]) (ys := []) ⟨by show 2 ≤ _; omega, ⟨⟨pvR 76, l0, rfl, rfl, ok_rl rfl (by decide)⟩, ⟨pvR 2, l1, rfl, rfl, ok_rl rfl (by decide)⟩, trivial⟩, trivial, fun c hc => absurd hc List.not_mem_nil⟩ (by omega) (fun o G1 X1 M1 P1 => ?_)
      obtain ⟨o1, o2⟩ := o
      obtain ⟨rfl, ys, hF⟩ := po_n P1
      exact hP o2 (J_up Wvk_t.1 hJ ⟨G1, M1⟩) X1 (fun j hj => dC_f M1 (Wvk_t.2 j hj).2 (hc j (by omega))) (fun j hj => dC_f M1 (Wvk_t.2 j hj).1 (hs j hj))
theorem vk_run {d : Nat} (hd : 5 ≤ d) (hd2 : d ≤ 1000000) {h0 : pH} (hG : g_I eG h0) (hx : xL h0) (hS0 : rS h0) {P : Option pv × pH → Prop} (hP : ∀ g1 : pH, J_ kk_57.2.2.2.1 h0 g1 → xL g1 → (∀ j, j < 32 → dC h0 g1 78 4 j) → (∀ j, j < 32 → dC h0 g1 4 4 j) → P (none, g1)) {lv : List (Nat × pv)} (l0 : px_lg lv 0 = some (pvR 76)) (l1 : px_lg lv 1 = some (pvR 2)) : t_X d 79 0 lv [] h0 P := by
  have hJ : J_ kk_57.2.2.2.1 h0 h0 := J_rf hG
  refine t_0 vcs78_0 rfl rfl ?_
  refine t_2 vcs78_1 rfl (w := (px_s1 lv 2 (oI (0)), [])) rfl ?_
  replace l0 : px_lg (px_s1 lv 2 (oI (0))) 0 = some (pvR 76) := s1_ne (by decide) (fun _ => rfl) l0
  replace l1 : px_lg (px_s1 lv 2 (oI (0))) 1 = some (pvR 2) := s1_ne (by decide) (fun _ => rfl) l1
  have l2 : px_lg (px_s1 lv 2 (oI (0))) 2 = some (oI (0)) := s1_eq
  generalize px_s1 lv 2 (oI (0)) = lv1 at l0 l1 l2 ⊢
  show t_X d 79 2 lv1 [] h0 P
  exact vk_loop hd hd2 hx hS0 hP 32 0 _ _ (by omega) (by omega) hJ (fun j hj => absurd hj (by omega)) (fun j hj => dC_r) l0 l1 l2
def kvu_t : eK := (79, (2, [(0, 2, (0, 100000, [3])), (1, 2, (0, 100000, [77]))], [], []), (0, []), 284664103360279645715273768223498491142558506955960326610821752543564306314000355569572989993787701084655697143300096, [(none, [], [])])
theorem evu_t : ex_mid eG eKT eDX 4000 kvu_t [] 29 = true := by decide +kernel
theorem Wvu_t : kvu_t.2.2.2.1 &&& kk_59.2.2.2.1 = kvu_t.2.2.2.1 ∧ ∀ j, j < 32 → nBb kvu_t.2.2.2.1 4 j = true ∧ nBb kvu_t.2.2.2.1 78 j = true := by decide +kernel
set_option maxHeartbeats 4000000 in
theorem vu_loop {d : Nat} (hd : 5 ≤ d) (hd2 : d ≤ 1000000) {h0 : pH} (hx : xL h0) (hS0 : rS h0) {P : Option pv × pH → Prop} (hP : ∀ g1 : pH, J_ kk_59.2.2.2.1 h0 g1 → xL g1 → (∀ j, j < 32 → dC h0 g1 4 78 j) → (∀ j, j < 32 → dC h0 g1 78 78 j) → P (none, g1)) : ∀ (n m : Nat) (lv : List (Nat × pv)) (g : pH), 32 - m ≤ n → m ≤ 32 → J_ kk_59.2.2.2.1 h0 g → (∀ j, j < m → dC h0 g 4 78 j) → (∀ j, j < 32 → dC h0 g 78 78 j) → px_lg lv 0 = some (pvR 2) → px_lg lv 1 = some (pvR 76) → px_lg lv 2 = some (oI (m : Int)) → t_X d 79 2 lv [] g P := by
  intro n
  induction n with
  | zero =>
    intro m lv g hn hm2 hJ hc hs l0 l1 l2
    refine t_0 vcs4_2 rfl (ld_i l2) ?_
    refine t_0 vcs4_3 rfl (pq_b (by decide)) ?_
    refine tb_ge vcs4_5 (by decide) ⟨by omega, by omega⟩ ⟨by omega, by omega⟩ (fun c1 => ?_) (fun c1 => absurd c1 (by omega))
    show t_X d 79 29 lv [] g P
    refine mid_L (k := kvu_t) evu_t hJ.1 (xL_K _ _ _ hJ.2 Wku_b.2.2.2.2.1 hx) (xs := [cv (pvR 2), cv (pvR 76)]) (ys := []) ⟨by show 2 ≤ _; omega, ⟨⟨pvR 2, l0, rfl, rfl, ok_rl rfl (by decide)⟩, ⟨pvR 76, l1, rfl, rfl, ok_rl rfl (by decide)⟩, trivial⟩, trivial, fun c hc => absurd hc List.not_mem_nil⟩ (by omega) (fun o G1 X1 M1 P1 => ?_)
    obtain ⟨o1, o2⟩ := o
    obtain ⟨rfl, ys, hF⟩ := po_n P1
    exact hP o2 (J_up Wvu_t.1 hJ ⟨G1, M1⟩) X1 (fun j hj => dC_f M1 (Wvu_t.2 j hj).1 (hc j (by omega))) (fun j hj => dC_f M1 (Wvu_t.2 j hj).2 (hs j hj))
  | succ n ih =>
    intro m lv g hn hm2 hJ hc hs l0 l1 l2
    by_cases hm : m < 32
    · have hSg := rS_M hJ.2 ⟨Wku_b.2.2.2.2.2.1, Wku_b.2.2.2.2.2.2⟩ hS0
      refine t_0 vcs4_2 rfl (ld_i l2) ?_
      refine t_0 vcs4_3 rfl (pq_b (by decide)) ?_
      refine tb_ge vcs4_5 (by decide) ⟨by omega, by omega⟩ ⟨by omega, by omega⟩ (fun c1 => absurd c1 (by omega)) (fun c1 => ?_)
      show t_X d 79 8 lv [] g P
      refine t_0 vcs4_8 rfl (ld_a l0) ?_
      refine t_0 vcs4_9 rfl (cr_2_0 hJ.1) ?_
      refine t_0 vcs4_12 rfl (ld_i l2) ?_
      refine t_0 vcs4_13 rfl (pq_a3 hSg hm (by omega)) ?_
      refine t_0 vcs4_14 rfl (ld_a l1) ?_
      refine t_0 vcs4_15 rfl (cr_76_0 hJ.1) ?_
      refine t_0 vcs4_18 rfl (ld_i l2) ?_
      refine t_0 vcs4_19 rfl (pq_a77 hSg hm (by omega)) ?_
      refine t_3 vcs4_20 rfl (ar := ([pvR (4 + 2 * m), pvR (78 + 2 * m)], [])) (pcal_v1 rfl rfl (el_s4 hm)) ⟨by omega, Nat.le_of_ble_eq_true rfl, Nat.le_of_ble_eq_true rfl, rfl⟩ ?_
      refine ucp4_run hm (by omega) (by omega) hJ.1 (xL_K _ _ _ hJ.2 Wku_b.2.2.2.2.1 hx) (fun o2 G1 X1 M1 P1 => ?_) rfl rfl
      have hJ9 : J_ kk_59.2.2.2.1 h0 o2 := J_up (W73_k m hm).2 hJ ⟨G1, M1⟩
      show t_X d 79 23 lv [] o2 P
      refine t_2 vcs4_23 rfl (w := (px_s1 lv 2 (oI ((m : Int) + 1)), [])) (pq_inc l2 (by decide)) ?_
      replace l0 : px_lg (px_s1 lv 2 (oI ((m : Int) + 1))) 0 = some (pvR 2) := s1_ne (by decide) (fun _ => rfl) l0
      replace l1 : px_lg (px_s1 lv 2 (oI ((m : Int) + 1))) 1 = some (pvR 76) := s1_ne (by decide) (fun _ => rfl) l1
      have l2 : px_lg (px_s1 lv 2 (oI ((m : Int) + 1))) 2 = some (oI ((m : Int) + 1)) := s1_eq
      generalize px_s1 lv 2 (oI ((m : Int) + 1)) = lv2 at l0 l1 l2 ⊢
      show t_X d 79 26 lv2 [] o2 P
      refine t_1 vcs4_26 rfl (pb_goto (pc := 26) (by decide)) ?_
      show t_X d 79 2 lv2 [] o2 P
      refine ih (m + 1) _ o2 (by omega) (by omega) hJ9 (fun j hj => ?_) (fun j hj => ?_) l0 l1 l2
      · rcases Nat.lt_or_ge j m with z | z
        · exact dC_f M1 (((W73_d m hm j (by omega)).2 (by omega)).2) (hc j z)
        · rw [show j = m by omega]; exact dC_t P1 (hs m hm)
      · exact dC_f M1 ((W73_d m hm j hj).1.2) (hs j hj)
    · skip
      refine t_0 vcs4_2 rfl (ld_i l2) ?_
      refine t_0 vcs4_3 rfl (pq_b (by decide)) ?_
      refine tb_ge vcs4_5 (by decide) ⟨by omega, by omega⟩ ⟨by omega, by omega⟩ (fun c1 => ?_) (fun c1 => absurd c1 (by omega))
      show t_X d 79 29 lv [] g P
      refine mid_L (k := kvu_t) evu_t hJ.1 (xL_K _ _ _ hJ.2 Wku_b.2.2.2.2.1 hx) (xs := [cv (pvR 2), cv (pvR 76)]) (ys := []) ⟨by show 2 ≤ _; omega, ⟨⟨pvR 2, l0, rfl, rfl, ok_rl rfl (by decide)⟩, ⟨pvR 76, l1, rfl, rfl, ok_rl rfl (by decide)⟩, trivial⟩, trivial, fun c hc => absurd hc List.not_mem_nil⟩ (by omega) (fun o G1 X1 M1 P1 => ?_)
      obtain ⟨o1, o2⟩ := o
      obtain ⟨rfl, ys, hF⟩ := po_n P1
      exact hP o2 (J_up Wvu_t.1 hJ ⟨G1, M1⟩) X1 (fun j hj => dC_f M1 (Wvu_t.2 j hj).1 (hc j (by omega))) (fun j hj => dC_f M1 (Wvu_t.2 j hj).2 (hs j hj))
theorem vu_run {d : Nat} (hd : 5 ≤ d) (hd2 : d ≤ 1000000) {h0 : pH} (hG : g_I eG h0) (hx : xL h0) (hS0 : rS h0) {P : Option pv × pH → Prop} (hP : ∀ g1 : pH, J_ kk_59.2.2.2.1 h0 g1 → xL g1 → (∀ j, j < 32 → dC h0 g1 4 78 j) → (∀ j, j < 32 → dC h0 g1 78 78 j) → P (none, g1)) {lv : List (Nat × pv)} (l0 : px_lg lv 0 = some (pvR 2)) (l1 : px_lg lv 1 = some (pvR 76)) : t_X d 79 0 lv [] h0 P := by
  have hJ : J_ kk_59.2.2.2.1 h0 h0 := J_rf hG
  refine t_0 vcs4_0 rfl rfl ?_
  refine t_2 vcs4_1 rfl (w := (px_s1 lv 2 (oI (0)), [])) rfl ?_
  replace l0 : px_lg (px_s1 lv 2 (oI (0))) 0 = some (pvR 2) := s1_ne (by decide) (fun _ => rfl) l0
  replace l1 : px_lg (px_s1 lv 2 (oI (0))) 1 = some (pvR 76) := s1_ne (by decide) (fun _ => rfl) l1
  have l2 : px_lg (px_s1 lv 2 (oI (0))) 2 = some (oI (0)) := s1_eq
  generalize px_s1 lv 2 (oI (0)) = lv1 at l0 l1 l2 ⊢
  show t_X d 79 2 lv1 [] h0 P
  exact vu_loop hd hd2 hx hS0 hP 32 0 _ _ (by omega) (by omega) hJ (fun j hj => absurd hj (by omega)) (fun j hj => dC_r) l0 l1 l2
set_option maxHeartbeats 2000000 in
theorem vck_run {d : Nat} (hd : 8 ≤ d) (hd2 : d ≤ 1000000) {g : pH} (hG : g_I eG g) (hx : xL g) (hS : rS g) {P : Option pv × pH → Prop} (hP : ∀ (v : pv) (g1 : pH), J_ kk_57.2.2.2.1 g g1 → (∀ j, j < 32 → dC g g1 78 4 j) → (∀ j, j < 32 → dC g g1 4 4 j) → P (some v, g1)) {lv : List (Nat × pv)} (l0 : px_lg lv 0 = some (pvR 0)) : t_X d 126 0 lv [] g P := by
  have hJ : J_ kk_57.2.2.2.1 g g := J_rf hG
  have w_0_4 := Wku_b.1
  refine t_0 vkp_0 rfl (ld_a l0) ?_
  refine t_0 vkp_1 rfl (cr_0_3 hJ.1) ?_
  refine t_0 vkp_4 rfl (ld_a l0) ?_
  refine t_0 vkp_5 rfl (cr_0_2 hJ.1) ?_
  refine t_3 vkp_8 rfl (ar := ([pvR 76, pvR 2], [])) (pcal_v1 rfl rfl er_76) ⟨by omega, Nat.le_of_ble_eq_true rfl, Nat.le_of_ble_eq_true rfl, rfl⟩ ?_
  refine vk_run (by omega) (by omega) hG hx hS (fun gq hJq Xq c1 c2 => ?_) rfl rfl
  show t_X d 126 11 lv [] gq P
  refine t_0 vkp_11 rfl (ld_a l0) ?_
  refine t_0 vkp_12 rfl rfl ?_
  refine tw_z vkp_13 er_0 rfl hJq w_0_4 gx_0_4 (by decide) ⟨by omega, by omega⟩ (by omega) (fun g1 hJ1 e1 => ?_)
  have v1 : cF g1 0 4 = 1 := by rw [e1]; exact pc_at (by omega) (by omega)
  show t_X d 126 16 lv [] g1 P
  refine t_0 vkp_16 rfl (ld_a l0) ?_
  refine t_0 vkp_17 rfl (cr_0_2 hJ1.1) ?_
  refine t_3 vkp_20 rfl (ar := ([pvR 2], [])) (pcal_v0 rfl rfl er_2) ⟨by omega, Nat.le_of_ble_eq_true rfl, Nat.le_of_ble_eq_true rfl, rfl⟩ ?_
  refine tc_run hJ1.1 (rS_M hJ1.2 ⟨Wku_b.2.2.1, Wku_b.2.2.2.1⟩ hS) ?_ rfl
  show t_X d 126 23 lv [oI (ctl (fun j => cF g1 (4 + 2 * j) 2) 32)] g1 P
  refine t_5 vkp_23 rfl rfl ?_
  have f9 : ∀ D S j, dC g gq D S j → 0 < D → dC g g1 D S j := fun D S j h0 hD => by rw [e1]; exact ⟨⟨(pc_ne (by omega)).trans h0.1.1, (pc_ne (by omega)).trans h0.1.2.1, (pc_ne (by omega)).trans h0.1.2.2.1, (pc_ne (by omega)).trans h0.1.2.2.2⟩, h0.2⟩
  exact hP _ g1 hJ1 (fun j hj => f9 _ _ _ (c1 j hj) (by decide)) (fun j hj => f9 _ _ _ (c2 j hj) (by decide))
set_option maxHeartbeats 2000000 in
theorem vcu_run {d : Nat} (hd : 8 ≤ d) (hd2 : d ≤ 1000000) {g : pH} (hG : g_I eG g) (hx : xL g) (hS : rS g) {P : Option pv × pH → Prop} (hA : ∀ (v : pv) (g1 : pH), cF g 0 4 ≠ 0 → J_ kk_59.2.2.2.1 g g1 → (∀ j, j < 32 → dC g g1 4 78 j) → (∀ j, j < 32 → dC g g1 78 78 j) → P (some v, g1)) (hR : cF g 0 4 = 0 → P (some (oI (cF g 0 4)), g)) {lv : List (Nat × pv)} (l0 : px_lg lv 0 = some (pvR 0)) : t_X d 160 0 lv [] g P := by
  have hJ : J_ kk_59.2.2.2.1 g g := J_rf hG
  refine t_0 vun_0 rfl (ld_a l0) ?_
  have r1 := cb_0_4 hJ.1
  refine t_0 vun_1 rfl (pq_cz (y := 4) er_0 rfl) ?_
  refine tz_eq vun_4 (by decide) ⟨by omega, by omega⟩ (fun c2 => ?_) (fun c2 => ?_)
  · show t_X d 160 18 lv [] g P
    refine t_0 vun_18 rfl (ld_a l0) ?_
    have r3 := cb_0_4 hJ.1
    refine t_0 vun_19 rfl (pq_cz (y := 4) er_0 rfl) ?_
    refine t_5 vun_22 rfl (pr_z rfl (by omega)) ?_
    exact hR (by omega)
  · show t_X d 160 7 lv [] g P
    refine t_0 vun_7 rfl (ld_a l0) ?_
    refine t_0 vun_8 rfl (cr_0_2 hJ.1) ?_
    refine t_0 vun_11 rfl (ld_a l0) ?_
    refine t_0 vun_12 rfl (cr_0_3 hJ.1) ?_
    refine t_3 vun_15 rfl (ar := ([pvR 2, pvR 76], [])) (pcal_v1 rfl rfl er_2) ⟨by omega, Nat.le_of_ble_eq_true rfl, Nat.le_of_ble_eq_true rfl, rfl⟩ ?_
    refine vu_run (by omega) (by omega) hG hx hS (fun gq hJq Xq c1 c2 => ?_) rfl rfl
    show t_X d 160 18 lv [] gq P
    refine t_0 vun_18 rfl (ld_a l0) ?_
    have r4 := cb_0_4 hJq.1
    refine t_0 vun_19 rfl (pq_cz (y := 4) er_0 rfl) ?_
    refine t_5 vun_22 rfl (pr_z rfl (by omega)) ?_
    exact hA _ gq (by omega) hJq c1 c2
