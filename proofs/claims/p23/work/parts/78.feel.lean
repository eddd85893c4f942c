/-! by hand: feels (printed in part by wip/e2/fe.py) -/
theorem qf_0 : xe_look (xc 190) 0 = some (.aload_n 0, 1, 0, 0, 0) := by decide +kernel
theorem qf_1 : xe_look (xc 190) 1 = some (.getfield 104, 3, 12, 48, 1153) := by decide +kernel
theorem qf_4 : xe_look (xc 190) 4 = some (.iconst 0, 1, 0, 0, 0) := by decide +kernel
theorem qf_5 : xe_look (xc 190) 5 = some (.iload_n 1, 1, 0, 0, 0) := by decide +kernel
theorem qf_6 : xe_look (xc 190) 6 = some (.iastore, 1, 0, 0, 0) := by decide +kernel
theorem qf_7 : xe_look (xc 190) 7 = some (.aload_n 0, 1, 0, 0, 0) := by decide +kernel
theorem qf_8 : xe_look (xc 190) 8 = some (.getfield 104, 3, 12, 48, 1153) := by decide +kernel
theorem qf_11 : xe_look (xc 190) 11 = some (.iconst 1, 1, 0, 0, 0) := by decide +kernel
theorem qf_12 : xe_look (xc 190) 12 = some (.aload_n 0, 1, 0, 0, 0) := by decide +kernel
theorem qf_13 : xe_look (xc 190) 13 = some (.getfield 16, 3, 12, 4, 1175) := by decide +kernel
theorem qf_16 : xe_look (xc 190) 16 = some (.iload_n 1, 1, 0, 0, 0) := by decide +kernel
theorem qf_17 : xe_look (xc 190) 17 = some (.iaload, 1, 0, 0, 0) := by decide +kernel
theorem qf_18 : xe_look (xc 190) 18 = some (.iastore, 1, 0, 0, 0) := by decide +kernel
theorem qf_19 : xe_look (xc 190) 19 = some (.aload_n 0, 1, 0, 0, 0) := by decide +kernel
theorem qf_20 : xe_look (xc 190) 20 = some (.getfield 104, 3, 12, 48, 1153) := by decide +kernel
theorem qf_23 : xe_look (xc 190) 23 = some (.iconst 2, 1, 0, 0, 0) := by decide +kernel
theorem qf_24 : xe_look (xc 190) 24 = some (.aload_n 0, 1, 0, 0, 0) := by decide +kernel
theorem qf_25 : xe_look (xc 190) 25 = some (.getfield 19, 3, 12, 5, 1155) := by decide +kernel
theorem qf_28 : xe_look (xc 190) 28 = some (.iload_n 1, 1, 0, 0, 0) := by decide +kernel
theorem qf_29 : xe_look (xc 190) 29 = some (.iaload, 1, 0, 0, 0) := by decide +kernel
theorem qf_30 : xe_look (xc 190) 30 = some (.iastore, 1, 0, 0, 0) := by decide +kernel
theorem qf_31 : xe_look (xc 190) 31 = some (.aload_n 0, 1, 0, 0, 0) := by decide +kernel
theorem qf_32 : xe_look (xc 190) 32 = some (.getfield 104, 3, 12, 48, 1153) := by decide +kernel
theorem qf_35 : xe_look (xc 190) 35 = some (.iconst 3, 1, 0, 0, 0) := by decide +kernel
theorem qf_36 : xe_look (xc 190) 36 = some (.aload_n 0, 1, 0, 0, 0) := by decide +kernel
theorem qf_37 : xe_look (xc 190) 37 = some (.getfield 25, 3, 12, 7, 1167) := by decide +kernel
theorem qf_40 : xe_look (xc 190) 40 = some (.iload_n 1, 1, 0, 0, 0) := by decide +kernel
theorem qf_41 : xe_look (xc 190) 41 = some (.iaload, 1, 0, 0, 0) := by decide +kernel
theorem qf_42 : xe_look (xc 190) 42 = some (.iastore, 1, 0, 0, 0) := by decide +kernel
theorem qf_43 : xe_look (xc 190) 43 = some (.aload_n 0, 1, 0, 0, 0) := by decide +kernel
theorem qf_44 : xe_look (xc 190) 44 = some (.getfield 104, 3, 12, 48, 1153) := by decide +kernel
theorem qf_47 : xe_look (xc 190) 47 = some (.iconst 4, 1, 0, 0, 0) := by decide +kernel
theorem qf_48 : xe_look (xc 190) 48 = some (.iload_n 2, 1, 0, 0, 0) := by decide +kernel
theorem qf_49 : xe_look (xc 190) 49 = some (.iconst 4, 1, 0, 0, 0) := by decide +kernel
theorem qf_50 : xe_look (xc 190) 50 = some (.irem, 1, 0, 0, 0) := by decide +kernel
theorem qf_51 : xe_look (xc 190) 51 = some (.iastore, 1, 0, 0, 0) := by decide +kernel
theorem qf_52 : xe_look (xc 190) 52 = some (.aload_n 0, 1, 0, 0, 0) := by decide +kernel
theorem qf_53 : xe_look (xc 190) 53 = some (.getfield 104, 3, 12, 48, 1153) := by decide +kernel
theorem qf_56 : xe_look (xc 190) 56 = some (.iconst 5, 1, 0, 0, 0) := by decide +kernel
theorem qf_57 : xe_look (xc 190) 57 = some (.iload_n 2, 1, 0, 0, 0) := by decide +kernel
theorem qf_58 : xe_look (xc 190) 58 = some (.iconst 4, 1, 0, 0, 0) := by decide +kernel
theorem qf_59 : xe_look (xc 190) 59 = some (.idiv, 1, 0, 0, 0) := by decide +kernel
theorem qf_60 : xe_look (xc 190) 60 = some (.iastore, 1, 0, 0, 0) := by decide +kernel
theorem qf_61 : xe_look (xc 190) 61 = some (.aload_n 0, 1, 0, 0, 0) := by decide +kernel
theorem qf_62 : xe_look (xc 190) 62 = some (.getfield 104, 3, 12, 48, 1153) := by decide +kernel
theorem qf_65 : xe_look (xc 190) 65 = some (.bipush 6, 2, 0, 0, 0) := by decide +kernel
theorem qf_67 : xe_look (xc 190) 67 = some (.aload_n 0, 1, 0, 0, 0) := by decide +kernel
theorem qf_68 : xe_look (xc 190) 68 = some (.getfield 372, 3, 12, 49, 1172) := by decide +kernel
theorem qf_71 : xe_look (xc 190) 71 = some (.iastore, 1, 0, 0, 0) := by decide +kernel
theorem qf_72 : xe_look (xc 190) 72 = some (.aload_n 0, 1, 0, 0, 0) := by decide +kernel
theorem qf_73 : xe_look (xc 190) 73 = some (.getfield 104, 3, 12, 48, 1153) := by decide +kernel
theorem qf_76 : xe_look (xc 190) 76 = some (.bipush 7, 2, 0, 0, 0) := by decide +kernel
theorem qf_78 : xe_look (xc 190) 78 = some (.aload_n 0, 1, 0, 0, 0) := by decide +kernel
theorem qf_79 : xe_look (xc 190) 79 = some (.getfield 22, 3, 12, 6, 1176) := by decide +kernel
theorem qf_82 : xe_look (xc 190) 82 = some (.iload_n 1, 1, 0, 0, 0) := by decide +kernel
theorem qf_83 : xe_look (xc 190) 83 = some (.iaload, 1, 0, 0, 0) := by decide +kernel
theorem qf_84 : xe_look (xc 190) 84 = some (.iastore, 1, 0, 0, 0) := by decide +kernel
theorem qf_85 : xe_look (xc 190) 85 = some (.aload_n 0, 1, 0, 0, 0) := by decide +kernel
theorem qf_86 : xe_look (xc 190) 86 = some (.getfield 104, 3, 12, 48, 1153) := by decide +kernel
theorem qf_89 : xe_look (xc 190) 89 = some (.bipush 8, 2, 0, 0, 0) := by decide +kernel
theorem qf_91 : xe_look (xc 190) 91 = some (.iconst 0, 1, 0, 0, 0) := by decide +kernel
theorem qf_92 : xe_look (xc 190) 92 = some (.iastore, 1, 0, 0, 0) := by decide +kernel
theorem qf_93 : xe_look (xc 190) 93 = some (.aload_n 0, 1, 0, 0, 0) := by decide +kernel
theorem qf_94 : xe_look (xc 190) 94 = some (.getfield 104, 3, 12, 48, 1153) := by decide +kernel
theorem qf_97 : xe_look (xc 190) 97 = some (.bipush 9, 2, 0, 0, 0) := by decide +kernel
theorem qf_99 : xe_look (xc 190) 99 = some (.iconst 0, 1, 0, 0, 0) := by decide +kernel
theorem qf_100 : xe_look (xc 190) 100 = some (.iastore, 1, 0, 0, 0) := by decide +kernel
theorem qf_101 : xe_look (xc 190) 101 = some (.aload_n 0, 1, 0, 0, 0) := by decide +kernel
theorem qf_102 : xe_look (xc 190) 102 = some (.getfield 104, 3, 12, 48, 1153) := by decide +kernel
theorem qf_105 : xe_look (xc 190) 105 = some (.bipush 10, 2, 0, 0, 0) := by decide +kernel
theorem qf_107 : xe_look (xc 190) 107 = some (.iconst 0, 1, 0, 0, 0) := by decide +kernel
theorem qf_108 : xe_look (xc 190) 108 = some (.iastore, 1, 0, 0, 0) := by decide +kernel
theorem qf_109 : xe_look (xc 190) 109 = some (.return_, 1, 0, 0, 0) := by decide +kernel
theorem el_228 : eL[228]? = some (1, 11) := by decide +kernel
theorem eg_f48 : (eG (cn 196 + 48)).2.2 = [229] := by decide +kernel
theorem eg_a228 : eG (cn 228) = ((-2147483648), 2147483647, []) := by decide +kernel
theorem el_199 : eL[199]? = some (1, 32) := by decide +kernel
theorem eg_g4 : (eG (cn 196 + 4)).2.2 = [200] := by decide +kernel
theorem el_200 : eL[200]? = some (1, 32) := by decide +kernel
theorem eg_g5 : (eG (cn 196 + 5)).2.2 = [201] := by decide +kernel
theorem el_201 : eL[201]? = some (1, 32) := by decide +kernel
theorem eg_g6 : (eG (cn 196 + 6)).2.2 = [202] := by decide +kernel
theorem el_202 : eL[202]? = some (1, 32) := by decide +kernel
theorem eg_g7 : (eG (cn 196 + 7)).2.2 = [203] := by decide +kernel
theorem pidiv {d x y : Nat} {lv : List (Nat × pv)} {a b : Int32} {r : List pv} {h : pH} (hne : ¬ b = 0) : px_push eL d none .idiv x y lv (.inl b :: .inl a :: r) h = some (.inl (a / b) :: r) := if_neg hne
set_option maxHeartbeats 8000000 in
theorem feels_run {d W : Nat} {h0 g0 : pH} {lv : List (Nat × pv)} {i : Nat} (hi : i < 32) {n : Int32} (w228 : W.testBit (cn 228) = true) (hJ : J_ W h0 g0) (l0 : px_lg lv 0 = some (.inr (.inr (some 196)))) (l1 : px_lg lv 1 = some (.inl (nI i))) (l2 : px_lg lv 2 = some (.inl n)) {P : Option pv × pH → Prop} (hP : ∀ g : pH, J_ W h0 g → P (none, g)) : t_X d 190 0 lv [] g0 P := by
  have hcl : ¬ (nI i < 0 ∨ 32 ≤ (nI i).toNatClampNeg) := e_clamp (by rw [nI_toInt (by omega)]; omega) (by rw [nI_toInt (by omega)]; omega)
  have hf0 := gI_r (r := 228) hJ.1 el_196 (Nat.le_of_ble_eq_true rfl) (y := 48) rfl eg_f48
  refine t_0 qf_0 rfl (ld_a l0) ?_
  refine t_0 qf_1 rfl (pget el_196 hf0) ?_
  refine t_0 qf_4 rfl rfl ?_
  refine t_0 qf_5 rfl (ld_i l1) ?_
  refine t_ia qf_6 hJ el_228 w228 (by rw [eg_a228]; exact ok_full32 _) (by decide +kernel) (fun g1 hJ _ _ _ => ?_)
  show t_X d 190 7 lv [] g1 P
  have hf1 := gI_r (r := 228) hJ.1 el_196 (Nat.le_of_ble_eq_true rfl) (y := 48) rfl eg_f48
  refine t_0 qf_7 rfl (ld_a l0) ?_
  refine t_0 qf_8 rfl (pget el_196 hf1) ?_
  refine t_0 qf_11 rfl rfl ?_
  refine t_0 qf_12 rfl (ld_a l0) ?_
  have hv13 := gI_r (r := 199) hJ.1 el_196 (Nat.le_of_ble_eq_true rfl) (y := 4) rfl eg_g4
  refine t_0 qf_13 rfl (pget el_196 hv13) ?_
  refine t_0 qf_16 rfl (ld_i l1) ?_
  refine t_0 qf_17 rfl (piald (by decide) el_199 hcl) ?_
  refine t_ia qf_18 hJ el_228 w228 (by rw [eg_a228]; exact ok_full32 _) (by decide +kernel) (fun g2 hJ _ _ _ => ?_)
  show t_X d 190 19 lv [] g2 P
  have hf2 := gI_r (r := 228) hJ.1 el_196 (Nat.le_of_ble_eq_true rfl) (y := 48) rfl eg_f48
  refine t_0 qf_19 rfl (ld_a l0) ?_
  refine t_0 qf_20 rfl (pget el_196 hf2) ?_
  refine t_0 qf_23 rfl rfl ?_
  refine t_0 qf_24 rfl (ld_a l0) ?_
  have hv25 := gI_r (r := 200) hJ.1 el_196 (Nat.le_of_ble_eq_true rfl) (y := 5) rfl eg_g5
  refine t_0 qf_25 rfl (pget el_196 hv25) ?_
  refine t_0 qf_28 rfl (ld_i l1) ?_
  refine t_0 qf_29 rfl (piald (by decide) el_200 hcl) ?_
  refine t_ia qf_30 hJ el_228 w228 (by rw [eg_a228]; exact ok_full32 _) (by decide +kernel) (fun g3 hJ _ _ _ => ?_)
  show t_X d 190 31 lv [] g3 P
  have hf3 := gI_r (r := 228) hJ.1 el_196 (Nat.le_of_ble_eq_true rfl) (y := 48) rfl eg_f48
  refine t_0 qf_31 rfl (ld_a l0) ?_
  refine t_0 qf_32 rfl (pget el_196 hf3) ?_
  refine t_0 qf_35 rfl rfl ?_
  refine t_0 qf_36 rfl (ld_a l0) ?_
  have hv37 := gI_r (r := 202) hJ.1 el_196 (Nat.le_of_ble_eq_true rfl) (y := 7) rfl eg_g7
  refine t_0 qf_37 rfl (pget el_196 hv37) ?_
  refine t_0 qf_40 rfl (ld_i l1) ?_
  refine t_0 qf_41 rfl (piald (by decide) el_202 hcl) ?_
  refine t_ia qf_42 hJ el_228 w228 (by rw [eg_a228]; exact ok_full32 _) (by decide +kernel) (fun g4 hJ _ _ _ => ?_)
  show t_X d 190 43 lv [] g4 P
  have hf4 := gI_r (r := 228) hJ.1 el_196 (Nat.le_of_ble_eq_true rfl) (y := 48) rfl eg_f48
  refine t_0 qf_43 rfl (ld_a l0) ?_
  refine t_0 qf_44 rfl (pget el_196 hf4) ?_
  refine t_0 qf_47 rfl rfl ?_
  refine t_0 qf_48 rfl (ld_i l2) ?_
  refine t_0 qf_49 rfl rfl ?_
  refine t_0 qf_50 rfl (pirem (by decide +kernel)) ?_
  refine t_ia qf_51 hJ el_228 w228 (by rw [eg_a228]; exact ok_full32 _) (by decide +kernel) (fun g5 hJ _ _ _ => ?_)
  show t_X d 190 52 lv [] g5 P
  have hf5 := gI_r (r := 228) hJ.1 el_196 (Nat.le_of_ble_eq_true rfl) (y := 48) rfl eg_f48
  refine t_0 qf_52 rfl (ld_a l0) ?_
  refine t_0 qf_53 rfl (pget el_196 hf5) ?_
  refine t_0 qf_56 rfl rfl ?_
  refine t_0 qf_57 rfl (ld_i l2) ?_
  refine t_0 qf_58 rfl rfl ?_
  refine t_0 qf_59 rfl (pidiv (by decide +kernel)) ?_
  refine t_ia qf_60 hJ el_228 w228 (by rw [eg_a228]; exact ok_full32 _) (by decide +kernel) (fun g6 hJ _ _ _ => ?_)
  show t_X d 190 61 lv [] g6 P
  have hf6 := gI_r (r := 228) hJ.1 el_196 (Nat.le_of_ble_eq_true rfl) (y := 48) rfl eg_f48
  refine t_0 qf_61 rfl (ld_a l0) ?_
  refine t_0 qf_62 rfl (pget el_196 hf6) ?_
  refine t_0 qf_65 rfl rfl ?_
  refine t_0 qf_67 rfl (ld_a l0) ?_
  refine t_0 qf_68 rfl (pget el_196 (pFi rfl)) ?_
  refine t_ia qf_71 hJ el_228 w228 (by rw [eg_a228]; exact ok_full32 _) (by decide +kernel) (fun g7 hJ _ _ _ => ?_)
  show t_X d 190 72 lv [] g7 P
  have hf7 := gI_r (r := 228) hJ.1 el_196 (Nat.le_of_ble_eq_true rfl) (y := 48) rfl eg_f48
  refine t_0 qf_72 rfl (ld_a l0) ?_
  refine t_0 qf_73 rfl (pget el_196 hf7) ?_
  refine t_0 qf_76 rfl rfl ?_
  refine t_0 qf_78 rfl (ld_a l0) ?_
  have hv79 := gI_r (r := 201) hJ.1 el_196 (Nat.le_of_ble_eq_true rfl) (y := 6) rfl eg_g6
  refine t_0 qf_79 rfl (pget el_196 hv79) ?_
  refine t_0 qf_82 rfl (ld_i l1) ?_
  refine t_0 qf_83 rfl (piald (by decide) el_201 hcl) ?_
  refine t_ia qf_84 hJ el_228 w228 (by rw [eg_a228]; exact ok_full32 _) (by decide +kernel) (fun g8 hJ _ _ _ => ?_)
  show t_X d 190 85 lv [] g8 P
  have hf8 := gI_r (r := 228) hJ.1 el_196 (Nat.le_of_ble_eq_true rfl) (y := 48) rfl eg_f48
  refine t_0 qf_85 rfl (ld_a l0) ?_
  refine t_0 qf_86 rfl (pget el_196 hf8) ?_
  refine t_0 qf_89 rfl rfl ?_
  refine t_0 qf_91 rfl rfl ?_
  refine t_ia qf_92 hJ el_228 w228 (by rw [eg_a228]; exact ok_full32 _) (by decide +kernel) (fun g9 hJ _ _ _ => ?_)
  show t_X d 190 93 lv [] g9 P
  have hf9 := gI_r (r := 228) hJ.1 el_196 (Nat.le_of_ble_eq_true rfl) (y := 48) rfl eg_f48
  refine t_0 qf_93 rfl (ld_a l0) ?_
  refine t_0 qf_94 rfl (pget el_196 hf9) ?_
  refine t_0 qf_97 rfl rfl ?_
  refine t_0 qf_99 rfl rfl ?_
  refine t_ia qf_100 hJ el_228 w228 (by rw [eg_a228]; exact ok_full32 _) (by decide +kernel) (fun g10 hJ _ _ _ => ?_)
  show t_X d 190 101 lv [] g10 P
  have hf10 := gI_r (r := 228) hJ.1 el_196 (Nat.le_of_ble_eq_true rfl) (y := 48) rfl eg_f48
  refine t_0 qf_101 rfl (ld_a l0) ?_
  refine t_0 qf_102 rfl (pget el_196 hf10) ?_
  refine t_0 qf_105 rfl rfl ?_
  refine t_0 qf_107 rfl rfl ?_
  refine t_ia qf_108 hJ el_228 w228 (by rw [eg_a228]; exact ok_full32 _) (by decide +kernel) (fun g11 hJ _ _ _ => ?_)
  show t_X d 190 109 lv [] g11 P
  have hf11 := gI_r (r := 228) hJ.1 el_196 (Nat.le_of_ble_eq_true rfl) (y := 48) rfl eg_f48
  refine t_5 qf_109 rfl rfl ?_
  exact hP _ hJ
